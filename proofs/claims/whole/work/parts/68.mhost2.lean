/-! ===== the model's readHost ===== -/
theorem wrt_map {g : Nat → Int32} {i f : Nat} {L : List Int32} (hf : f ≤ i) (hi : i < L.length) {x v : Int32} (hv : vp_nar .byte x = toLo (gx L i)) {q : Nat} (hq : q = i - f) : upd (wrt g 0 ((sub L f i).map toLo)) q (vp_nar .byte x) = wrt g 0 ((sub L f (i + 1)).map toLo) := by
  have h9 := wrt_put (g := g) (n := 0) (i := q) (D := (sub L f i).map toLo) hv (by rw [List.length_map, sub_len (by omega), Nat.zero_add]; exact hq)
  rw [h9, sub_snoc hf hi, List.map_append]
  rfl
theorem bt_toLo {x : Int32} (h : bt x) : bt (toLo x) := by
  have h1 := bt_iff.mp h
  have h2 := toLo_i x
  by_cases hu : 65 ≤ x.toInt ∧ x.toInt ≤ 90
  · exact bt_iff.mpr (by rw [h2.1 hu]; omega)
  · rw [h2.2 hu]; exact h
/-- where the host and the port end -/
def hst (L : List Int32) (f t : Nat) : Nat := Nat.min (fw (nev 47) L f t) (fw (nev 63) L f t)
def hoE (L : List Int32) (f t : Nat) : Nat := fw hoB L f (hst L f t)
/-- the host in lower letters, with its port -/
def mho (L : List Int32) (f t : Nat) : Option (List Int32) := if hoE L f t = f ∨ 60 < hoE L f t - f then none else if hoE L f t = hst L f t then some ((sub L f (hoE L f t)).map toLo) else match mpt L (hoE L f t) (hst L f t) with
  | none => none
  | some p => some ((sub L f (hoE L f t)).map toLo ++ ptx (some p))
theorem hst_bd {L : List Int32} {f t : Nat} (h : f ≤ t) : f ≤ hst L f t ∧ hst L f t ≤ t := by
  have h1 := fw_bd (p := nev 47) (L := L) h
  have h2 := fw_bd (p := nev 63) (L := L) h
  have h3 := nmin_bd (fw (nev 47) L f t) (fw (nev 63) L f t)
  unfold hst
  omega
theorem wrt_two (g : Nat → Int32) (n : Nat) (D E : List Int32) (h : n = 0 + D.length) : tx (wrt (wrt g 0 D) n E) 0 (D ++ E) := fun j hj => by
  rw [List.length_append] at hj
  unfold wrt
  by_cases h1 : j < D.length
  · rw [if_neg (by omega), if_pos (by omega), gx_app_l h1, Nat.zero_add, Nat.sub_zero]
  · rw [if_pos (by omega), gx_app_r (by omega)]
    congr 1
    omega
section MHP
variable {X : am_X} {d s t ca f : Nat} {A B : List va_E} {S : MS} {L : List Int32}
theorem v_M_readHost {Q : Option Value → List va_E → Prop} {eh : Nat} (hx : tt (mput A S B) ca s L) (he : eh ≤ L.length) : ∀ n i : Nat, i + n = eh → am_G X mt_M_readHost (d + 2) 39 [some (.ref 84), some (.ref ca), some (.int (nI (s + f))), some (.int (nI (s + t))), none, none, some (.int (nI (s + eh))), some (.int (nI (s + (fw hoB L i eh)))), none] [] (mput A S B) Q → am_G X mt_M_readHost (d + 2) 39 [some (.ref 84), some (.ref ca), some (.int (nI (s + f))), some (.int (nI (s + t))), none, none, some (.int (nI (s + eh))), some (.int (nI (s + i))), none] [] (mput A S B) Q
  | 0, i, e, K => by
    have e1 : fw hoB L i eh = i := fw_0 (by omega)
    rw [e1] at K
    exact K
  | n + 1, i, e, K => by
    by_cases hp : hoB (gx L i) = true
    · rw [fw_t (by omega) hp] at K
      have hx0 := hx
      obtain ⟨cap, g, ha, hT, hs, hc⟩ := hx
      refine g_iload (pc := 39) dc_M_readHost_39 rfl ?_
      refine g_iload (pc := 41) dc_M_readHost_41 rfl ?_
      refine q_icmp_ge (pc := 43) (tgt := 90) (s + i) (s + eh) dc_M_readHost_43 (by omega) (by omega) rfl (fun hc => absurd hc (by omega)) (fun hc43 => ?_)
      refine g_aload_n (pc := 46) dc_M_readHost_46 rfl ?_
      refine g_iload (pc := 47) dc_M_readHost_47 rfl ?_
      refine q_tx (pc := 49) i dc_M_readHost_49 ha hT hs (by omega) hc ?_
      refine g_s1 (pc := 50) (M' := mt_M_isLetter) dc_M_readHost_50 mo_M_isLetter st_M_isLetter ln_M_58 (Nat.le_of_ble_eq_true rfl) (Nat.le_of_ble_eq_true rfl) (am_G.mono (c_M_isLetter (v := (gx L i))) ?_)
      intro r h1 hq
      rw [hq.1, hq.2]
      clear hq h1 r
      refine ⟨am_nti _, ?_⟩
      refine q_ifb_ne (pc := 53) (tgt := 84) dc_M_readHost_53 rfl (fun hc53 => ?_) (fun hc53 => ?_)
      · refine g_iinc (pc := 84) (v := (nI (s + (i + 1)))) dc_M_readHost_84 rfl (q_as s i 1) (by decide) ?_
        show am_G X mt_M_readHost _ 87 [some (.ref 84), some (.ref ca), some (.int (nI (s + f))), some (.int (nI (s + t))), none, none, some (.int (nI (s + eh))), some (.int (nI (s + (i + 1)))), none] [] _ _
        refine g_goto (pc := 87) (tgt := 39) dc_M_readHost_87 rfl ?_
        exact v_M_readHost hx0 he n (i + 1) (by omega) K
      · refine g_aload_n (pc := 56) dc_M_readHost_56 rfl ?_
        refine g_iload (pc := 57) dc_M_readHost_57 rfl ?_
        refine q_tx (pc := 59) i dc_M_readHost_59 ha hT hs (by omega) hc ?_
        refine g_s1 (pc := 60) (M' := mt_M_isDigit) dc_M_readHost_60 mo_M_isDigit st_M_isDigit ln_M_11 (Nat.le_of_ble_eq_true rfl) (Nat.le_of_ble_eq_true rfl) (am_G.mono (c_M_isDigit (v := (gx L i))) ?_)
        intro r h1 hq
        rw [hq.1, hq.2]
        clear hq h1 r
        refine ⟨am_nti _, ?_⟩
        refine q_ifb_ne (pc := 63) (tgt := 84) dc_M_readHost_63 rfl (fun hc63 => ?_) (fun hc63 => ?_)
        · refine g_iinc (pc := 84) (v := (nI (s + (i + 1)))) dc_M_readHost_84 rfl (q_as s i 1) (by decide) ?_
          show am_G X mt_M_readHost _ 87 [some (.ref 84), some (.ref ca), some (.int (nI (s + f))), some (.int (nI (s + t))), none, none, some (.int (nI (s + eh))), some (.int (nI (s + (i + 1)))), none] [] _ _
          refine g_goto (pc := 87) (tgt := 39) dc_M_readHost_87 rfl ?_
          exact v_M_readHost hx0 he n (i + 1) (by omega) K
        · refine g_aload_n (pc := 66) dc_M_readHost_66 rfl ?_
          refine g_iload (pc := 67) dc_M_readHost_67 rfl ?_
          refine q_tx (pc := 69) i dc_M_readHost_69 ha hT hs (by omega) hc ?_
          refine g_bipush (pc := 70) (v := 45) dc_M_readHost_70 rfl ?_
          refine g_icmp_eq (pc := 72) (tgt := 84) dc_M_readHost_72 rfl (fun hc72 => ?_) (fun hc72 => ?_)
          · refine g_iinc (pc := 84) (v := (nI (s + (i + 1)))) dc_M_readHost_84 rfl (q_as s i 1) (by decide) ?_
            show am_G X mt_M_readHost _ 87 [some (.ref 84), some (.ref ca), some (.int (nI (s + f))), some (.int (nI (s + t))), none, none, some (.int (nI (s + eh))), some (.int (nI (s + (i + 1)))), none] [] _ _
            refine g_goto (pc := 87) (tgt := 39) dc_M_readHost_87 rfl ?_
            exact v_M_readHost hx0 he n (i + 1) (by omega) K
          · refine g_aload_n (pc := 75) dc_M_readHost_75 rfl ?_
            refine g_iload (pc := 76) dc_M_readHost_76 rfl ?_
            refine q_tx (pc := 78) i dc_M_readHost_78 ha hT hs (by omega) hc ?_
            refine g_bipush (pc := 79) (v := 46) dc_M_readHost_79 rfl ?_
            refine g_icmp_ne (pc := 81) (tgt := 90) dc_M_readHost_81 rfl (fun hc81 => ?_) (fun hc81 => ?_)
            · exact absurd hp (by simp [hoB, hc43, hc53, hc63, hc72, hc81])
            · refine g_iinc (pc := 84) (v := (nI (s + (i + 1)))) dc_M_readHost_84 rfl (q_as s i 1) (by decide) ?_
              show am_G X mt_M_readHost _ 87 [some (.ref 84), some (.ref ca), some (.int (nI (s + f))), some (.int (nI (s + t))), none, none, some (.int (nI (s + eh))), some (.int (nI (s + (i + 1)))), none] [] _ _
              refine g_goto (pc := 87) (tgt := 39) dc_M_readHost_87 rfl ?_
              exact v_M_readHost hx0 he n (i + 1) (by omega) K
    · rw [fw_f hp] at K
      exact K
theorem w_M_readHost {Q : Option Value → List va_E → Prop} {k e : Nat} (hA : A.length = 84) (hX : ∀ S1 : MS, S1.coming = S.coming → S1.addresses = S.addresses → S1.texts = S.texts → S1.values = S.values → S1.decoded = S.decoded → tt (mput A S1 B) ca s L) (hb : ∀ j, bt (gx L j)) (hk : k ≤ L.length) (h60 : k - f ≤ 60) : ∀ n i : Nat, i + n = k → f ≤ i → am_G X mt_M_readHost (d + 2) 115 [some (.ref 84), some (.ref ca), some (.int (nI (s + f))), some (.int (nI (s + t))), none, none, some (.int (nI (s + e))), some (.int (nI (s + k))), some (.int (nI (s + k)))] [] (mput A ((S.s_hostLength (k - f)).s_host (wrt S.host 0 ((sub L f k).map toLo))) B) Q → am_G X mt_M_readHost (d + 2) 115 [some (.ref 84), some (.ref ca), some (.int (nI (s + f))), some (.int (nI (s + t))), none, none, some (.int (nI (s + e))), some (.int (nI (s + k))), some (.int (nI (s + i)))] [] (mput A ((S.s_hostLength (i - f)).s_host (wrt S.host 0 ((sub L f i).map toLo))) B) Q
  | 0, i, e9, hfi, K => by
    obtain rfl : i = k := by omega
    exact K
  | n + 1, i, e9, hfi, K => by
    have hx := hX ((S.s_hostLength (i - f)).s_host (wrt S.host 0 ((sub L f i).map toLo))) rfl rfl rfl rfl rfl
    have hx0 := hx
    obtain ⟨cap, g, ha, hT, hs, hc⟩ := hx
    refine g_iload (pc := 115) dc_M_readHost_115 rfl ?_
    refine g_iload (pc := 117) dc_M_readHost_117 rfl ?_
    refine q_icmp_ge (pc := 119) (tgt := 155) (s + i) (s + k) dc_M_readHost_119 (by omega) (by omega) rfl (fun hc => absurd hc (by omega)) (fun hc119 => ?_)
    refine g_aload_n (pc := 122) dc_M_readHost_122 rfl ?_
    refine g_getfield (pc := 123) dc_M_readHost_123 fl_M_67 (mp_o hA) rfl ?_
    refine g_aload_n (pc := 126) dc_M_readHost_126 rfl ?_
    refine g_getfield (pc := 127) dc_M_readHost_127 fl_M_64 (mp_o hA) rfl ?_
    refine g_aload_n (pc := 130) dc_M_readHost_130 rfl ?_
    refine g_iload (pc := 131) dc_M_readHost_131 rfl ?_
    refine q_tx (pc := 133) i dc_M_readHost_133 ha hT hs (by omega) hc ?_
    refine g_s1 (pc := 134) (M' := mt_M_lower) dc_M_readHost_134 mo_M_lower st_M_lower ln_M_7 (Nat.le_of_ble_eq_true rfl) (Nat.le_of_ble_eq_true rfl) (am_G.mono (c_M_lower (v := (gx L i))) ?_)
    intro r h1 hq
    rw [hq.1, hq.2]
    clear hq h1 r
    refine ⟨am_nti _, ?_⟩
    refine g_i2b (pc := 137) dc_M_readHost_137 (i8_bt (bt_toLo (hb i))) ?_
    refine asE_host (pc := 138) (i - f) (g := wrt S.host 0 ((sub L f (i + 1)).map toLo)) hA dc_M_readHost_138 (by omega) (wrt_map (v := toLo (gx L i)) hfi (by omega) (nar_bt (bt_toLo (hb i))) rfl) ?_
    rw [MS.ss_host]
    refine g_aload_n (pc := 139) dc_M_readHost_139 rfl ?_
    refine g_dup (pc := 140) dc_M_readHost_140 rfl ?_
    refine g_getfield (pc := 141) dc_M_readHost_141 fl_M_64 (mp_o hA) rfl ?_
    refine g_iconst (pc := 144) (v := 1) dc_M_readHost_144 rfl ?_
    refine g_iadd (pc := 145) (v := (nI (i + 1 - f))) dc_M_readHost_145 ((nI_add (i - f) 1).trans (congrArg nI (by omega))) ?_
    refine pf_hostLength (pc := 146) (v := i + 1 - f) hA dc_M_readHost_146 fp_M_readHost_64 ?_
    refine g_iinc (pc := 149) (v := (nI (s + (i + 1)))) dc_M_readHost_149 rfl (q_as s i 1) (by decide) ?_
    show am_G X mt_M_readHost _ 152 [some (.ref 84), some (.ref ca), some (.int (nI (s + f))), some (.int (nI (s + t))), none, none, some (.int (nI (s + e))), some (.int (nI (s + k))), some (.int (nI (s + (i + 1))))] [] _ _
    refine g_goto (pc := 152) (tgt := 115) dc_M_readHost_152 rfl ?_
    exact w_M_readHost hA hX hb hk h60 n (i + 1) (by omega) (by omega) K
theorem u_M_readHost (hA : A.length = 84) (hX : ∀ S1 : MS, S1.coming = S.coming → S1.addresses = S.addresses → S1.texts = S.texts → S1.values = S.values → S1.decoded = S.decoded → tt (mput A S1 B) ca s L) (hb : ∀ j, bt (gx L j)) (hft : f ≤ t) (ht : t ≤ L.length) : am_G X mt_M_readHost (d + 2) 34 [some (.ref 84), some (.ref ca), some (.int (nI (s + f))), some (.int (nI (s + t))), none, none, none, none, none] [.int (nI (s + hst L f t))] (mput A S B) (fun r h1 => ∃ g n, h1 = mput A ((S.s_host g).s_hostLength n) B ∧ match mho L f t with | some H => r = some (.int (nI (s + hst L f t))) ∧ n = H.length ∧ tx g 0 H | none => r = some (.int (-1))) := by
  have hx := hX S rfl rfl rfl rfl rfl
  have hx0 := hx
  have hbd := hst_bd (L := L) hft
  have hkb := fw_bd (p := hoB) (L := L) (f := f) (t := hst L f t) hbd.1
  have hko := fw_out (p := hoB) (L := L) (f := f) (t := hst L f t)
  refine g_istore (pc := 34) dc_M_readHost_34 (by decide) ?_
  show am_G X mt_M_readHost _ 36 [some (.ref 84), some (.ref ca), some (.int (nI (s + f))), some (.int (nI (s + t))), none, none, some (.int (nI (s + (hst L f t)))), none, none] [] _ _
  refine g_iload_n (pc := 36) dc_M_readHost_36 rfl ?_
  refine g_istore (pc := 37) dc_M_readHost_37 (by decide) ?_
  show am_G X mt_M_readHost _ 39 [some (.ref 84), some (.ref ca), some (.int (nI (s + f))), some (.int (nI (s + t))), none, none, some (.int (nI (s + (hst L f t)))), some (.int (nI (s + f))), none] [] _ _
  refine v_M_readHost hx0 (by omega) (hst L f t - f) f (by omega) ?_
  have hk9 : fw hoB L f (hst L f t) = hoE L f t := rfl
  rw [hk9] at hkb hko ⊢
  obtain ⟨cap, g, ha, hT, hs, hc⟩ := hx
  refine g_iload (pc := 39) dc_M_readHost_39 rfl ?_
  refine g_iload (pc := 41) dc_M_readHost_41 rfl ?_
  refine q_icmp_ge (pc := 43) (tgt := 90) (s + (hoE L f t)) (s + (hst L f t)) dc_M_readHost_43 (by omega) (by omega) rfl (fun hc43 => ?_) (fun hc43 => ?_)
  · refine g_iload (pc := 90) dc_M_readHost_90 rfl ?_
    refine g_iload_n (pc := 92) dc_M_readHost_92 rfl ?_
    refine q_icmp_eq (pc := 93) (tgt := 105) (s + (hoE L f t)) (s + f) dc_M_readHost_93 (by omega) (by omega) rfl (fun hc93 => ?_) (fun hc93 => ?_)
    · refine g_iconst (pc := 105) (v := (-1)) dc_M_readHost_105 rfl ?_
      have e9 : mho L f t = none := by unfold mho; rw [if_pos (by omega)]
      exact g_ireturn dc_M_readHost_106 rfl ⟨S.host, S.hostLength, rfl, by rw [e9]⟩
    · refine g_iload (pc := 96) dc_M_readHost_96 rfl ?_
      refine g_iload_n (pc := 98) dc_M_readHost_98 rfl ?_
      refine g_isub (pc := 99) (v := (nI (hoE L f t - f))) dc_M_readHost_99 (q_ss (s := s) (a := hoE L f t) (b := f) (by omega)) ?_
      refine g_bipush (pc := 100) (v := 60) dc_M_readHost_100 rfl ?_
      refine q_icmp_le (pc := 102) (tgt := 107) (hoE L f t - f) 60 dc_M_readHost_102 (by omega) (by omega) rfl (fun hc102 => ?_) (fun hc102 => ?_)
      · refine g_aload_n (pc := 107) dc_M_readHost_107 rfl ?_
        refine g_iconst (pc := 108) (v := 0) dc_M_readHost_108 rfl ?_
        refine pf_hostLength (pc := 109) (v := 0) hA dc_M_readHost_109 fp_M_readHost_64 ?_
        refine g_iload_n (pc := 112) dc_M_readHost_112 rfl ?_
        refine g_istore (pc := 113) dc_M_readHost_113 (by decide) ?_
        show am_G X mt_M_readHost _ 115 [some (.ref 84), some (.ref ca), some (.int (nI (s + f))), some (.int (nI (s + t))), none, none, some (.int (nI (s + (hst L f t)))), some (.int (nI (s + (hoE L f t)))), some (.int (nI (s + f)))] [] _ _
        have hK : am_G X mt_M_readHost (d + 2) 115 [some (.ref 84), some (.ref ca), some (.int (nI (s + f))), some (.int (nI (s + t))), none, none, some (.int (nI (s + (hst L f t)))), some (.int (nI (s + (hoE L f t)))), some (.int (nI (s + f)))] [] (mput A ((S.s_hostLength (f - f)).s_host (wrt S.host 0 ((sub L f f).map toLo))) B) (fun r h1 => ∃ g n, h1 = mput A ((S.s_host g).s_hostLength n) B ∧ match mho L f t with | some H => r = some (.int (nI (s + hst L f t))) ∧ n = H.length ∧ tx g 0 H | none => r = some (.int (-1))) := by
          refine w_M_readHost hA hX hb (by omega) (by omega) (hoE L f t - f) f (by omega) (Nat.le_refl _) ?_
          refine g_iload (pc := 115) dc_M_readHost_115 rfl ?_
          refine g_iload (pc := 117) dc_M_readHost_117 rfl ?_
          refine q_icmp_ge (pc := 119) (tgt := 155) (s + (hoE L f t)) (s + (hoE L f t)) dc_M_readHost_119 (by omega) (by omega) rfl (fun hc119 => ?_) (fun hc => absurd hc (by omega))
          refine g_iload (pc := 155) dc_M_readHost_155 rfl ?_
          refine g_iload (pc := 157) dc_M_readHost_157 rfl ?_
          refine q_icmp_ne (pc := 159) (tgt := 167) (s + (hoE L f t)) (s + (hst L f t)) dc_M_readHost_159 (by omega) (by omega) rfl (fun hc159 => ?_) (fun hc159 => ?_)
          · refine g_aload_n (pc := 167) dc_M_readHost_167 rfl ?_
            refine g_aload_n (pc := 168) dc_M_readHost_168 rfl ?_
            refine g_iload (pc := 169) dc_M_readHost_169 rfl ?_
            refine g_iload (pc := 171) dc_M_readHost_171 rfl ?_
            refine g_v3 (pc := 173) (M' := mt_M_readPort) dc_M_readHost_173 mo_M_readPort im_M_readPort se_M_readPort ln_M_70 (mp_o hA) rfl rfl (Nat.le_of_ble_eq_true rfl) (Nat.le_of_ble_eq_true rfl) (am_G.mono (c_M_readPort (d := d) (S := ((S.s_hostLength ((hoE L f t) - f)).s_host (wrt S.host 0 ((sub L f (hoE L f t)).map toLo)))) (n := hoE L f t - f) (c := hoE L f t) (t := hst L f t) hA rfl (by omega) (hX ((S.s_hostLength ((hoE L f t) - f)).s_host (wrt S.host 0 ((sub L f (hoE L f t)).map toLo))) rfl rfl rfl rfl rfl) (by omega) (by omega)) ?_)
            intro r h1 hq
            rw [hq.1, hq.2]
            clear hq h1 r
            refine ⟨am_nti _, ?_⟩
            refine q_ifb_eq (pc := 176) (tgt := 184) dc_M_readHost_176 rfl (fun hc176 => ?_) (fun hc176 => ?_)
            · refine g_iconst (pc := 184) (v := (-1)) dc_M_readHost_184 rfl ?_
              have hp9 : mpt L (hoE L f t) (hst L f t) = none := by cases e8 : mpt L (hoE L f t) (hst L f t) with | none => rfl | some p => rw [e8] at hc176; cases hc176
              have e9 : mho L f t = none := by unfold mho; rw [if_neg (by omega), if_neg (by omega), hp9]
              exact g_ireturn dc_M_readHost_185 rfl ⟨wrt (wrt S.host 0 ((sub L f (hoE L f t)).map toLo)) (hoE L f t - f) (ptx (mpt L (hoE L f t) (hst L f t))), hoE L f t - f + (ptx (mpt L (hoE L f t) (hst L f t))).length, rfl, by rw [e9]⟩
            · refine g_iload (pc := 179) dc_M_readHost_179 rfl ?_
              refine g_goto (pc := 181) (tgt := 185) dc_M_readHost_181 rfl ?_
              obtain ⟨p9, hp9⟩ := Option.isSome_iff_exists.mp hc176
              have e9 : mho L f t = some ((sub L f (hoE L f t)).map toLo ++ ptx (some p9)) := by unfold mho; rw [if_neg (by omega), if_neg (by omega), hp9]
              exact g_ireturn dc_M_readHost_185 rfl ⟨wrt (wrt S.host 0 ((sub L f (hoE L f t)).map toLo)) (hoE L f t - f) (ptx (mpt L (hoE L f t) (hst L f t))), hoE L f t - f + (ptx (mpt L (hoE L f t) (hst L f t))).length, rfl, by rw [e9]; exact ⟨rfl, by rw [hp9, List.length_append, List.length_map, sub_len (by omega)], by rw [hp9]; exact wrt_two _ _ _ _ (by rw [List.length_map, sub_len (by omega), Nat.zero_add])⟩⟩
          · refine g_iload (pc := 162) dc_M_readHost_162 rfl ?_
            refine g_goto (pc := 164) (tgt := 185) dc_M_readHost_164 rfl ?_
            have e9 : mho L f t = some ((sub L f (hoE L f t)).map toLo) := by unfold mho; rw [if_neg (by omega), if_pos (by omega)]
            exact g_ireturn dc_M_readHost_185 rfl ⟨wrt S.host 0 ((sub L f (hoE L f t)).map toLo), hoE L f t - f, rfl, by rw [e9]; exact ⟨rfl, by rw [List.length_map, sub_len (by omega)], wrt_tx _ _ _⟩⟩
        rw [Nat.sub_self, sub_nil (Nat.le_refl f)] at hK
        rw [show List.map toLo [] = [] from rfl, wrt_nil] at hK
        exact hK
      · refine g_iconst (pc := 105) (v := (-1)) dc_M_readHost_105 rfl ?_
        have e9 : mho L f t = none := by unfold mho; rw [if_pos (by omega)]
        exact g_ireturn dc_M_readHost_106 rfl ⟨S.host, S.hostLength, rfl, by rw [e9]⟩
  · refine g_aload_n (pc := 46) dc_M_readHost_46 rfl ?_
    refine g_iload (pc := 47) dc_M_readHost_47 rfl ?_
    refine q_tx (pc := 49) (hoE L f t) dc_M_readHost_49 ha hT hs (by omega) hc ?_
    refine g_s1 (pc := 50) (M' := mt_M_isLetter) dc_M_readHost_50 mo_M_isLetter st_M_isLetter ln_M_58 (Nat.le_of_ble_eq_true rfl) (Nat.le_of_ble_eq_true rfl) (am_G.mono (c_M_isLetter (v := (gx L (hoE L f t)))) ?_)
    intro r h1 hq
    rw [hq.1, hq.2]
    clear hq h1 r
    refine ⟨am_nti _, ?_⟩
    refine q_ifb_ne (pc := 53) (tgt := 84) dc_M_readHost_53 rfl (fun hc53 => ?_) (fun hc53 => ?_)
    · exact absurd (hko (by omega)) (by simp [hoB, hc53])
    · refine g_aload_n (pc := 56) dc_M_readHost_56 rfl ?_
      refine g_iload (pc := 57) dc_M_readHost_57 rfl ?_
      refine q_tx (pc := 59) (hoE L f t) dc_M_readHost_59 ha hT hs (by omega) hc ?_
      refine g_s1 (pc := 60) (M' := mt_M_isDigit) dc_M_readHost_60 mo_M_isDigit st_M_isDigit ln_M_11 (Nat.le_of_ble_eq_true rfl) (Nat.le_of_ble_eq_true rfl) (am_G.mono (c_M_isDigit (v := (gx L (hoE L f t)))) ?_)
      intro r h1 hq
      rw [hq.1, hq.2]
      clear hq h1 r
      refine ⟨am_nti _, ?_⟩
      refine q_ifb_ne (pc := 63) (tgt := 84) dc_M_readHost_63 rfl (fun hc63 => ?_) (fun hc63 => ?_)
      · exact absurd (hko (by omega)) (by simp [hoB, hc53, hc63])
      · refine g_aload_n (pc := 66) dc_M_readHost_66 rfl ?_
        refine g_iload (pc := 67) dc_M_readHost_67 rfl ?_
        refine q_tx (pc := 69) (hoE L f t) dc_M_readHost_69 ha hT hs (by omega) hc ?_
        refine g_bipush (pc := 70) (v := 45) dc_M_readHost_70 rfl ?_
        refine g_icmp_eq (pc := 72) (tgt := 84) dc_M_readHost_72 rfl (fun hc72 => ?_) (fun hc72 => ?_)
        · exact absurd (hko (by omega)) (by simp [hoB, hc53, hc63, hc72])
        · refine g_aload_n (pc := 75) dc_M_readHost_75 rfl ?_
          refine g_iload (pc := 76) dc_M_readHost_76 rfl ?_
          refine q_tx (pc := 78) (hoE L f t) dc_M_readHost_78 ha hT hs (by omega) hc ?_
          refine g_bipush (pc := 79) (v := 46) dc_M_readHost_79 rfl ?_
          refine g_icmp_ne (pc := 81) (tgt := 90) dc_M_readHost_81 rfl (fun hc81 => ?_) (fun hc81 => ?_)
          · refine g_iload (pc := 90) dc_M_readHost_90 rfl ?_
            refine g_iload_n (pc := 92) dc_M_readHost_92 rfl ?_
            refine q_icmp_eq (pc := 93) (tgt := 105) (s + (hoE L f t)) (s + f) dc_M_readHost_93 (by omega) (by omega) rfl (fun hc93 => ?_) (fun hc93 => ?_)
            · refine g_iconst (pc := 105) (v := (-1)) dc_M_readHost_105 rfl ?_
              have e9 : mho L f t = none := by unfold mho; rw [if_pos (by omega)]
              exact g_ireturn dc_M_readHost_106 rfl ⟨S.host, S.hostLength, rfl, by rw [e9]⟩
            · refine g_iload (pc := 96) dc_M_readHost_96 rfl ?_
              refine g_iload_n (pc := 98) dc_M_readHost_98 rfl ?_
              refine g_isub (pc := 99) (v := (nI (hoE L f t - f))) dc_M_readHost_99 (q_ss (s := s) (a := hoE L f t) (b := f) (by omega)) ?_
              refine g_bipush (pc := 100) (v := 60) dc_M_readHost_100 rfl ?_
              refine q_icmp_le (pc := 102) (tgt := 107) (hoE L f t - f) 60 dc_M_readHost_102 (by omega) (by omega) rfl (fun hc102 => ?_) (fun hc102 => ?_)
              · refine g_aload_n (pc := 107) dc_M_readHost_107 rfl ?_
                refine g_iconst (pc := 108) (v := 0) dc_M_readHost_108 rfl ?_
                refine pf_hostLength (pc := 109) (v := 0) hA dc_M_readHost_109 fp_M_readHost_64 ?_
                refine g_iload_n (pc := 112) dc_M_readHost_112 rfl ?_
                refine g_istore (pc := 113) dc_M_readHost_113 (by decide) ?_
                show am_G X mt_M_readHost _ 115 [some (.ref 84), some (.ref ca), some (.int (nI (s + f))), some (.int (nI (s + t))), none, none, some (.int (nI (s + (hst L f t)))), some (.int (nI (s + (hoE L f t)))), some (.int (nI (s + f)))] [] _ _
                have hK : am_G X mt_M_readHost (d + 2) 115 [some (.ref 84), some (.ref ca), some (.int (nI (s + f))), some (.int (nI (s + t))), none, none, some (.int (nI (s + (hst L f t)))), some (.int (nI (s + (hoE L f t)))), some (.int (nI (s + f)))] [] (mput A ((S.s_hostLength (f - f)).s_host (wrt S.host 0 ((sub L f f).map toLo))) B) (fun r h1 => ∃ g n, h1 = mput A ((S.s_host g).s_hostLength n) B ∧ match mho L f t with | some H => r = some (.int (nI (s + hst L f t))) ∧ n = H.length ∧ tx g 0 H | none => r = some (.int (-1))) := by
                  refine w_M_readHost hA hX hb (by omega) (by omega) (hoE L f t - f) f (by omega) (Nat.le_refl _) ?_
                  refine g_iload (pc := 115) dc_M_readHost_115 rfl ?_
                  refine g_iload (pc := 117) dc_M_readHost_117 rfl ?_
                  refine q_icmp_ge (pc := 119) (tgt := 155) (s + (hoE L f t)) (s + (hoE L f t)) dc_M_readHost_119 (by omega) (by omega) rfl (fun hc119 => ?_) (fun hc => absurd hc (by omega))
                  refine g_iload (pc := 155) dc_M_readHost_155 rfl ?_
                  refine g_iload (pc := 157) dc_M_readHost_157 rfl ?_
                  refine q_icmp_ne (pc := 159) (tgt := 167) (s + (hoE L f t)) (s + (hst L f t)) dc_M_readHost_159 (by omega) (by omega) rfl (fun hc159 => ?_) (fun hc159 => ?_)
                  · refine g_aload_n (pc := 167) dc_M_readHost_167 rfl ?_
                    refine g_aload_n (pc := 168) dc_M_readHost_168 rfl ?_
                    refine g_iload (pc := 169) dc_M_readHost_169 rfl ?_
                    refine g_iload (pc := 171) dc_M_readHost_171 rfl ?_
                    refine g_v3 (pc := 173) (M' := mt_M_readPort) dc_M_readHost_173 mo_M_readPort im_M_readPort se_M_readPort ln_M_70 (mp_o hA) rfl rfl (Nat.le_of_ble_eq_true rfl) (Nat.le_of_ble_eq_true rfl) (am_G.mono (c_M_readPort (d := d) (S := ((S.s_hostLength ((hoE L f t) - f)).s_host (wrt S.host 0 ((sub L f (hoE L f t)).map toLo)))) (n := hoE L f t - f) (c := hoE L f t) (t := hst L f t) hA rfl (by omega) (hX ((S.s_hostLength ((hoE L f t) - f)).s_host (wrt S.host 0 ((sub L f (hoE L f t)).map toLo))) rfl rfl rfl rfl rfl) (by omega) (by omega)) ?_)
                    intro r h1 hq
                    rw [hq.1, hq.2]
                    clear hq h1 r
                    refine ⟨am_nti _, ?_⟩
                    refine q_ifb_eq (pc := 176) (tgt := 184) dc_M_readHost_176 rfl (fun hc176 => ?_) (fun hc176 => ?_)
                    · refine g_iconst (pc := 184) (v := (-1)) dc_M_readHost_184 rfl ?_
                      have hp9 : mpt L (hoE L f t) (hst L f t) = none := by cases e8 : mpt L (hoE L f t) (hst L f t) with | none => rfl | some p => rw [e8] at hc176; cases hc176
                      have e9 : mho L f t = none := by unfold mho; rw [if_neg (by omega), if_neg (by omega), hp9]
                      exact g_ireturn dc_M_readHost_185 rfl ⟨wrt (wrt S.host 0 ((sub L f (hoE L f t)).map toLo)) (hoE L f t - f) (ptx (mpt L (hoE L f t) (hst L f t))), hoE L f t - f + (ptx (mpt L (hoE L f t) (hst L f t))).length, rfl, by rw [e9]⟩
                    · refine g_iload (pc := 179) dc_M_readHost_179 rfl ?_
                      refine g_goto (pc := 181) (tgt := 185) dc_M_readHost_181 rfl ?_
                      obtain ⟨p9, hp9⟩ := Option.isSome_iff_exists.mp hc176
                      have e9 : mho L f t = some ((sub L f (hoE L f t)).map toLo ++ ptx (some p9)) := by unfold mho; rw [if_neg (by omega), if_neg (by omega), hp9]
                      exact g_ireturn dc_M_readHost_185 rfl ⟨wrt (wrt S.host 0 ((sub L f (hoE L f t)).map toLo)) (hoE L f t - f) (ptx (mpt L (hoE L f t) (hst L f t))), hoE L f t - f + (ptx (mpt L (hoE L f t) (hst L f t))).length, rfl, by rw [e9]; exact ⟨rfl, by rw [hp9, List.length_append, List.length_map, sub_len (by omega)], by rw [hp9]; exact wrt_two _ _ _ _ (by rw [List.length_map, sub_len (by omega), Nat.zero_add])⟩⟩
                  · refine g_iload (pc := 162) dc_M_readHost_162 rfl ?_
                    refine g_goto (pc := 164) (tgt := 185) dc_M_readHost_164 rfl ?_
                    have e9 : mho L f t = some ((sub L f (hoE L f t)).map toLo) := by unfold mho; rw [if_neg (by omega), if_pos (by omega)]
                    exact g_ireturn dc_M_readHost_185 rfl ⟨wrt S.host 0 ((sub L f (hoE L f t)).map toLo), hoE L f t - f, rfl, by rw [e9]; exact ⟨rfl, by rw [List.length_map, sub_len (by omega)], wrt_tx _ _ _⟩⟩
                rw [Nat.sub_self, sub_nil (Nat.le_refl f)] at hK
                rw [show List.map toLo [] = [] from rfl, wrt_nil] at hK
                exact hK
              · refine g_iconst (pc := 105) (v := (-1)) dc_M_readHost_105 rfl ?_
                have e9 : mho L f t = none := by unfold mho; rw [if_pos (by omega)]
                exact g_ireturn dc_M_readHost_106 rfl ⟨S.host, S.hostLength, rfl, by rw [e9]⟩
          · exact absurd (hko (by omega)) (by simp [hoB, hc53, hc63, hc72, hc81])
theorem c_M_readHost (hA : A.length = 84) (hX : ∀ S1 : MS, S1.coming = S.coming → S1.addresses = S.addresses → S1.texts = S.texts → S1.values = S.values → S1.decoded = S.decoded → tt (mput A S1 B) ca s L) (hb : ∀ j, bt (gx L j)) (hft : f ≤ t) (ht : t ≤ L.length) : am_C X mt_M_readHost (d + 2) [.ref 84, .ref ca, .int (nI (s + f)), .int (nI (s + t))] (mput A S B) (fun r h1 => ∃ g n, h1 = mput A ((S.s_host g).s_hostLength n) B ∧ match mho L f t with | some H => r = some (.int (nI (s + hst L f t))) ∧ n = H.length ∧ tx g 0 H | none => r = some (.int (-1))) := by
  show am_G X mt_M_readHost (d + 2) 0 [some (.ref 84), some (.ref ca), some (.int (nI (s + f))), some (.int (nI (s + t))), none, none, none, none, none] [] (mput A S B) _
  have hx := hX S rfl rfl rfl rfl rfl
  have hx0 := hx
  obtain ⟨cap, g, ha, hT, hs, hc⟩ := hx
  refine g_aload_n (pc := 0) dc_M_readHost_0 rfl ?_
  refine g_iload_n (pc := 1) dc_M_readHost_1 rfl ?_
  refine g_iload_n (pc := 2) dc_M_readHost_2 rfl ?_
  refine g_bipush (pc := 3) (v := 47) dc_M_readHost_3 rfl ?_
  refine g_s4 (pc := 5) (M' := mt_M_seek) dc_M_readHost_5 mo_M_seek st_M_seek ln_M_48 (Nat.le_of_ble_eq_true rfl) (Nat.le_of_ble_eq_true rfl) (am_G.mono (t_M_seek (v := 47) (f := f) (t := t) hx0 (by omega) (by omega)) ?_)
  intro r h1 hq
  rw [hq.1, hq.2]
  clear hq h1 r
  refine ⟨am_nti _, ?_⟩
  have hb5 := fw_bd (p := nev 47) (L := L) (f := f) (t := t) (by omega)
  refine g_istore (pc := 8) dc_M_readHost_8 (by decide) ?_
  show am_G X mt_M_readHost _ 10 [some (.ref 84), some (.ref ca), some (.int (nI (s + f))), some (.int (nI (s + t))), some (.int (nI (s + (fw (nev 47) L f t)))), none, none, none, none] [] _ _
  refine g_aload_n (pc := 10) dc_M_readHost_10 rfl ?_
  refine g_iload_n (pc := 11) dc_M_readHost_11 rfl ?_
  refine g_iload_n (pc := 12) dc_M_readHost_12 rfl ?_
  refine g_bipush (pc := 13) (v := 63) dc_M_readHost_13 rfl ?_
  refine g_s4 (pc := 15) (M' := mt_M_seek) dc_M_readHost_15 mo_M_seek st_M_seek ln_M_48 (Nat.le_of_ble_eq_true rfl) (Nat.le_of_ble_eq_true rfl) (am_G.mono (t_M_seek (v := 63) (f := f) (t := t) hx0 (by omega) (by omega)) ?_)
  intro r h1 hq
  rw [hq.1, hq.2]
  clear hq h1 r
  refine ⟨am_nti _, ?_⟩
  have hb15 := fw_bd (p := nev 63) (L := L) (f := f) (t := t) (by omega)
  refine g_istore (pc := 18) dc_M_readHost_18 (by decide) ?_
  show am_G X mt_M_readHost _ 20 [some (.ref 84), some (.ref ca), some (.int (nI (s + f))), some (.int (nI (s + t))), some (.int (nI (s + (fw (nev 47) L f t)))), some (.int (nI (s + (fw (nev 63) L f t)))), none, none, none] [] _ _
  refine g_iload (pc := 20) dc_M_readHost_20 rfl ?_
  refine g_iload (pc := 22) dc_M_readHost_22 rfl ?_
  refine q_icmp_ge (pc := 24) (tgt := 32) (s + (fw (nev 47) L f t)) (s + (fw (nev 63) L f t)) dc_M_readHost_24 (by omega) (by omega) rfl (fun hc24 => ?_) (fun hc24 => ?_)
  · refine g_iload (pc := 32) dc_M_readHost_32 rfl ?_
    have hm9 := nmin_bd (fw (nev 47) L f t) (fw (nev 63) L f t)
    have e9 : fw (nev 63) L f t = hst L f t := by unfold hst; omega
    rw [e9]
    refine am_wk (am_le_s (am_le_s (am_le_s (am_le_s (am_le_n (am_le_n (am_le_n (am_le_n (am_le_n am_le_0))))))))) ?_
    exact u_M_readHost hA hX hb hft ht
  · refine g_iload (pc := 27) dc_M_readHost_27 rfl ?_
    refine g_goto (pc := 29) (tgt := 34) dc_M_readHost_29 rfl ?_
    have hm9 := nmin_bd (fw (nev 47) L f t) (fw (nev 63) L f t)
    have e9 : fw (nev 47) L f t = hst L f t := by unfold hst; omega
    rw [e9]
    refine am_wk (am_le_s (am_le_s (am_le_s (am_le_s (am_le_n (am_le_n (am_le_n (am_le_n (am_le_n am_le_0))))))))) ?_
    exact u_M_readHost hA hX hb hft ht
end MHP
