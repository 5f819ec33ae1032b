/-! ===== the model's readReference as a whole ===== -/
section MRU
variable {X : am_X} {d s t ca f k f0 t0 : Nat} {A B : List va_E} {S : MS} {L : List Int32} {T : List (List Int32)} {bo : Option Nat}
theorem k_M_readReference (hA : A.length = 84) (hT : adT S T) (hO : okT T) (hX : txO A B S ca s L) (hca : ca ≠ 92 ∧ ca ≠ 93) (hbL : btg L) (hft : f ≤ t) (ht : t ≤ L.length) (hL8 : L.length ≤ 8000) (hbo : ∀ k, bo = some k → k < T.length) (hal : alp (fun j => isRef L j t) f t = true) : am_G X mt_M_readReference (d + 5) 96 [some (.ref 84), some (.ref ca), none, none, some (.int (er bo)), some (.int (nI (s + f))), some (.int (nI (s + t))), none, none, none, none] [] (mput A S B) (fun r h1 => ∃ S1, h1 = mput A S1 B ∧ scA S S1 ∧ match mrt L f t (bo.map (gT T)) with | some D => r = some (.int 1) ∧ mad S1 D | none => r = some (.int 0)) := by
  have ha9 := hX.tt
  obtain ⟨cap, g, ha, hTx, hs, hc⟩ := ha9
  have hcb := fw_bd (p := nev 58) (L := L) hft
  have hsb := fw_bd (p := nev 47) (L := L) hft
  have hmb := fw_bd (p := nev 63) (L := L) hft
  refine g_aload_n (pc := 96) dc_M_readReference_96 rfl ?_
  refine g_iload (pc := 97) dc_M_readReference_97 rfl ?_
  refine g_iload (pc := 99) dc_M_readReference_99 rfl ?_
  refine g_bipush (pc := 101) (v := 58) dc_M_readReference_101 rfl ?_
  refine g_s4 (pc := 103) (M' := mt_M_seek) dc_M_readReference_103 mo_M_seek st_M_seek ln_M_48 (Nat.le_of_ble_eq_true rfl) (Nat.le_of_ble_eq_true rfl) (am_G.mono (t_M_seek (v := 58) (f := f) (t := t) hX.tt (by omega) (by omega)) ?_)
  intro r h1 hq
  rw [hq.1, hq.2]
  clear hq h1 r
  refine ⟨am_nti _, ?_⟩
  have hb103 := fw_bd (p := nev 58) (L := L) (f := f) (t := t) (by omega)
  refine g_istore (pc := 106) dc_M_readReference_106 (by decide) ?_
  show am_G X mt_M_readReference _ 108 [some (.ref 84), some (.ref ca), none, none, some (.int (er bo)), some (.int (nI (s + f))), some (.int (nI (s + t))), some (.int (nI (s + (fw (nev 58) L f t)))), none, none, none] [] _ _
  refine g_aload_n (pc := 108) dc_M_readReference_108 rfl ?_
  refine g_iload (pc := 109) dc_M_readReference_109 rfl ?_
  refine g_iload (pc := 111) dc_M_readReference_111 rfl ?_
  refine g_bipush (pc := 113) (v := 47) dc_M_readReference_113 rfl ?_
  refine g_s4 (pc := 115) (M' := mt_M_seek) dc_M_readReference_115 mo_M_seek st_M_seek ln_M_48 (Nat.le_of_ble_eq_true rfl) (Nat.le_of_ble_eq_true rfl) (am_G.mono (t_M_seek (v := 47) (f := f) (t := t) hX.tt (by omega) (by omega)) ?_)
  intro r h1 hq
  rw [hq.1, hq.2]
  clear hq h1 r
  refine ⟨am_nti _, ?_⟩
  have hb115 := fw_bd (p := nev 47) (L := L) (f := f) (t := t) (by omega)
  refine g_istore (pc := 118) dc_M_readReference_118 (by decide) ?_
  show am_G X mt_M_readReference _ 120 [some (.ref 84), some (.ref ca), none, none, some (.int (er bo)), some (.int (nI (s + f))), some (.int (nI (s + t))), some (.int (nI (s + (fw (nev 58) L f t)))), some (.int (nI (s + (fw (nev 47) L f t)))), none, none] [] _ _
  refine g_aload_n (pc := 120) dc_M_readReference_120 rfl ?_
  refine g_iload (pc := 121) dc_M_readReference_121 rfl ?_
  refine g_iload (pc := 123) dc_M_readReference_123 rfl ?_
  refine g_bipush (pc := 125) (v := 63) dc_M_readReference_125 rfl ?_
  refine g_s4 (pc := 127) (M' := mt_M_seek) dc_M_readReference_127 mo_M_seek st_M_seek ln_M_48 (Nat.le_of_ble_eq_true rfl) (Nat.le_of_ble_eq_true rfl) (am_G.mono (t_M_seek (v := 63) (f := f) (t := t) hX.tt (by omega) (by omega)) ?_)
  intro r h1 hq
  rw [hq.1, hq.2]
  clear hq h1 r
  refine ⟨am_nti _, ?_⟩
  have hb127 := fw_bd (p := nev 63) (L := L) (f := f) (t := t) (by omega)
  refine g_istore (pc := 130) dc_M_readReference_130 (by decide) ?_
  show am_G X mt_M_readReference _ 132 [some (.ref 84), some (.ref ca), none, none, some (.int (er bo)), some (.int (nI (s + f))), some (.int (nI (s + t))), some (.int (nI (s + (fw (nev 58) L f t)))), some (.int (nI (s + (fw (nev 47) L f t)))), some (.int (nI (s + (fw (nev 63) L f t)))), none] [] _ _
  refine g_iload (pc := 132) dc_M_readReference_132 rfl ?_
  refine g_iload (pc := 134) dc_M_readReference_134 rfl ?_
  refine q_icmp_ge (pc := 136) (tgt := 198) (s + (fw (nev 58) L f t)) (s + (fw (nev 47) L f t)) dc_M_readReference_136 (by omega) (by omega) rfl (fun hc136 => ?_) (fun hc136 => ?_)
  · rw [show mrt L f t (bo.map (gT T)) = mrs L f t (bo.map (gT T)) from by unfold mrt; rw [if_pos hal, if_neg (by omega)]]
    refine am_wk (am_le_s (am_le_s (am_le_n (am_le_n (am_le_s (am_le_s (am_le_s (am_le_n (am_le_n (am_le_n (am_le_n am_le_0))))))))))) ?_
    exact s_M_readReference hA hT hO hX hca hbL (hft) (ht) hL8 hbo
  · refine g_iload (pc := 139) dc_M_readReference_139 rfl ?_
    refine g_iload (pc := 141) dc_M_readReference_141 rfl ?_
    refine q_icmp_ge (pc := 143) (tgt := 198) (s + (fw (nev 58) L f t)) (s + (fw (nev 63) L f t)) dc_M_readReference_143 (by omega) (by omega) rfl (fun hc143 => ?_) (fun hc143 => ?_)
    · rw [show mrt L f t (bo.map (gT T)) = mrs L f t (bo.map (gT T)) from by unfold mrt; rw [if_pos hal, if_neg (by omega)]]
      refine am_wk (am_le_s (am_le_s (am_le_n (am_le_n (am_le_s (am_le_s (am_le_s (am_le_n (am_le_n (am_le_n (am_le_n am_le_0))))))))))) ?_
      exact s_M_readReference hA hT hO hX hca hbL (hft) (ht) hL8 hbo
    · refine g_aload_n (pc := 146) dc_M_readReference_146 rfl ?_
      refine g_iload (pc := 147) dc_M_readReference_147 rfl ?_
      refine g_iload (pc := 149) dc_M_readReference_149 rfl ?_
      refine g_ldcS (pc := 151) 29 dc_M_readReference_151 (by decide) rfl rfl ?_
      refine g_s4 (pc := 153) (M' := mt_M_isWord) dc_M_readReference_153 mo_M_isWord st_M_isWord ln_M_83 (Nat.le_of_ble_eq_true rfl) (Nat.le_of_ble_eq_true rfl) (am_G.mono (t_M_isWord (f := f) (t := fw (nev 58) L f t) (i := 29) hX.tt (by decide) (by omega) (by omega)) ?_)
      intro r h1 hq
      rw [hq.1, hq.2]
      clear hq h1 r
      refine ⟨am_nti _, ?_⟩
      refine q_ifb_eq (pc := 156) (tgt := 190) dc_M_readReference_156 rfl (fun hc156 => ?_) (fun hc156 => ?_)
      · refine g_iconst (pc := 190) (v := 0) dc_M_readReference_190 rfl ?_
        exact g_zreturn dc_M_readReference_191 rfl rfl ⟨S, rfl, scA.rf S, by rw [show mrt L f t (bo.map (gT T)) = none from by unfold mrt; rw [if_pos hal, if_pos ⟨by omega, by omega⟩, if_neg (fun h9 => by rw [hc156] at h9; exact absurd h9.1 (by decide))]]⟩
      · refine g_iload (pc := 159) dc_M_readReference_159 rfl ?_
        refine g_iconst (pc := 161) (v := 2) dc_M_readReference_161 rfl ?_
        refine g_iadd (pc := 162) (v := (nI (s + (fw (nev 58) L f t + 2)))) dc_M_readReference_162 (q_as s (fw (nev 58) L f t) 2) ?_
        refine g_iload (pc := 163) dc_M_readReference_163 rfl ?_
        refine q_icmp_ge (pc := 165) (tgt := 190) (s + (fw (nev 58) L f t + 2)) (s + t) dc_M_readReference_165 (by omega) (by omega) rfl (fun hc165 => ?_) (fun hc165 => ?_)
        · refine g_iconst (pc := 190) (v := 0) dc_M_readReference_190 rfl ?_
          exact g_zreturn dc_M_readReference_191 rfl rfl ⟨S, rfl, scA.rf S, by rw [show mrt L f t (bo.map (gT T)) = none from by unfold mrt; rw [if_pos hal, if_pos ⟨by omega, by omega⟩, if_neg (fun h9 => by omega)]]⟩
        · refine g_aload_n (pc := 168) dc_M_readReference_168 rfl ?_
          refine g_iload (pc := 169) dc_M_readReference_169 rfl ?_
          refine g_iconst (pc := 171) (v := 1) dc_M_readReference_171 rfl ?_
          refine g_iadd (pc := 172) (v := (nI (s + (fw (nev 58) L f t + 1)))) dc_M_readReference_172 (q_as s (fw (nev 58) L f t) 1) ?_
          refine q_tx (pc := 173) (fw (nev 58) L f t + 1) dc_M_readReference_173 ha hTx hs (by omega) hc ?_
          refine g_bipush (pc := 174) (v := 47) dc_M_readReference_174 rfl ?_
          refine g_icmp_ne (pc := 176) (tgt := 190) dc_M_readReference_176 rfl (fun hc176 => ?_) (fun hc176 => ?_)
          · refine g_iconst (pc := 190) (v := 0) dc_M_readReference_190 rfl ?_
            exact g_zreturn dc_M_readReference_191 rfl rfl ⟨S, rfl, scA.rf S, by rw [show mrt L f t (bo.map (gT T)) = none from by unfold mrt; rw [if_pos hal, if_pos ⟨by omega, by omega⟩, if_neg (fun h9 => hc176 h9.2.2.1)]]⟩
          · refine g_aload_n (pc := 179) dc_M_readReference_179 rfl ?_
            refine g_iload (pc := 180) dc_M_readReference_180 rfl ?_
            refine g_iconst (pc := 182) (v := 2) dc_M_readReference_182 rfl ?_
            refine g_iadd (pc := 183) (v := (nI (s + (fw (nev 58) L f t + 2)))) dc_M_readReference_183 (q_as s (fw (nev 58) L f t) 2) ?_
            refine q_tx (pc := 184) (fw (nev 58) L f t + 2) dc_M_readReference_184 ha hTx hs (by omega) hc ?_
            refine g_bipush (pc := 185) (v := 47) dc_M_readReference_185 rfl ?_
            refine g_icmp_eq (pc := 187) (tgt := 192) dc_M_readReference_187 rfl (fun hc187 => ?_) (fun hc187 => ?_)
            · refine g_iload (pc := 192) dc_M_readReference_192 rfl ?_
              refine g_iconst (pc := 194) (v := 1) dc_M_readReference_194 rfl ?_
              refine g_iadd (pc := 195) (v := (nI (s + (fw (nev 58) L f t + 1)))) dc_M_readReference_195 (q_as s (fw (nev 58) L f t) 1) ?_
              refine g_istore (pc := 196) dc_M_readReference_196 (by decide) ?_
              show am_G X mt_M_readReference _ 198 [some (.ref 84), some (.ref ca), none, none, some (.int (er bo)), some (.int (nI (s + (fw (nev 58) L f t + 1)))), some (.int (nI (s + t))), some (.int (nI (s + (fw (nev 58) L f t)))), some (.int (nI (s + (fw (nev 47) L f t)))), some (.int (nI (s + (fw (nev 63) L f t)))), none] [] _ _
              rw [show mrt L f t (bo.map (gT T)) = mrs L (fw (nev 58) L f t + 1) t (bo.map (gT T)) from by unfold mrt; rw [if_pos hal, if_pos ⟨by omega, by omega⟩, if_pos ⟨hc156, by omega, hc176, hc187⟩]]
              refine am_wk (am_le_s (am_le_s (am_le_n (am_le_n (am_le_s (am_le_s (am_le_s (am_le_n (am_le_n (am_le_n (am_le_n am_le_0))))))))))) ?_
              exact s_M_readReference hA hT hO hX hca hbL (by omega) (ht) hL8 hbo
            · refine g_iconst (pc := 190) (v := 0) dc_M_readReference_190 rfl ?_
              exact g_zreturn dc_M_readReference_191 rfl rfl ⟨S, rfl, scA.rf S, by rw [show mrt L f t (bo.map (gT T)) = none from by unfold mrt; rw [if_pos hal, if_pos ⟨by omega, by omega⟩, if_neg (fun h9 => hc187 h9.2.2.2)]]⟩
theorem v_M_readReference {Q : Option Value → List va_E → Prop}  (hX : txO A B S ca s L) (ht : t ≤ L.length) : ∀ n i : Nat, i + n = t → am_G X mt_M_readReference (d + 5) 70 [some (.ref 84), some (.ref ca), none, none, some (.int (er bo)), some (.int (nI (s + f))), some (.int (nI (s + t))), some (.int (nI (s + (fx (fun j => isRef L j t) i t)))), none, none, none] [] (mput A S B) Q → am_G X mt_M_readReference (d + 5) 70 [some (.ref 84), some (.ref ca), none, none, some (.int (er bo)), some (.int (nI (s + f))), some (.int (nI (s + t))), some (.int (nI (s + i))), none, none, none] [] (mput A S B) Q
  | 0, i, e, K => by
    have e1 : fx (fun j => isRef L j t) i t = i := fx_0 (by omega)
    rw [e1] at K
    exact K
  | n + 1, i, e, K => by
    by_cases hp : (fun j => isRef L j t) i = true
    · rw [fx_t (P := fun j => isRef L j t) (f := i) (t := t) (by omega) hp] at K
      have ha9 := hX.tt
      obtain ⟨cap, g, ha, hTx, hs, hc⟩ := ha9
      refine g_iload (pc := 70) dc_M_readReference_70 rfl ?_
      refine g_iload (pc := 72) dc_M_readReference_72 rfl ?_
      refine q_icmp_ge (pc := 74) (tgt := 96) (s + i) (s + t) dc_M_readReference_74 (by omega) (by omega) rfl (fun hc => absurd hc (by omega)) (fun hc74 => ?_)
      refine g_aload_n (pc := 77) dc_M_readReference_77 rfl ?_
      refine g_iload (pc := 78) dc_M_readReference_78 rfl ?_
      refine g_iload (pc := 80) dc_M_readReference_80 rfl ?_
      refine g_s3 (pc := 82) (M' := mt_M_isOfReference) dc_M_readReference_82 mo_M_isOfReference st_M_isOfReference ln_M_78 (Nat.le_of_ble_eq_true rfl) (Nat.le_of_ble_eq_true rfl) (am_G.mono (t_M_isOfReference (k := i) (t := t) hX.tt (by omega) (by omega)) ?_)
      intro r h1 hq
      rw [hq.1, hq.2]
      clear hq h1 r
      refine ⟨am_nti _, ?_⟩
      refine q_ifb_ne (pc := 85) (tgt := 90) dc_M_readReference_85 rfl (fun hc85 => ?_) (fun hc85 => ?_)
      · refine g_iinc (pc := 90) (v := (nI (s + (i + 1)))) dc_M_readReference_90 rfl (q_as s i 1) (by decide) ?_
        show am_G X mt_M_readReference _ 93 [some (.ref 84), some (.ref ca), none, none, some (.int (er bo)), some (.int (nI (s + f))), some (.int (nI (s + t))), some (.int (nI (s + (i + 1)))), none, none, none] [] _ _
        refine g_goto (pc := 93) (tgt := 70) dc_M_readReference_93 rfl ?_
        exact v_M_readReference hX ht n (i + 1) (by omega) K
      · exact absurd hp (by show ¬ isRef L i t = true; rw [hc85]; decide)
    · rw [fx_f (P := fun j => isRef L j t) (f := i) (t := t) hp] at K
      exact K
theorem j_M_readReference (hA : A.length = 84) (hT : adT S T) (hO : okT T) (hX : txO A B S ca s L) (hca : ca ≠ 92 ∧ ca ≠ 93) (hbL : btg L) (hft : f ≤ t) (ht : t ≤ L.length) (hL8 : L.length ≤ 8000) (hbo : ∀ k, bo = some k → k < T.length) : am_G X mt_M_readReference (d + 5) 66 [some (.ref 84), some (.ref ca), none, none, some (.int (er bo)), some (.int (nI (s + f))), some (.int (nI (s + t))), none, none, none, none] [] (mput A S B) (fun r h1 => ∃ S1, h1 = mput A S1 B ∧ scA S S1 ∧ match mrt L f t (bo.map (gT T)) with | some D => r = some (.int 1) ∧ mad S1 D | none => r = some (.int 0)) := by
  refine g_iload (pc := 66) dc_M_readReference_66 rfl ?_
  refine g_istore (pc := 68) dc_M_readReference_68 (by decide) ?_
  show am_G X mt_M_readReference _ 70 [some (.ref 84), some (.ref ca), none, none, some (.int (er bo)), some (.int (nI (s + f))), some (.int (nI (s + t))), some (.int (nI (s + f))), none, none, none] [] _ _
  refine v_M_readReference hX ht (t - f) f (by omega) ?_
  have hb := fx_bd (P := fun j => isRef L j t) hft
  have ho := fx_out (P := fun j => isRef L j t) (f := f) (t := t)
  have he : alp (fun j => isRef L j t) f t = decide (t ≤ fx (fun j => isRef L j t) f t) := rfl
  have hmn : ¬ alp (fun j => isRef L j t) f t = true → mrt L f t (bo.map (gT T)) = none := fun h9 => by unfold mrt; rw [if_neg h9]
  have hk := k_M_readReference (X := X) (d := d) hA hT hO hX hca hbL (hft) (ht) hL8 hbo
  generalize fx (fun j => isRef L j t) f t = i at *
  have ha9 := hX.tt
  obtain ⟨cap, g, ha, hTx, hs, hc⟩ := ha9
  refine g_iload (pc := 70) dc_M_readReference_70 rfl ?_
  refine g_iload (pc := 72) dc_M_readReference_72 rfl ?_
  refine q_icmp_ge (pc := 74) (tgt := 96) (s + i) (s + t) dc_M_readReference_74 (by omega) (by omega) rfl (fun hc74 => ?_) (fun hc74 => ?_)
  · refine am_wk (am_le_s (am_le_s (am_le_n (am_le_n (am_le_s (am_le_s (am_le_s (am_le_n (am_le_n (am_le_n (am_le_n am_le_0))))))))))) ?_
    exact hk (by rw [he]; exact decide_eq_true (by omega))
  · refine g_aload_n (pc := 77) dc_M_readReference_77 rfl ?_
    refine g_iload (pc := 78) dc_M_readReference_78 rfl ?_
    refine g_iload (pc := 80) dc_M_readReference_80 rfl ?_
    refine g_s3 (pc := 82) (M' := mt_M_isOfReference) dc_M_readReference_82 mo_M_isOfReference st_M_isOfReference ln_M_78 (Nat.le_of_ble_eq_true rfl) (Nat.le_of_ble_eq_true rfl) (am_G.mono (t_M_isOfReference (k := i) (t := t) hX.tt (by omega) (by omega)) ?_)
    intro r h1 hq
    rw [hq.1, hq.2]
    clear hq h1 r
    refine ⟨am_nti _, ?_⟩
    refine q_ifb_ne (pc := 85) (tgt := 90) dc_M_readReference_85 rfl (fun hc85 => ?_) (fun hc85 => ?_)
    · exact absurd (ho (by omega)) (by show ¬ isRef L i t = false; rw [hc85]; decide)
    · refine g_iconst (pc := 88) (v := 0) dc_M_readReference_88 rfl ?_
      exact g_zreturn dc_M_readReference_89 rfl rfl ⟨S, rfl, scA.rf S, by rw [hmn (by rw [he]; exact fun h9 => absurd (of_decide_eq_true h9) (by omega))]⟩
theorem w_M_readReference {Q : Option Value → List va_E → Prop} (hX : txO A B S ca s L) : ∀ n i : Nat, i = f + n → i ≤ L.length → am_G X mt_M_readReference (d + 5) 29 [some (.ref 84), some (.ref ca), none, none, some (.int (er bo)), some (.int (nI (s + f))), some (.int (nI (s + (bw isBl L f i)))), none, none, none, none] [] (mput A S B) Q → am_G X mt_M_readReference (d + 5) 29 [some (.ref 84), some (.ref ca), none, none, some (.int (er bo)), some (.int (nI (s + f))), some (.int (nI (s + i))), none, none, none, none] [] (mput A S B) Q
  | 0, i, e, hl, K => by
    have e1 : bw isBl L f i = i := (bw_0 (by omega)).trans (by omega)
    rw [e1] at K
    exact K
  | n + 1, i, e, hl, K => by
    obtain ⟨j, rfl⟩ : ∃ j, i = j + 1 := ⟨i - 1, by omega⟩
    by_cases hp : isBl (gx L j) = true
    · rw [bw_t (by omega) hp] at K
      have ha9 := hX.tt
      obtain ⟨cap, g, ha, hTx, hs, hc⟩ := ha9
      refine g_iload (pc := 29) dc_M_readReference_29 rfl ?_
      refine g_iload (pc := 31) dc_M_readReference_31 rfl ?_
      refine q_icmp_le (pc := 33) (tgt := 54) (s + (j + 1)) (s + f) dc_M_readReference_33 (by omega) (by omega) rfl (fun hc => absurd hc (by omega)) (fun hc33 => ?_)
      refine g_aload_n (pc := 36) dc_M_readReference_36 rfl ?_
      refine g_iload (pc := 37) dc_M_readReference_37 rfl ?_
      refine g_iconst (pc := 39) (v := 1) dc_M_readReference_39 rfl ?_
      refine g_isub (pc := 40) (v := (nI (s + j))) dc_M_readReference_40 (q_sn (s := s) (a := j + 1) (b := 1) (by omega)) ?_
      refine q_tx (pc := 41) j dc_M_readReference_41 ha hTx hs (by omega) hc ?_
      refine g_s1 (pc := 42) (M' := mt_M_isBlank) dc_M_readReference_42 mo_M_isBlank st_M_isBlank ln_M_75 (Nat.le_of_ble_eq_true rfl) (Nat.le_of_ble_eq_true rfl) (am_G.mono (c_M_isBlank (v := (gx L j))) ?_)
      intro r h1 hq
      rw [hq.1, hq.2]
      clear hq h1 r
      refine ⟨am_nti _, ?_⟩
      refine q_ifb_eq (pc := 45) (tgt := 54) dc_M_readReference_45 rfl (fun hc => absurd hc (by rw [hp]; decide)) (fun hc45 => ?_)
      refine g_iinc (pc := 48) (v := (nI (s + j))) dc_M_readReference_48 rfl (q_sm1 (s := s) (a := j + 1) (by omega)) (by decide) ?_
      show am_G X mt_M_readReference _ 51 [some (.ref 84), some (.ref ca), none, none, some (.int (er bo)), some (.int (nI (s + f))), some (.int (nI (s + j))), none, none, none, none] [] _ _
      refine g_goto (pc := 51) (tgt := 29) dc_M_readReference_51 rfl ?_
      exact w_M_readReference hX n j (by omega) (by omega) K
    · rw [bw_f (by omega) hp] at K
      exact K
theorem y_M_readReference {Q : Option Value → List va_E → Prop}  (hX : txO A B S ca s L) (ht : t0 ≤ L.length) : ∀ n i : Nat, i + n = t0 → am_G X mt_M_readReference (d + 5) 6 [some (.ref 84), some (.ref ca), none, none, some (.int (er bo)), some (.int (nI (s + (fw isBl L i t0)))), some (.int (nI (s + t0))), none, none, none, none] [] (mput A S B) Q → am_G X mt_M_readReference (d + 5) 6 [some (.ref 84), some (.ref ca), none, none, some (.int (er bo)), some (.int (nI (s + i))), some (.int (nI (s + t0))), none, none, none, none] [] (mput A S B) Q
  | 0, i, e, K => by
    have e1 : fw isBl L i t0 = i := fw_0 (by omega)
    rw [e1] at K
    exact K
  | n + 1, i, e, K => by
    by_cases hp : isBl (gx L i) = true
    · rw [fw_t (by omega) hp] at K
      have hx0 := hX
      have ha9 := hX.tt
      obtain ⟨cap, g, ha, hTx, hs, hc⟩ := ha9
      refine g_iload (pc := 6) dc_M_readReference_6 rfl ?_
      refine g_iload (pc := 8) dc_M_readReference_8 rfl ?_
      refine q_icmp_ge (pc := 10) (tgt := 29) (s + i) (s + t0) dc_M_readReference_10 (by omega) (by omega) rfl (fun hc => absurd hc (by omega)) (fun hc10 => ?_)
      refine g_aload_n (pc := 13) dc_M_readReference_13 rfl ?_
      refine g_iload (pc := 14) dc_M_readReference_14 rfl ?_
      refine q_tx (pc := 16) i dc_M_readReference_16 ha hTx hs (by omega) hc ?_
      refine g_s1 (pc := 17) (M' := mt_M_isBlank) dc_M_readReference_17 mo_M_isBlank st_M_isBlank ln_M_75 (Nat.le_of_ble_eq_true rfl) (Nat.le_of_ble_eq_true rfl) (am_G.mono (c_M_isBlank (v := (gx L i))) ?_)
      intro r h1 hq
      rw [hq.1, hq.2]
      clear hq h1 r
      refine ⟨am_nti _, ?_⟩
      refine q_ifb_eq (pc := 20) (tgt := 29) dc_M_readReference_20 rfl (fun hc20 => ?_) (fun hc20 => ?_)
      · exact absurd hp (by simp [hc10, hc20])
      · refine g_iinc (pc := 23) (v := (nI (s + (i + 1)))) dc_M_readReference_23 rfl (q_as s i 1) (by decide) ?_
        show am_G X mt_M_readReference _ 26 [some (.ref 84), some (.ref ca), none, none, some (.int (er bo)), some (.int (nI (s + (i + 1)))), some (.int (nI (s + t0))), none, none, none, none] [] _ _
        refine g_goto (pc := 26) (tgt := 6) dc_M_readReference_26 rfl ?_
        exact y_M_readReference hX ht n (i + 1) (by omega) K
    · rw [fw_f hp] at K
      exact K
theorem c_M_readReference (hA : A.length = 84) (hT : adT S T) (hO : okT T) (hX : txO A B S ca s L) (hca : ca ≠ 92 ∧ ca ≠ 93) (hbL : btg L) (hft : f0 ≤ t0) (ht : t0 ≤ L.length) (hL8 : L.length ≤ 8000) (hbo : ∀ k, bo = some k → k < T.length) : am_C X mt_M_readReference (d + 5) [.ref 84, .ref ca, .int (nI (s + f0)), .int (nI (s + t0)), .int (er bo)] (mput A S B) (fun r h1 => ∃ S1, h1 = mput A S1 B ∧ scA S S1 ∧ match mrr L f0 t0 (bo.map (gT T)) with | some D => r = some (.int 1) ∧ mad S1 D | none => r = some (.int 0)) := by
  show am_G X mt_M_readReference (d + 5) 0 [some (.ref 84), some (.ref ca), some (.int (nI (s + f0))), some (.int (nI (s + t0))), some (.int (er bo)), none, none, none, none, none, none] [] (mput A S B) _
  have hfb := fw_bd (p := isBl) (L := L) hft
  have hfo := fw_out (p := isBl) (L := L) (f := f0) (t := t0)
  have heb := bw_bd (p := isBl) (L := L) (f := fw isBl L f0 t0) (t := t0) hfb.2
  have heo : fw isBl L f0 t0 < bw isBl L (fw isBl L f0 t0) t0 → isBl (gx L (bw isBl L (fw isBl L f0 t0) t0 - 1)) = false := bw_out (p := isBl) (L := L) (f := fw isBl L f0 t0) (t0 - fw isBl L f0 t0)
  have hse := fw_bd (p := nev 35) (L := L) (f := fw isBl L f0 t0) (t := bw isBl L (fw isBl L f0 t0) t0) heb.1
  have ha9 := hX.tt
  obtain ⟨cap, g, ha, hTx, hs, hc⟩ := ha9
  refine g_iload_n (pc := 0) dc_M_readReference_0 rfl ?_
  refine g_istore (pc := 1) dc_M_readReference_1 (by decide) ?_
  show am_G X mt_M_readReference _ 3 [some (.ref 84), some (.ref ca), some (.int (nI (s + f0))), some (.int (nI (s + t0))), some (.int (er bo)), some (.int (nI (s + f0))), none, none, none, none, none] [] _ _
  refine g_iload_n (pc := 3) dc_M_readReference_3 rfl ?_
  refine g_istore (pc := 4) dc_M_readReference_4 (by decide) ?_
  show am_G X mt_M_readReference _ 6 [some (.ref 84), some (.ref ca), some (.int (nI (s + f0))), some (.int (nI (s + t0))), some (.int (er bo)), some (.int (nI (s + f0))), some (.int (nI (s + t0))), none, none, none, none] [] _ _
  refine am_wk (am_le_s (am_le_s (am_le_n (am_le_n (am_le_s (am_le_s (am_le_s (am_le_n (am_le_n (am_le_n (am_le_n am_le_0))))))))))) ?_
  refine y_M_readReference hX ht (t0 - f0) f0 (by omega) ?_
  refine g_iload (pc := 6) dc_M_readReference_6 rfl ?_
  refine g_iload (pc := 8) dc_M_readReference_8 rfl ?_
  refine q_icmp_ge (pc := 10) (tgt := 29) (s + (fw isBl L f0 t0)) (s + t0) dc_M_readReference_10 (by omega) (by omega) rfl (fun hc10 => ?_) (fun hc10 => ?_)
  · refine w_M_readReference hX (t0 - fw isBl L f0 t0) t0 (by omega) ht ?_
    refine g_iload (pc := 29) dc_M_readReference_29 rfl ?_
    refine g_iload (pc := 31) dc_M_readReference_31 rfl ?_
    refine q_icmp_le (pc := 33) (tgt := 54) (s + (bw isBl L (fw isBl L f0 t0) t0)) (s + (fw isBl L f0 t0)) dc_M_readReference_33 (by omega) (by omega) rfl (fun hc33 => ?_) (fun hc33 => ?_)
    · refine g_aload_n (pc := 54) dc_M_readReference_54 rfl ?_
      refine g_iload (pc := 55) dc_M_readReference_55 rfl ?_
      refine g_iload (pc := 57) dc_M_readReference_57 rfl ?_
      refine g_bipush (pc := 59) (v := 35) dc_M_readReference_59 rfl ?_
      refine g_s4 (pc := 61) (M' := mt_M_seek) dc_M_readReference_61 mo_M_seek st_M_seek ln_M_48 (Nat.le_of_ble_eq_true rfl) (Nat.le_of_ble_eq_true rfl) (am_G.mono (t_M_seek (v := 35) (f := fw isBl L f0 t0) (t := bw isBl L (fw isBl L f0 t0) t0) hX.tt (by omega) (by omega)) ?_)
      intro r h1 hq
      rw [hq.1, hq.2]
      clear hq h1 r
      refine ⟨am_nti _, ?_⟩
      have hb61 := fw_bd (p := nev 35) (L := L) (f := fw isBl L f0 t0) (t := bw isBl L (fw isBl L f0 t0) t0) (by omega)
      refine g_istore (pc := 64) dc_M_readReference_64 (by decide) ?_
      show am_G X mt_M_readReference _ 66 [some (.ref 84), some (.ref ca), none, none, some (.int (er bo)), some (.int (nI (s + (fw isBl L f0 t0)))), some (.int (nI (s + (fw (nev 35) L (fw isBl L f0 t0) (bw isBl L (fw isBl L f0 t0) t0))))), none, none, none, none] [] _ _
      show am_G X mt_M_readReference (d + 5) 66 [some (.ref 84), some (.ref ca), none, none, some (.int (er bo)), some (.int (nI (s + (fw isBl L f0 t0)))), some (.int (nI (s + (fw (nev 35) L (fw isBl L f0 t0) (bw isBl L (fw isBl L f0 t0) t0))))), none, none, none, none] [] (mput A S B) (fun r h1 => ∃ S1, h1 = mput A S1 B ∧ scA S S1 ∧ match mrt L (fw isBl L f0 t0) (fw (nev 35) L (fw isBl L f0 t0) (bw isBl L (fw isBl L f0 t0) t0)) (bo.map (gT T)) with | some D => r = some (.int 1) ∧ mad S1 D | none => r = some (.int 0))
      exact j_M_readReference hA hT hO hX hca hbL (by omega) (by omega) hL8 hbo
    · refine g_aload_n (pc := 36) dc_M_readReference_36 rfl ?_
      refine g_iload (pc := 37) dc_M_readReference_37 rfl ?_
      refine g_iconst (pc := 39) (v := 1) dc_M_readReference_39 rfl ?_
      refine g_isub (pc := 40) (v := (nI (s + (bw isBl L (fw isBl L f0 t0) t0 - 1)))) dc_M_readReference_40 (q_sn (s := s) (a := bw isBl L (fw isBl L f0 t0) t0) (b := 1) (by omega)) ?_
      refine q_tx (pc := 41) (bw isBl L (fw isBl L f0 t0) t0 - 1) dc_M_readReference_41 ha hTx hs (by omega) hc ?_
      refine g_s1 (pc := 42) (M' := mt_M_isBlank) dc_M_readReference_42 mo_M_isBlank st_M_isBlank ln_M_75 (Nat.le_of_ble_eq_true rfl) (Nat.le_of_ble_eq_true rfl) (am_G.mono (c_M_isBlank (v := (gx L (bw isBl L (fw isBl L f0 t0) t0 - 1)))) ?_)
      intro r h1 hq
      rw [hq.1, hq.2]
      clear hq h1 r
      refine ⟨am_nti _, ?_⟩
      refine q_ifb_eq (pc := 45) (tgt := 54) dc_M_readReference_45 rfl (fun hc45 => ?_) (fun hc => absurd hc (by rw [heo (by omega)]; decide))
      refine g_aload_n (pc := 54) dc_M_readReference_54 rfl ?_
      refine g_iload (pc := 55) dc_M_readReference_55 rfl ?_
      refine g_iload (pc := 57) dc_M_readReference_57 rfl ?_
      refine g_bipush (pc := 59) (v := 35) dc_M_readReference_59 rfl ?_
      refine g_s4 (pc := 61) (M' := mt_M_seek) dc_M_readReference_61 mo_M_seek st_M_seek ln_M_48 (Nat.le_of_ble_eq_true rfl) (Nat.le_of_ble_eq_true rfl) (am_G.mono (t_M_seek (v := 35) (f := fw isBl L f0 t0) (t := bw isBl L (fw isBl L f0 t0) t0) hX.tt (by omega) (by omega)) ?_)
      intro r h1 hq
      rw [hq.1, hq.2]
      clear hq h1 r
      refine ⟨am_nti _, ?_⟩
      have hb61 := fw_bd (p := nev 35) (L := L) (f := fw isBl L f0 t0) (t := bw isBl L (fw isBl L f0 t0) t0) (by omega)
      refine g_istore (pc := 64) dc_M_readReference_64 (by decide) ?_
      show am_G X mt_M_readReference _ 66 [some (.ref 84), some (.ref ca), none, none, some (.int (er bo)), some (.int (nI (s + (fw isBl L f0 t0)))), some (.int (nI (s + (fw (nev 35) L (fw isBl L f0 t0) (bw isBl L (fw isBl L f0 t0) t0))))), none, none, none, none] [] _ _
      show am_G X mt_M_readReference (d + 5) 66 [some (.ref 84), some (.ref ca), none, none, some (.int (er bo)), some (.int (nI (s + (fw isBl L f0 t0)))), some (.int (nI (s + (fw (nev 35) L (fw isBl L f0 t0) (bw isBl L (fw isBl L f0 t0) t0))))), none, none, none, none] [] (mput A S B) (fun r h1 => ∃ S1, h1 = mput A S1 B ∧ scA S S1 ∧ match mrt L (fw isBl L f0 t0) (fw (nev 35) L (fw isBl L f0 t0) (bw isBl L (fw isBl L f0 t0) t0)) (bo.map (gT T)) with | some D => r = some (.int 1) ∧ mad S1 D | none => r = some (.int 0))
      exact j_M_readReference hA hT hO hX hca hbL (by omega) (by omega) hL8 hbo
  · refine g_aload_n (pc := 13) dc_M_readReference_13 rfl ?_
    refine g_iload (pc := 14) dc_M_readReference_14 rfl ?_
    refine q_tx (pc := 16) (fw isBl L f0 t0) dc_M_readReference_16 ha hTx hs (by omega) hc ?_
    refine g_s1 (pc := 17) (M' := mt_M_isBlank) dc_M_readReference_17 mo_M_isBlank st_M_isBlank ln_M_75 (Nat.le_of_ble_eq_true rfl) (Nat.le_of_ble_eq_true rfl) (am_G.mono (c_M_isBlank (v := (gx L (fw isBl L f0 t0)))) ?_)
    intro r h1 hq
    rw [hq.1, hq.2]
    clear hq h1 r
    refine ⟨am_nti _, ?_⟩
    refine q_ifb_eq (pc := 20) (tgt := 29) dc_M_readReference_20 rfl (fun hc20 => ?_) (fun hc => absurd hc (by rw [hfo (by omega)]; decide))
    refine w_M_readReference hX (t0 - fw isBl L f0 t0) t0 (by omega) ht ?_
    refine g_iload (pc := 29) dc_M_readReference_29 rfl ?_
    refine g_iload (pc := 31) dc_M_readReference_31 rfl ?_
    refine q_icmp_le (pc := 33) (tgt := 54) (s + (bw isBl L (fw isBl L f0 t0) t0)) (s + (fw isBl L f0 t0)) dc_M_readReference_33 (by omega) (by omega) rfl (fun hc33 => ?_) (fun hc33 => ?_)
    · refine g_aload_n (pc := 54) dc_M_readReference_54 rfl ?_
      refine g_iload (pc := 55) dc_M_readReference_55 rfl ?_
      refine g_iload (pc := 57) dc_M_readReference_57 rfl ?_
      refine g_bipush (pc := 59) (v := 35) dc_M_readReference_59 rfl ?_
      refine g_s4 (pc := 61) (M' := mt_M_seek) dc_M_readReference_61 mo_M_seek st_M_seek ln_M_48 (Nat.le_of_ble_eq_true rfl) (Nat.le_of_ble_eq_true rfl) (am_G.mono (t_M_seek (v := 35) (f := fw isBl L f0 t0) (t := bw isBl L (fw isBl L f0 t0) t0) hX.tt (by omega) (by omega)) ?_)
      intro r h1 hq
      rw [hq.1, hq.2]
      clear hq h1 r
      refine ⟨am_nti _, ?_⟩
      have hb61 := fw_bd (p := nev 35) (L := L) (f := fw isBl L f0 t0) (t := bw isBl L (fw isBl L f0 t0) t0) (by omega)
      refine g_istore (pc := 64) dc_M_readReference_64 (by decide) ?_
      show am_G X mt_M_readReference _ 66 [some (.ref 84), some (.ref ca), none, none, some (.int (er bo)), some (.int (nI (s + (fw isBl L f0 t0)))), some (.int (nI (s + (fw (nev 35) L (fw isBl L f0 t0) (bw isBl L (fw isBl L f0 t0) t0))))), none, none, none, none] [] _ _
      show am_G X mt_M_readReference (d + 5) 66 [some (.ref 84), some (.ref ca), none, none, some (.int (er bo)), some (.int (nI (s + (fw isBl L f0 t0)))), some (.int (nI (s + (fw (nev 35) L (fw isBl L f0 t0) (bw isBl L (fw isBl L f0 t0) t0))))), none, none, none, none] [] (mput A S B) (fun r h1 => ∃ S1, h1 = mput A S1 B ∧ scA S S1 ∧ match mrt L (fw isBl L f0 t0) (fw (nev 35) L (fw isBl L f0 t0) (bw isBl L (fw isBl L f0 t0) t0)) (bo.map (gT T)) with | some D => r = some (.int 1) ∧ mad S1 D | none => r = some (.int 0))
      exact j_M_readReference hA hT hO hX hca hbL (by omega) (by omega) hL8 hbo
    · refine g_aload_n (pc := 36) dc_M_readReference_36 rfl ?_
      refine g_iload (pc := 37) dc_M_readReference_37 rfl ?_
      refine g_iconst (pc := 39) (v := 1) dc_M_readReference_39 rfl ?_
      refine g_isub (pc := 40) (v := (nI (s + (bw isBl L (fw isBl L f0 t0) t0 - 1)))) dc_M_readReference_40 (q_sn (s := s) (a := bw isBl L (fw isBl L f0 t0) t0) (b := 1) (by omega)) ?_
      refine q_tx (pc := 41) (bw isBl L (fw isBl L f0 t0) t0 - 1) dc_M_readReference_41 ha hTx hs (by omega) hc ?_
      refine g_s1 (pc := 42) (M' := mt_M_isBlank) dc_M_readReference_42 mo_M_isBlank st_M_isBlank ln_M_75 (Nat.le_of_ble_eq_true rfl) (Nat.le_of_ble_eq_true rfl) (am_G.mono (c_M_isBlank (v := (gx L (bw isBl L (fw isBl L f0 t0) t0 - 1)))) ?_)
      intro r h1 hq
      rw [hq.1, hq.2]
      clear hq h1 r
      refine ⟨am_nti _, ?_⟩
      refine q_ifb_eq (pc := 45) (tgt := 54) dc_M_readReference_45 rfl (fun hc45 => ?_) (fun hc => absurd hc (by rw [heo (by omega)]; decide))
      refine g_aload_n (pc := 54) dc_M_readReference_54 rfl ?_
      refine g_iload (pc := 55) dc_M_readReference_55 rfl ?_
      refine g_iload (pc := 57) dc_M_readReference_57 rfl ?_
      refine g_bipush (pc := 59) (v := 35) dc_M_readReference_59 rfl ?_
      refine g_s4 (pc := 61) (M' := mt_M_seek) dc_M_readReference_61 mo_M_seek st_M_seek ln_M_48 (Nat.le_of_ble_eq_true rfl) (Nat.le_of_ble_eq_true rfl) (am_G.mono (t_M_seek (v := 35) (f := fw isBl L f0 t0) (t := bw isBl L (fw isBl L f0 t0) t0) hX.tt (by omega) (by omega)) ?_)
      intro r h1 hq
      rw [hq.1, hq.2]
      clear hq h1 r
      refine ⟨am_nti _, ?_⟩
      have hb61 := fw_bd (p := nev 35) (L := L) (f := fw isBl L f0 t0) (t := bw isBl L (fw isBl L f0 t0) t0) (by omega)
      refine g_istore (pc := 64) dc_M_readReference_64 (by decide) ?_
      show am_G X mt_M_readReference _ 66 [some (.ref 84), some (.ref ca), none, none, some (.int (er bo)), some (.int (nI (s + (fw isBl L f0 t0)))), some (.int (nI (s + (fw (nev 35) L (fw isBl L f0 t0) (bw isBl L (fw isBl L f0 t0) t0))))), none, none, none, none] [] _ _
      show am_G X mt_M_readReference (d + 5) 66 [some (.ref 84), some (.ref ca), none, none, some (.int (er bo)), some (.int (nI (s + (fw isBl L f0 t0)))), some (.int (nI (s + (fw (nev 35) L (fw isBl L f0 t0) (bw isBl L (fw isBl L f0 t0) t0))))), none, none, none, none] [] (mput A S B) (fun r h1 => ∃ S1, h1 = mput A S1 B ∧ scA S S1 ∧ match mrt L (fw isBl L f0 t0) (fw (nev 35) L (fw isBl L f0 t0) (bw isBl L (fw isBl L f0 t0) t0)) (bo.map (gT T)) with | some D => r = some (.int 1) ∧ mad S1 D | none => r = some (.int 0))
      exact j_M_readReference hA hT hO hX hca hbL (by omega) (by omega) hL8 hbo
end MRU
