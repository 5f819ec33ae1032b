/-! ===== the model's attributes ===== -/
theorem isw_hr {L : List Int32} {f t : Nat} : isw 37 L f t = isw 20 L f t := by
  unfold isw
  have e1 : cln 37 = cln 20 := by decide
  have e2 : ∀ j, ch 37 j = ch 20 j := fun j => congrFun (congrArg (fun l : List Int32 => fun j => l.getD j 0) (show cb 37 = cb 20 from rfl)) j
  rw [e1]
  congr 1
def hrS (hb : Bool) (f e : Nat) (S : MS) : MS := if hb = true then (S.s_hrefFrom f).s_hrefEnd e else S
def hqS (S : MS) (s : Nat) (hq : Option (Nat × Nat)) : Prop := S.hasHref = hq.isSome ∧ ∀ q, hq = some q → S.hrefFrom = s + q.1 ∧ S.hrefEnd = s + q.2
section MAT
variable {X : am_X} {d s p x1 x2 x3 e0 i : Nat} {A B : List va_E} {S : MS} {L : List Int32} {hb : Bool} {hq : Option (Nat × Nat)}
theorem w_M_attributeEnd (hA : A.length = 84) : am_G X mt_M_attributeEnd d 316 [some (.ref 84), none, none, none, some (.int (b1 hb)), some (.int (nI (s + x1))), some (.int (nI (s + x2))), some (.int (nI (s + x3))), none] [] (mput A S B) (fun r h1 => r = some (.int (nI (s + x1))) ∧ h1 = mput A (hrS hb (s + x2) (s + x3) S) B) := by
  refine g_iload (pc := 316) dc_M_attributeEnd_316 rfl ?_
  refine q_ifb_eq (pc := 318) (tgt := 333) dc_M_attributeEnd_318 rfl (fun hc318 => ?_) (fun hc318 => ?_)
  · refine g_iload (pc := 333) dc_M_attributeEnd_333 rfl ?_
    exact g_ireturn dc_M_attributeEnd_335 rfl ⟨rfl, congrArg (fun z => mput A z B) (if_neg (fun h9 => by rw [hc318] at h9; cases h9)).symm⟩
  · refine g_aload_n (pc := 321) dc_M_attributeEnd_321 rfl ?_
    refine g_iload (pc := 322) dc_M_attributeEnd_322 rfl ?_
    refine pf_hrefFrom (pc := 324) (v := s + x2) hA dc_M_attributeEnd_324 fp_M_attributeEnd_286 ?_
    refine g_aload_n (pc := 327) dc_M_attributeEnd_327 rfl ?_
    refine g_iload (pc := 328) dc_M_attributeEnd_328 rfl ?_
    refine pf_hrefEnd (pc := 330) (v := s + x3) hA dc_M_attributeEnd_330 fp_M_attributeEnd_289 ?_
    refine g_iload (pc := 333) dc_M_attributeEnd_333 rfl ?_
    exact g_ireturn dc_M_attributeEnd_335 rfl ⟨rfl, congrArg (fun z => mput A z B) (if_pos hc318).symm⟩
theorem v275_M_attributeEnd {Q : Option Value → List va_E → Prop} {i0 : Nat} (hA : A.length = 84) (hX : tx S.texts s L) (hs : s + L.length ≤ 24000) : ∀ n i : Nat, i + n = L.length → am_G X mt_M_attributeEnd (d + 4) 275 [some (.ref 84), none, some (.int (nI (s + L.length))), none, some (.int (b1 hb)), none, some (.int (nI (s + i0))), some (.int (nI (s + (fw bvB L i L.length)))), none] [] (mput A S B) Q → am_G X mt_M_attributeEnd (d + 4) 275 [some (.ref 84), none, some (.int (nI (s + L.length))), none, some (.int (b1 hb)), none, some (.int (nI (s + i0))), some (.int (nI (s + i))), none] [] (mput A S B) Q
  | 0, i, e, K => by
    have e1 : fw bvB L i L.length = i := fw_0 (by omega)
    rw [e1] at K
    exact K
  | n + 1, i, e, K => by
    by_cases hp : bvB (gx L i) = true
    · rw [fw_t (by omega) hp] at K
      skip
      skip
      refine g_iload (pc := 275) dc_M_attributeEnd_275 rfl ?_
      refine g_iload_n (pc := 277) dc_M_attributeEnd_277 rfl ?_
      refine q_icmp_ge (pc := 278) (tgt := 312) (s + i) (s + L.length) dc_M_attributeEnd_278 (by omega) (by omega) rfl (fun hc => absurd hc (by omega)) (fun hc278 => ?_)
      refine g_aload_n (pc := 281) dc_M_attributeEnd_281 rfl ?_
      refine g_getfield (pc := 282) dc_M_attributeEnd_282 fl_M_140 (mp_o hA) rfl ?_
      refine g_iload (pc := 285) dc_M_attributeEnd_285 rfl ?_
      refine q_tx (pc := 287) i dc_M_attributeEnd_287 (mp_a hA 12 rfl) hX hs (by omega) (by omega) ?_
      refine g_s1 (pc := 288) (M' := mt_M_isBlank) dc_M_attributeEnd_288 mo_M_isBlank st_M_isBlank ln_M_75 (Nat.le_of_ble_eq_true rfl) (Nat.le_of_ble_eq_true rfl) (am_G.mono (c_M_isBlank (v := (gx L i))) ?_)
      intro r h1 hq
      rw [hq.1, hq.2]
      clear hq h1 r
      refine ⟨am_nti _, ?_⟩
      refine q_ifb_ne (pc := 291) (tgt := 312) dc_M_attributeEnd_291 rfl (fun hc291 => ?_) (fun hc291 => ?_)
      · exact absurd hp (by simp [bvB, hc278, hc291])
      · refine g_aload_n (pc := 294) dc_M_attributeEnd_294 rfl ?_
        refine g_getfield (pc := 295) dc_M_attributeEnd_295 fl_M_140 (mp_o hA) rfl ?_
        refine g_iload (pc := 298) dc_M_attributeEnd_298 rfl ?_
        refine q_tx (pc := 300) i dc_M_attributeEnd_300 (mp_a hA 12 rfl) hX hs (by omega) (by omega) ?_
        refine g_bipush (pc := 301) (v := 62) dc_M_attributeEnd_301 rfl ?_
        refine g_icmp_eq (pc := 303) (tgt := 312) dc_M_attributeEnd_303 rfl (fun hc303 => ?_) (fun hc303 => ?_)
        · exact absurd hp (by simp [bvB, hc278, hc291, hc303])
        · refine g_iinc (pc := 306) (v := (nI (s + (i + 1)))) dc_M_attributeEnd_306 rfl (q_as s i 1) (by decide) ?_
          show am_G X mt_M_attributeEnd _ 309 [some (.ref 84), none, some (.int (nI (s + L.length))), none, some (.int (b1 hb)), none, some (.int (nI (s + i0))), some (.int (nI (s + (i + 1)))), none] [] _ _
          refine g_goto (pc := 309) (tgt := 275) dc_M_attributeEnd_309 rfl ?_
          exact v275_M_attributeEnd hA hX hs n (i + 1) (by omega) K
    · rw [fw_f hp] at K
      exact K
theorem v168_M_attributeEnd {Q : Option Value → List va_E → Prop}  (hA : A.length = 84) (hX : tx S.texts s L) (hs : s + L.length ≤ 24000) : ∀ n i : Nat, i + n = L.length → am_G X mt_M_attributeEnd (d + 4) 168 [some (.ref 84), none, some (.int (nI (s + L.length))), none, some (.int (b1 hb)), none, none, none, some (.int (nI (s + (fw isBl L i L.length))))] [] (mput A S B) Q → am_G X mt_M_attributeEnd (d + 4) 168 [some (.ref 84), none, some (.int (nI (s + L.length))), none, some (.int (b1 hb)), none, none, none, some (.int (nI (s + i)))] [] (mput A S B) Q
  | 0, i, e, K => by
    have e1 : fw isBl L i L.length = i := fw_0 (by omega)
    rw [e1] at K
    exact K
  | n + 1, i, e, K => by
    by_cases hp : isBl (gx L i) = true
    · rw [fw_t (by omega) hp] at K
      skip
      skip
      refine g_iload (pc := 168) dc_M_attributeEnd_168 rfl ?_
      refine g_iload_n (pc := 170) dc_M_attributeEnd_170 rfl ?_
      refine q_icmp_ge (pc := 171) (tgt := 193) (s + i) (s + L.length) dc_M_attributeEnd_171 (by omega) (by omega) rfl (fun hc => absurd hc (by omega)) (fun hc171 => ?_)
      refine g_aload_n (pc := 174) dc_M_attributeEnd_174 rfl ?_
      refine g_getfield (pc := 175) dc_M_attributeEnd_175 fl_M_140 (mp_o hA) rfl ?_
      refine g_iload (pc := 178) dc_M_attributeEnd_178 rfl ?_
      refine q_tx (pc := 180) i dc_M_attributeEnd_180 (mp_a hA 12 rfl) hX hs (by omega) (by omega) ?_
      refine g_s1 (pc := 181) (M' := mt_M_isBlank) dc_M_attributeEnd_181 mo_M_isBlank st_M_isBlank ln_M_75 (Nat.le_of_ble_eq_true rfl) (Nat.le_of_ble_eq_true rfl) (am_G.mono (c_M_isBlank (v := (gx L i))) ?_)
      intro r h1 hq
      rw [hq.1, hq.2]
      clear hq h1 r
      refine ⟨am_nti _, ?_⟩
      refine q_ifb_eq (pc := 184) (tgt := 193) dc_M_attributeEnd_184 rfl (fun hc184 => ?_) (fun hc184 => ?_)
      · exact absurd hp (by simp [hc171, hc184])
      · refine g_iinc (pc := 187) (v := (nI (s + (i + 1)))) dc_M_attributeEnd_187 rfl (q_as s i 1) (by decide) ?_
        show am_G X mt_M_attributeEnd _ 190 [some (.ref 84), none, some (.int (nI (s + L.length))), none, some (.int (b1 hb)), none, none, none, some (.int (nI (s + (i + 1))))] [] _ _
        refine g_goto (pc := 190) (tgt := 168) dc_M_attributeEnd_190 rfl ?_
        exact v168_M_attributeEnd hA hX hs n (i + 1) (by omega) K
    · rw [fw_f hp] at K
      exact K
theorem v122_M_attributeEnd {Q : Option Value → List va_E → Prop}  (hA : A.length = 84) (hX : tx S.texts s L) (hs : s + L.length ≤ 24000) : ∀ n i : Nat, i + n = L.length → am_G X mt_M_attributeEnd (d + 4) 122 [some (.ref 84), none, some (.int (nI (s + L.length))), none, some (.int (b1 hb)), some (.int (nI (s + e0))), some (.int (nI (s + e0))), some (.int (nI (s + e0))), some (.int (nI (s + (fw isBl L i L.length))))] [] (mput A S B) Q → am_G X mt_M_attributeEnd (d + 4) 122 [some (.ref 84), none, some (.int (nI (s + L.length))), none, some (.int (b1 hb)), some (.int (nI (s + e0))), some (.int (nI (s + e0))), some (.int (nI (s + e0))), some (.int (nI (s + i)))] [] (mput A S B) Q
  | 0, i, e, K => by
    have e1 : fw isBl L i L.length = i := fw_0 (by omega)
    rw [e1] at K
    exact K
  | n + 1, i, e, K => by
    by_cases hp : isBl (gx L i) = true
    · rw [fw_t (by omega) hp] at K
      skip
      skip
      refine g_iload (pc := 122) dc_M_attributeEnd_122 rfl ?_
      refine g_iload_n (pc := 124) dc_M_attributeEnd_124 rfl ?_
      refine q_icmp_ge (pc := 125) (tgt := 147) (s + i) (s + L.length) dc_M_attributeEnd_125 (by omega) (by omega) rfl (fun hc => absurd hc (by omega)) (fun hc125 => ?_)
      refine g_aload_n (pc := 128) dc_M_attributeEnd_128 rfl ?_
      refine g_getfield (pc := 129) dc_M_attributeEnd_129 fl_M_140 (mp_o hA) rfl ?_
      refine g_iload (pc := 132) dc_M_attributeEnd_132 rfl ?_
      refine q_tx (pc := 134) i dc_M_attributeEnd_134 (mp_a hA 12 rfl) hX hs (by omega) (by omega) ?_
      refine g_s1 (pc := 135) (M' := mt_M_isBlank) dc_M_attributeEnd_135 mo_M_isBlank st_M_isBlank ln_M_75 (Nat.le_of_ble_eq_true rfl) (Nat.le_of_ble_eq_true rfl) (am_G.mono (c_M_isBlank (v := (gx L i))) ?_)
      intro r h1 hq
      rw [hq.1, hq.2]
      clear hq h1 r
      refine ⟨am_nti _, ?_⟩
      refine q_ifb_eq (pc := 138) (tgt := 147) dc_M_attributeEnd_138 rfl (fun hc138 => ?_) (fun hc138 => ?_)
      · exact absurd hp (by simp [hc125, hc138])
      · refine g_iinc (pc := 141) (v := (nI (s + (i + 1)))) dc_M_attributeEnd_141 rfl (q_as s i 1) (by decide) ?_
        show am_G X mt_M_attributeEnd _ 144 [some (.ref 84), none, some (.int (nI (s + L.length))), none, some (.int (b1 hb)), some (.int (nI (s + e0))), some (.int (nI (s + e0))), some (.int (nI (s + e0))), some (.int (nI (s + (i + 1))))] [] _ _
        refine g_goto (pc := 144) (tgt := 122) dc_M_attributeEnd_144 rfl ?_
        exact v122_M_attributeEnd hA hX hs n (i + 1) (by omega) K
    · rw [fw_f hp] at K
      exact K
theorem v4_M_attributeEnd {Q : Option Value → List va_E → Prop}  (hA : A.length = 84) (hX : tx S.texts s L) (hs : s + L.length ≤ 24000) : ∀ n i : Nat, i + n = L.length → am_G X mt_M_attributeEnd (d + 4) 4 [some (.ref 84), some (.int (nI (s + p))), some (.int (nI (s + L.length))), some (.int (nI (s + (fw anB L i L.length)))), none, none, none, none, none] [] (mput A S B) Q → am_G X mt_M_attributeEnd (d + 4) 4 [some (.ref 84), some (.int (nI (s + p))), some (.int (nI (s + L.length))), some (.int (nI (s + i))), none, none, none, none, none] [] (mput A S B) Q
  | 0, i, e, K => by
    have e1 : fw anB L i L.length = i := fw_0 (by omega)
    rw [e1] at K
    exact K
  | n + 1, i, e, K => by
    by_cases hp : anB (gx L i) = true
    · rw [fw_t (by omega) hp] at K
      skip
      skip
      refine g_iload_n (pc := 4) dc_M_attributeEnd_4 rfl ?_
      refine g_iload_n (pc := 5) dc_M_attributeEnd_5 rfl ?_
      refine q_icmp_ge (pc := 6) (tgt := 60) (s + i) (s + L.length) dc_M_attributeEnd_6 (by omega) (by omega) rfl (fun hc => absurd hc (by omega)) (fun hc6 => ?_)
      refine g_aload_n (pc := 9) dc_M_attributeEnd_9 rfl ?_
      refine g_getfield (pc := 10) dc_M_attributeEnd_10 fl_M_140 (mp_o hA) rfl ?_
      refine g_iload_n (pc := 13) dc_M_attributeEnd_13 rfl ?_
      refine q_tx (pc := 14) i dc_M_attributeEnd_14 (mp_a hA 12 rfl) hX hs (by omega) (by omega) ?_
      refine g_s1 (pc := 15) (M' := mt_M_isBlank) dc_M_attributeEnd_15 mo_M_isBlank st_M_isBlank ln_M_75 (Nat.le_of_ble_eq_true rfl) (Nat.le_of_ble_eq_true rfl) (am_G.mono (c_M_isBlank (v := (gx L i))) ?_)
      intro r h1 hq
      rw [hq.1, hq.2]
      clear hq h1 r
      refine ⟨am_nti _, ?_⟩
      refine q_ifb_ne (pc := 18) (tgt := 60) dc_M_attributeEnd_18 rfl (fun hc18 => ?_) (fun hc18 => ?_)
      · exact absurd hp (by simp [anB, hc6, hc18])
      · refine g_aload_n (pc := 21) dc_M_attributeEnd_21 rfl ?_
        refine g_getfield (pc := 22) dc_M_attributeEnd_22 fl_M_140 (mp_o hA) rfl ?_
        refine g_iload_n (pc := 25) dc_M_attributeEnd_25 rfl ?_
        refine q_tx (pc := 26) i dc_M_attributeEnd_26 (mp_a hA 12 rfl) hX hs (by omega) (by omega) ?_
        refine g_bipush (pc := 27) (v := 47) dc_M_attributeEnd_27 rfl ?_
        refine g_icmp_eq (pc := 29) (tgt := 60) dc_M_attributeEnd_29 rfl (fun hc29 => ?_) (fun hc29 => ?_)
        · exact absurd hp (by simp [anB, hc6, hc18, hc29])
        · refine g_aload_n (pc := 32) dc_M_attributeEnd_32 rfl ?_
          refine g_getfield (pc := 33) dc_M_attributeEnd_33 fl_M_140 (mp_o hA) rfl ?_
          refine g_iload_n (pc := 36) dc_M_attributeEnd_36 rfl ?_
          refine q_tx (pc := 37) i dc_M_attributeEnd_37 (mp_a hA 12 rfl) hX hs (by omega) (by omega) ?_
          refine g_bipush (pc := 38) (v := 62) dc_M_attributeEnd_38 rfl ?_
          refine g_icmp_eq (pc := 40) (tgt := 60) dc_M_attributeEnd_40 rfl (fun hc40 => ?_) (fun hc40 => ?_)
          · exact absurd hp (by simp [anB, hc6, hc18, hc29, hc40])
          · refine g_aload_n (pc := 43) dc_M_attributeEnd_43 rfl ?_
            refine g_getfield (pc := 44) dc_M_attributeEnd_44 fl_M_140 (mp_o hA) rfl ?_
            refine g_iload_n (pc := 47) dc_M_attributeEnd_47 rfl ?_
            refine q_tx (pc := 48) i dc_M_attributeEnd_48 (mp_a hA 12 rfl) hX hs (by omega) (by omega) ?_
            refine g_bipush (pc := 49) (v := 61) dc_M_attributeEnd_49 rfl ?_
            refine g_icmp_eq (pc := 51) (tgt := 60) dc_M_attributeEnd_51 rfl (fun hc51 => ?_) (fun hc51 => ?_)
            · exact absurd hp (by simp [anB, hc6, hc18, hc29, hc40, hc51])
            · refine g_iinc (pc := 54) (v := (nI (s + (i + 1)))) dc_M_attributeEnd_54 rfl (q_as s i 1) (by decide) ?_
              show am_G X mt_M_attributeEnd _ 57 [some (.ref 84), some (.int (nI (s + p))), some (.int (nI (s + L.length))), some (.int (nI (s + (i + 1)))), none, none, none, none, none] [] _ _
              refine g_goto (pc := 57) (tgt := 4) dc_M_attributeEnd_57 rfl ?_
              exact v4_M_attributeEnd hA hX hs n (i + 1) (by omega) K
    · rw [fw_f hp] at K
      exact K
theorem u_M_attributeEnd (hA : A.length = 84) (hX : tx S.texts s L) (hs : s + L.length ≤ 24000) (hp : p < L.length) (he : e0 = aE L p) : am_G X mt_M_attributeEnd (d + 4) 122 [some (.ref 84), none, some (.int (nI (s + L.length))), none, some (.int (b1 hb)), some (.int (nI (s + e0))), some (.int (nI (s + e0))), some (.int (nI (s + e0))), some (.int (nI (s + e0)))] [] (mput A S B) (fun r h1 => r = some (.int (nI (s + (atr L p).1))) ∧ h1 = mput A (hrS hb (s + (atr L p).2.1) (s + (atr L p).2.2) S) B) := by
  have h1 := fw_bd (p := anB) (L := L) (f := p + 1) (t := L.length) (by omega)
  rw [show fw anB L (p + 1) L.length = e0 from he.symm] at h1
  have h2 := fw_bd (p := isBl) (L := L) (f := e0) (t := L.length) h1.2
  have o2 := fw_out (p := isBl) (L := L) (f := e0) (t := L.length)
  have g2 : fw isBl L e0 L.length = aG L p := by rw [he]; rfl
  refine v122_M_attributeEnd hA hX hs (L.length - e0) e0 (by omega) ?_
  rw [g2] at h2 o2 ⊢
  have hat : atr L p = if aG L p < L.length ∧ gx L (aG L p) = 61 then (if aV L p < L.length ∧ (gx L (aV L p) = 34 ∨ gx L (aV L p) = 39) then (Nat.min (aQ L p + 1) L.length, aV L p + 1, aQ L p) else (aB L p, aV L p, aB L p)) else (e0, e0, e0) := by rw [he]; rfl
  refine g_iload (pc := 122) dc_M_attributeEnd_122 rfl ?_
  refine g_iload_n (pc := 124) dc_M_attributeEnd_124 rfl ?_
  refine q_icmp_ge (pc := 125) (tgt := 147) (s + (aG L p)) (s + L.length) dc_M_attributeEnd_125 (by omega) (by omega) rfl (fun hc125 => ?_) (fun hc125 => ?_)
  · refine g_iload (pc := 147) dc_M_attributeEnd_147 rfl ?_
    refine g_iload_n (pc := 149) dc_M_attributeEnd_149 rfl ?_
    refine q_icmp_ge (pc := 150) (tgt := 316) (s + (aG L p)) (s + L.length) dc_M_attributeEnd_150 (by omega) (by omega) rfl (fun hc150 => ?_) (fun hc150 => ?_)
    · have ha9 : atr L p = (e0, e0, e0) := by rw [hat, if_neg (by omega)]
      rw [ha9]
      refine am_wk (am_le_s (am_le_n (am_le_n (am_le_n (am_le_s (am_le_s (am_le_s (am_le_s (am_le_n am_le_0))))))))) ?_
      exact w_M_attributeEnd hA
    · refine g_aload_n (pc := 153) dc_M_attributeEnd_153 rfl ?_
      refine g_getfield (pc := 154) dc_M_attributeEnd_154 fl_M_140 (mp_o hA) rfl ?_
      refine g_iload (pc := 157) dc_M_attributeEnd_157 rfl ?_
      refine q_tx (pc := 159) (aG L p) dc_M_attributeEnd_159 (mp_a hA 12 rfl) hX hs (by omega) (by omega) ?_
      refine g_bipush (pc := 160) (v := 61) dc_M_attributeEnd_160 rfl ?_
      refine g_icmp_ne (pc := 162) (tgt := 316) dc_M_attributeEnd_162 rfl (fun hc162 => ?_) (fun hc162 => ?_)
      · have ha9 : atr L p = (e0, e0, e0) := by rw [hat, if_neg (fun h9 => hc162 h9.2)]
        rw [ha9]
        refine am_wk (am_le_s (am_le_n (am_le_n (am_le_n (am_le_s (am_le_s (am_le_s (am_le_s (am_le_n am_le_0))))))))) ?_
        exact w_M_attributeEnd hA
      · refine g_iinc (pc := 165) (v := (nI (s + (aG L p + 1)))) dc_M_attributeEnd_165 rfl (q_as s (aG L p) 1) (by decide) ?_
        show am_G X mt_M_attributeEnd _ 168 [some (.ref 84), none, some (.int (nI (s + L.length))), none, some (.int (b1 hb)), some (.int (nI (s + e0))), some (.int (nI (s + e0))), some (.int (nI (s + e0))), some (.int (nI (s + (aG L p + 1))))] [] _ _
        have h4 := fw_bd (p := isBl) (L := L) (f := aG L p + 1) (t := L.length) (by omega)
        have o4 := fw_out (p := isBl) (L := L) (f := aG L p + 1) (t := L.length)
        refine am_wk (am_le_s (am_le_n (am_le_s (am_le_n (am_le_s (am_le_n (am_le_n (am_le_n (am_le_s am_le_0))))))))) ?_
        refine v168_M_attributeEnd hA hX hs (L.length - (aG L p + 1)) (aG L p + 1) (by omega) ?_
        rw [show fw isBl L (aG L p + 1) L.length = aV L p from rfl] at h4 o4 ⊢
        rw [if_pos ⟨by omega, hc162⟩] at hat
        refine g_iload (pc := 168) dc_M_attributeEnd_168 rfl ?_
        refine g_iload_n (pc := 170) dc_M_attributeEnd_170 rfl ?_
        refine q_icmp_ge (pc := 171) (tgt := 193) (s + (aV L p)) (s + L.length) dc_M_attributeEnd_171 (by omega) (by omega) rfl (fun hc171 => ?_) (fun hc171 => ?_)
        · refine g_iload (pc := 193) dc_M_attributeEnd_193 rfl ?_
          refine g_iload_n (pc := 195) dc_M_attributeEnd_195 rfl ?_
          refine q_icmp_ge (pc := 196) (tgt := 267) (s + (aV L p)) (s + L.length) dc_M_attributeEnd_196 (by omega) (by omega) rfl (fun hc196 => ?_) (fun hc196 => ?_)
          · refine g_iload (pc := 267) dc_M_attributeEnd_267 rfl ?_
            refine g_istore (pc := 269) dc_M_attributeEnd_269 (by decide) ?_
            show am_G X mt_M_attributeEnd _ 271 [some (.ref 84), none, some (.int (nI (s + L.length))), none, some (.int (b1 hb)), none, some (.int (nI (s + (aV L p)))), none, some (.int (nI (s + (aV L p))))] [] _ _
            refine g_iload (pc := 271) dc_M_attributeEnd_271 rfl ?_
            refine g_istore (pc := 273) dc_M_attributeEnd_273 (by decide) ?_
            show am_G X mt_M_attributeEnd _ 275 [some (.ref 84), none, some (.int (nI (s + L.length))), none, some (.int (b1 hb)), none, some (.int (nI (s + (aV L p)))), some (.int (nI (s + (aV L p)))), some (.int (nI (s + (aV L p))))] [] _ _
            refine am_wk (am_le_s (am_le_n (am_le_s (am_le_n (am_le_s (am_le_n (am_le_s (am_le_s (am_le_n am_le_0))))))))) ?_
            refine v275_M_attributeEnd hA hX hs (L.length - aV L p) (aV L p) (by omega) ?_
            have h6 := fw_bd (p := bvB) (L := L) (f := aV L p) (t := L.length) (by omega)
            have o6 := fw_out (p := bvB) (L := L) (f := aV L p) (t := L.length)
            rw [show fw bvB L (aV L p) L.length = aB L p from rfl] at h6 o6 ⊢
            refine g_iload (pc := 275) dc_M_attributeEnd_275 rfl ?_
            refine g_iload_n (pc := 277) dc_M_attributeEnd_277 rfl ?_
            refine q_icmp_ge (pc := 278) (tgt := 312) (s + (aB L p)) (s + L.length) dc_M_attributeEnd_278 (by omega) (by omega) rfl (fun hc278 => ?_) (fun hc278 => ?_)
            · refine g_iload (pc := 312) dc_M_attributeEnd_312 rfl ?_
              refine g_istore (pc := 314) dc_M_attributeEnd_314 (by decide) ?_
              show am_G X mt_M_attributeEnd _ 316 [some (.ref 84), none, some (.int (nI (s + L.length))), none, some (.int (b1 hb)), some (.int (nI (s + (aB L p)))), some (.int (nI (s + (aV L p)))), some (.int (nI (s + (aB L p)))), none] [] _ _
              have ha9 : atr L p = (aB L p, aV L p, aB L p) := by rw [hat, if_neg (by omega)]
              rw [ha9]
              refine am_wk (am_le_s (am_le_n (am_le_n (am_le_n (am_le_s (am_le_s (am_le_s (am_le_s (am_le_n am_le_0))))))))) ?_
              exact w_M_attributeEnd hA
            · refine g_aload_n (pc := 281) dc_M_attributeEnd_281 rfl ?_
              refine g_getfield (pc := 282) dc_M_attributeEnd_282 fl_M_140 (mp_o hA) rfl ?_
              refine g_iload (pc := 285) dc_M_attributeEnd_285 rfl ?_
              refine q_tx (pc := 287) (aB L p) dc_M_attributeEnd_287 (mp_a hA 12 rfl) hX hs (by omega) (by omega) ?_
              refine g_s1 (pc := 288) (M' := mt_M_isBlank) dc_M_attributeEnd_288 mo_M_isBlank st_M_isBlank ln_M_75 (Nat.le_of_ble_eq_true rfl) (Nat.le_of_ble_eq_true rfl) (am_G.mono (c_M_isBlank (v := (gx L (aB L p)))) ?_)
              intro r h1 hq
              rw [hq.1, hq.2]
              clear hq h1 r
              refine ⟨am_nti _, ?_⟩
              refine q_ifb_ne (pc := 291) (tgt := 312) dc_M_attributeEnd_291 rfl (fun hc291 => ?_) (fun hc291 => ?_)
              · refine g_iload (pc := 312) dc_M_attributeEnd_312 rfl ?_
                refine g_istore (pc := 314) dc_M_attributeEnd_314 (by decide) ?_
                show am_G X mt_M_attributeEnd _ 316 [some (.ref 84), none, some (.int (nI (s + L.length))), none, some (.int (b1 hb)), some (.int (nI (s + (aB L p)))), some (.int (nI (s + (aV L p)))), some (.int (nI (s + (aB L p)))), none] [] _ _
                have ha9 : atr L p = (aB L p, aV L p, aB L p) := by rw [hat, if_neg (by omega)]
                rw [ha9]
                refine am_wk (am_le_s (am_le_n (am_le_n (am_le_n (am_le_s (am_le_s (am_le_s (am_le_s (am_le_n am_le_0))))))))) ?_
                exact w_M_attributeEnd hA
              · refine g_aload_n (pc := 294) dc_M_attributeEnd_294 rfl ?_
                refine g_getfield (pc := 295) dc_M_attributeEnd_295 fl_M_140 (mp_o hA) rfl ?_
                refine g_iload (pc := 298) dc_M_attributeEnd_298 rfl ?_
                refine q_tx (pc := 300) (aB L p) dc_M_attributeEnd_300 (mp_a hA 12 rfl) hX hs (by omega) (by omega) ?_
                refine g_bipush (pc := 301) (v := 62) dc_M_attributeEnd_301 rfl ?_
                refine g_icmp_eq (pc := 303) (tgt := 312) dc_M_attributeEnd_303 rfl (fun hc303 => ?_) (fun hc303 => ?_)
                · refine g_iload (pc := 312) dc_M_attributeEnd_312 rfl ?_
                  refine g_istore (pc := 314) dc_M_attributeEnd_314 (by decide) ?_
                  show am_G X mt_M_attributeEnd _ 316 [some (.ref 84), none, some (.int (nI (s + L.length))), none, some (.int (b1 hb)), some (.int (nI (s + (aB L p)))), some (.int (nI (s + (aV L p)))), some (.int (nI (s + (aB L p)))), none] [] _ _
                  have ha9 : atr L p = (aB L p, aV L p, aB L p) := by rw [hat, if_neg (by omega)]
                  rw [ha9]
                  refine am_wk (am_le_s (am_le_n (am_le_n (am_le_n (am_le_s (am_le_s (am_le_s (am_le_s (am_le_n am_le_0))))))))) ?_
                  exact w_M_attributeEnd hA
                · exact absurd (o6 (by omega)) (by simp [bvB, hc291, hc303])
          · refine g_aload_n (pc := 199) dc_M_attributeEnd_199 rfl ?_
            refine g_getfield (pc := 200) dc_M_attributeEnd_200 fl_M_140 (mp_o hA) rfl ?_
            refine g_iload (pc := 203) dc_M_attributeEnd_203 rfl ?_
            refine q_tx (pc := 205) (aV L p) dc_M_attributeEnd_205 (mp_a hA 12 rfl) hX hs (by omega) (by omega) ?_
            refine g_bipush (pc := 206) (v := 34) dc_M_attributeEnd_206 rfl ?_
            refine g_icmp_eq (pc := 208) (tgt := 223) dc_M_attributeEnd_208 rfl (fun hc208 => ?_) (fun hc208 => ?_)
            · refine g_iload (pc := 223) dc_M_attributeEnd_223 rfl ?_
              refine g_iconst (pc := 225) (v := 1) dc_M_attributeEnd_225 rfl ?_
              refine g_iadd (pc := 226) (v := (nI (s + (aV L p + 1)))) dc_M_attributeEnd_226 (q_as s (aV L p) 1) ?_
              refine g_istore (pc := 227) dc_M_attributeEnd_227 (by decide) ?_
              show am_G X mt_M_attributeEnd _ 229 [some (.ref 84), none, some (.int (nI (s + L.length))), none, some (.int (b1 hb)), none, some (.int (nI (s + (aV L p + 1)))), none, some (.int (nI (s + (aV L p))))] [] _ _
              refine g_aload_n (pc := 229) dc_M_attributeEnd_229 rfl ?_
              refine g_getfield (pc := 230) dc_M_attributeEnd_230 fl_M_140 (mp_o hA) rfl ?_
              refine g_iload (pc := 233) dc_M_attributeEnd_233 rfl ?_
              refine g_iload_n (pc := 235) dc_M_attributeEnd_235 rfl ?_
              refine g_aload_n (pc := 236) dc_M_attributeEnd_236 rfl ?_
              refine g_getfield (pc := 237) dc_M_attributeEnd_237 fl_M_140 (mp_o hA) rfl ?_
              refine g_iload (pc := 240) dc_M_attributeEnd_240 rfl ?_
              refine q_tx (pc := 242) (aV L p) dc_M_attributeEnd_242 (mp_a hA 12 rfl) hX hs (by omega) (by omega) ?_
              refine g_s4 (pc := 243) (M' := mt_M_seek) dc_M_attributeEnd_243 mo_M_seek st_M_seek ln_M_48 (Nat.le_of_ble_eq_true rfl) (Nat.le_of_ble_eq_true rfl) (am_G.mono (t_M_seek (f := aV L p + 1) (t := L.length) (tt_txt hA hX hs) (by omega) (Nat.le_refl _)) ?_)
              intro r h1 hq
              rw [hq.1, hq.2]
              clear hq h1 r
              refine ⟨am_nti _, ?_⟩
              have h6 := fw_bd (p := nev (gx L (aV L p))) (L := L) (f := aV L p + 1) (t := L.length) (by omega)
              rw [show fw (nev (gx L (aV L p))) L (aV L p + 1) L.length = aQ L p from rfl] at h6 ⊢
              refine g_istore (pc := 246) dc_M_attributeEnd_246 (by decide) ?_
              show am_G X mt_M_attributeEnd _ 248 [some (.ref 84), none, some (.int (nI (s + L.length))), none, some (.int (b1 hb)), none, some (.int (nI (s + (aV L p + 1)))), some (.int (nI (s + (aQ L p)))), some (.int (nI (s + (aV L p))))] [] _ _
              refine g_iload (pc := 248) dc_M_attributeEnd_248 rfl ?_
              refine g_iload_n (pc := 250) dc_M_attributeEnd_250 rfl ?_
              refine q_icmp_ge (pc := 251) (tgt := 261) (s + (aQ L p)) (s + L.length) dc_M_attributeEnd_251 (by omega) (by omega) rfl (fun hc251 => ?_) (fun hc251 => ?_)
              · refine g_iload_n (pc := 261) dc_M_attributeEnd_261 rfl ?_
                refine g_istore (pc := 262) dc_M_attributeEnd_262 (by decide) ?_
                show am_G X mt_M_attributeEnd _ 264 [some (.ref 84), none, some (.int (nI (s + L.length))), none, some (.int (b1 hb)), some (.int (nI (s + L.length))), some (.int (nI (s + (aV L p + 1)))), some (.int (nI (s + (aQ L p)))), some (.int (nI (s + (aV L p))))] [] _ _
                refine g_goto (pc := 264) (tgt := 316) dc_M_attributeEnd_264 rfl ?_
                have ha9 : atr L p = (L.length, aV L p + 1, aQ L p) := by rw [hat, if_pos ⟨by omega, Or.inl hc208⟩]; show (_, _, _) = _; rw [show Nat.min (aQ L p + 1) L.length = L.length from by show min (aQ L p + 1) L.length = _; omega]
                rw [ha9]
                refine am_wk (am_le_s (am_le_n (am_le_n (am_le_n (am_le_s (am_le_s (am_le_s (am_le_s (am_le_n am_le_0))))))))) ?_
                exact w_M_attributeEnd hA
              · refine g_iload (pc := 254) dc_M_attributeEnd_254 rfl ?_
                refine g_iconst (pc := 256) (v := 1) dc_M_attributeEnd_256 rfl ?_
                refine g_iadd (pc := 257) (v := (nI (s + (aQ L p + 1)))) dc_M_attributeEnd_257 (q_as s (aQ L p) 1) ?_
                refine g_goto (pc := 258) (tgt := 262) dc_M_attributeEnd_258 rfl ?_
                refine g_istore (pc := 262) dc_M_attributeEnd_262 (by decide) ?_
                show am_G X mt_M_attributeEnd _ 264 [some (.ref 84), none, some (.int (nI (s + L.length))), none, some (.int (b1 hb)), some (.int (nI (s + (aQ L p + 1)))), some (.int (nI (s + (aV L p + 1)))), some (.int (nI (s + (aQ L p)))), some (.int (nI (s + (aV L p))))] [] _ _
                refine g_goto (pc := 264) (tgt := 316) dc_M_attributeEnd_264 rfl ?_
                have ha9 : atr L p = (aQ L p + 1, aV L p + 1, aQ L p) := by rw [hat, if_pos ⟨by omega, Or.inl hc208⟩]; show (_, _, _) = _; rw [show Nat.min (aQ L p + 1) L.length = (aQ L p + 1) from by show min (aQ L p + 1) L.length = _; omega]
                rw [ha9]
                refine am_wk (am_le_s (am_le_n (am_le_n (am_le_n (am_le_s (am_le_s (am_le_s (am_le_s (am_le_n am_le_0))))))))) ?_
                exact w_M_attributeEnd hA
            · refine g_aload_n (pc := 211) dc_M_attributeEnd_211 rfl ?_
              refine g_getfield (pc := 212) dc_M_attributeEnd_212 fl_M_140 (mp_o hA) rfl ?_
              refine g_iload (pc := 215) dc_M_attributeEnd_215 rfl ?_
              refine q_tx (pc := 217) (aV L p) dc_M_attributeEnd_217 (mp_a hA 12 rfl) hX hs (by omega) (by omega) ?_
              refine g_bipush (pc := 218) (v := 39) dc_M_attributeEnd_218 rfl ?_
              refine g_icmp_ne (pc := 220) (tgt := 267) dc_M_attributeEnd_220 rfl (fun hc220 => ?_) (fun hc220 => ?_)
              · refine g_iload (pc := 267) dc_M_attributeEnd_267 rfl ?_
                refine g_istore (pc := 269) dc_M_attributeEnd_269 (by decide) ?_
                show am_G X mt_M_attributeEnd _ 271 [some (.ref 84), none, some (.int (nI (s + L.length))), none, some (.int (b1 hb)), none, some (.int (nI (s + (aV L p)))), none, some (.int (nI (s + (aV L p))))] [] _ _
                refine g_iload (pc := 271) dc_M_attributeEnd_271 rfl ?_
                refine g_istore (pc := 273) dc_M_attributeEnd_273 (by decide) ?_
                show am_G X mt_M_attributeEnd _ 275 [some (.ref 84), none, some (.int (nI (s + L.length))), none, some (.int (b1 hb)), none, some (.int (nI (s + (aV L p)))), some (.int (nI (s + (aV L p)))), some (.int (nI (s + (aV L p))))] [] _ _
                refine am_wk (am_le_s (am_le_n (am_le_s (am_le_n (am_le_s (am_le_n (am_le_s (am_le_s (am_le_n am_le_0))))))))) ?_
                refine v275_M_attributeEnd hA hX hs (L.length - aV L p) (aV L p) (by omega) ?_
                have h6 := fw_bd (p := bvB) (L := L) (f := aV L p) (t := L.length) (by omega)
                have o6 := fw_out (p := bvB) (L := L) (f := aV L p) (t := L.length)
                rw [show fw bvB L (aV L p) L.length = aB L p from rfl] at h6 o6 ⊢
                refine g_iload (pc := 275) dc_M_attributeEnd_275 rfl ?_
                refine g_iload_n (pc := 277) dc_M_attributeEnd_277 rfl ?_
                refine q_icmp_ge (pc := 278) (tgt := 312) (s + (aB L p)) (s + L.length) dc_M_attributeEnd_278 (by omega) (by omega) rfl (fun hc278 => ?_) (fun hc278 => ?_)
                · refine g_iload (pc := 312) dc_M_attributeEnd_312 rfl ?_
                  refine g_istore (pc := 314) dc_M_attributeEnd_314 (by decide) ?_
                  show am_G X mt_M_attributeEnd _ 316 [some (.ref 84), none, some (.int (nI (s + L.length))), none, some (.int (b1 hb)), some (.int (nI (s + (aB L p)))), some (.int (nI (s + (aV L p)))), some (.int (nI (s + (aB L p)))), none] [] _ _
                  have ha9 : atr L p = (aB L p, aV L p, aB L p) := by rw [hat, if_neg (fun h9 => h9.2.elim hc208 hc220)]
                  rw [ha9]
                  refine am_wk (am_le_s (am_le_n (am_le_n (am_le_n (am_le_s (am_le_s (am_le_s (am_le_s (am_le_n am_le_0))))))))) ?_
                  exact w_M_attributeEnd hA
                · refine g_aload_n (pc := 281) dc_M_attributeEnd_281 rfl ?_
                  refine g_getfield (pc := 282) dc_M_attributeEnd_282 fl_M_140 (mp_o hA) rfl ?_
                  refine g_iload (pc := 285) dc_M_attributeEnd_285 rfl ?_
                  refine q_tx (pc := 287) (aB L p) dc_M_attributeEnd_287 (mp_a hA 12 rfl) hX hs (by omega) (by omega) ?_
                  refine g_s1 (pc := 288) (M' := mt_M_isBlank) dc_M_attributeEnd_288 mo_M_isBlank st_M_isBlank ln_M_75 (Nat.le_of_ble_eq_true rfl) (Nat.le_of_ble_eq_true rfl) (am_G.mono (c_M_isBlank (v := (gx L (aB L p)))) ?_)
                  intro r h1 hq
                  rw [hq.1, hq.2]
                  clear hq h1 r
                  refine ⟨am_nti _, ?_⟩
                  refine q_ifb_ne (pc := 291) (tgt := 312) dc_M_attributeEnd_291 rfl (fun hc291 => ?_) (fun hc291 => ?_)
                  · refine g_iload (pc := 312) dc_M_attributeEnd_312 rfl ?_
                    refine g_istore (pc := 314) dc_M_attributeEnd_314 (by decide) ?_
                    show am_G X mt_M_attributeEnd _ 316 [some (.ref 84), none, some (.int (nI (s + L.length))), none, some (.int (b1 hb)), some (.int (nI (s + (aB L p)))), some (.int (nI (s + (aV L p)))), some (.int (nI (s + (aB L p)))), none] [] _ _
                    have ha9 : atr L p = (aB L p, aV L p, aB L p) := by rw [hat, if_neg (fun h9 => h9.2.elim hc208 hc220)]
                    rw [ha9]
                    refine am_wk (am_le_s (am_le_n (am_le_n (am_le_n (am_le_s (am_le_s (am_le_s (am_le_s (am_le_n am_le_0))))))))) ?_
                    exact w_M_attributeEnd hA
                  · refine g_aload_n (pc := 294) dc_M_attributeEnd_294 rfl ?_
                    refine g_getfield (pc := 295) dc_M_attributeEnd_295 fl_M_140 (mp_o hA) rfl ?_
                    refine g_iload (pc := 298) dc_M_attributeEnd_298 rfl ?_
                    refine q_tx (pc := 300) (aB L p) dc_M_attributeEnd_300 (mp_a hA 12 rfl) hX hs (by omega) (by omega) ?_
                    refine g_bipush (pc := 301) (v := 62) dc_M_attributeEnd_301 rfl ?_
                    refine g_icmp_eq (pc := 303) (tgt := 312) dc_M_attributeEnd_303 rfl (fun hc303 => ?_) (fun hc303 => ?_)
                    · refine g_iload (pc := 312) dc_M_attributeEnd_312 rfl ?_
                      refine g_istore (pc := 314) dc_M_attributeEnd_314 (by decide) ?_
                      show am_G X mt_M_attributeEnd _ 316 [some (.ref 84), none, some (.int (nI (s + L.length))), none, some (.int (b1 hb)), some (.int (nI (s + (aB L p)))), some (.int (nI (s + (aV L p)))), some (.int (nI (s + (aB L p)))), none] [] _ _
                      have ha9 : atr L p = (aB L p, aV L p, aB L p) := by rw [hat, if_neg (fun h9 => h9.2.elim hc208 hc220)]
                      rw [ha9]
                      refine am_wk (am_le_s (am_le_n (am_le_n (am_le_n (am_le_s (am_le_s (am_le_s (am_le_s (am_le_n am_le_0))))))))) ?_
                      exact w_M_attributeEnd hA
                    · exact absurd (o6 (by omega)) (by simp [bvB, hc291, hc303])
              · refine g_iload (pc := 223) dc_M_attributeEnd_223 rfl ?_
                refine g_iconst (pc := 225) (v := 1) dc_M_attributeEnd_225 rfl ?_
                refine g_iadd (pc := 226) (v := (nI (s + (aV L p + 1)))) dc_M_attributeEnd_226 (q_as s (aV L p) 1) ?_
                refine g_istore (pc := 227) dc_M_attributeEnd_227 (by decide) ?_
                show am_G X mt_M_attributeEnd _ 229 [some (.ref 84), none, some (.int (nI (s + L.length))), none, some (.int (b1 hb)), none, some (.int (nI (s + (aV L p + 1)))), none, some (.int (nI (s + (aV L p))))] [] _ _
                refine g_aload_n (pc := 229) dc_M_attributeEnd_229 rfl ?_
                refine g_getfield (pc := 230) dc_M_attributeEnd_230 fl_M_140 (mp_o hA) rfl ?_
                refine g_iload (pc := 233) dc_M_attributeEnd_233 rfl ?_
                refine g_iload_n (pc := 235) dc_M_attributeEnd_235 rfl ?_
                refine g_aload_n (pc := 236) dc_M_attributeEnd_236 rfl ?_
                refine g_getfield (pc := 237) dc_M_attributeEnd_237 fl_M_140 (mp_o hA) rfl ?_
                refine g_iload (pc := 240) dc_M_attributeEnd_240 rfl ?_
                refine q_tx (pc := 242) (aV L p) dc_M_attributeEnd_242 (mp_a hA 12 rfl) hX hs (by omega) (by omega) ?_
                refine g_s4 (pc := 243) (M' := mt_M_seek) dc_M_attributeEnd_243 mo_M_seek st_M_seek ln_M_48 (Nat.le_of_ble_eq_true rfl) (Nat.le_of_ble_eq_true rfl) (am_G.mono (t_M_seek (f := aV L p + 1) (t := L.length) (tt_txt hA hX hs) (by omega) (Nat.le_refl _)) ?_)
                intro r h1 hq
                rw [hq.1, hq.2]
                clear hq h1 r
                refine ⟨am_nti _, ?_⟩
                have h6 := fw_bd (p := nev (gx L (aV L p))) (L := L) (f := aV L p + 1) (t := L.length) (by omega)
                rw [show fw (nev (gx L (aV L p))) L (aV L p + 1) L.length = aQ L p from rfl] at h6 ⊢
                refine g_istore (pc := 246) dc_M_attributeEnd_246 (by decide) ?_
                show am_G X mt_M_attributeEnd _ 248 [some (.ref 84), none, some (.int (nI (s + L.length))), none, some (.int (b1 hb)), none, some (.int (nI (s + (aV L p + 1)))), some (.int (nI (s + (aQ L p)))), some (.int (nI (s + (aV L p))))] [] _ _
                refine g_iload (pc := 248) dc_M_attributeEnd_248 rfl ?_
                refine g_iload_n (pc := 250) dc_M_attributeEnd_250 rfl ?_
                refine q_icmp_ge (pc := 251) (tgt := 261) (s + (aQ L p)) (s + L.length) dc_M_attributeEnd_251 (by omega) (by omega) rfl (fun hc251 => ?_) (fun hc251 => ?_)
                · refine g_iload_n (pc := 261) dc_M_attributeEnd_261 rfl ?_
                  refine g_istore (pc := 262) dc_M_attributeEnd_262 (by decide) ?_
                  show am_G X mt_M_attributeEnd _ 264 [some (.ref 84), none, some (.int (nI (s + L.length))), none, some (.int (b1 hb)), some (.int (nI (s + L.length))), some (.int (nI (s + (aV L p + 1)))), some (.int (nI (s + (aQ L p)))), some (.int (nI (s + (aV L p))))] [] _ _
                  refine g_goto (pc := 264) (tgt := 316) dc_M_attributeEnd_264 rfl ?_
                  have ha9 : atr L p = (L.length, aV L p + 1, aQ L p) := by rw [hat, if_pos ⟨by omega, Or.inr hc220⟩]; show (_, _, _) = _; rw [show Nat.min (aQ L p + 1) L.length = L.length from by show min (aQ L p + 1) L.length = _; omega]
                  rw [ha9]
                  refine am_wk (am_le_s (am_le_n (am_le_n (am_le_n (am_le_s (am_le_s (am_le_s (am_le_s (am_le_n am_le_0))))))))) ?_
                  exact w_M_attributeEnd hA
                · refine g_iload (pc := 254) dc_M_attributeEnd_254 rfl ?_
                  refine g_iconst (pc := 256) (v := 1) dc_M_attributeEnd_256 rfl ?_
                  refine g_iadd (pc := 257) (v := (nI (s + (aQ L p + 1)))) dc_M_attributeEnd_257 (q_as s (aQ L p) 1) ?_
                  refine g_goto (pc := 258) (tgt := 262) dc_M_attributeEnd_258 rfl ?_
                  refine g_istore (pc := 262) dc_M_attributeEnd_262 (by decide) ?_
                  show am_G X mt_M_attributeEnd _ 264 [some (.ref 84), none, some (.int (nI (s + L.length))), none, some (.int (b1 hb)), some (.int (nI (s + (aQ L p + 1)))), some (.int (nI (s + (aV L p + 1)))), some (.int (nI (s + (aQ L p)))), some (.int (nI (s + (aV L p))))] [] _ _
                  refine g_goto (pc := 264) (tgt := 316) dc_M_attributeEnd_264 rfl ?_
                  have ha9 : atr L p = (aQ L p + 1, aV L p + 1, aQ L p) := by rw [hat, if_pos ⟨by omega, Or.inr hc220⟩]; show (_, _, _) = _; rw [show Nat.min (aQ L p + 1) L.length = (aQ L p + 1) from by show min (aQ L p + 1) L.length = _; omega]
                  rw [ha9]
                  refine am_wk (am_le_s (am_le_n (am_le_n (am_le_n (am_le_s (am_le_s (am_le_s (am_le_s (am_le_n am_le_0))))))))) ?_
                  exact w_M_attributeEnd hA
        · refine g_aload_n (pc := 174) dc_M_attributeEnd_174 rfl ?_
          refine g_getfield (pc := 175) dc_M_attributeEnd_175 fl_M_140 (mp_o hA) rfl ?_
          refine g_iload (pc := 178) dc_M_attributeEnd_178 rfl ?_
          refine q_tx (pc := 180) (aV L p) dc_M_attributeEnd_180 (mp_a hA 12 rfl) hX hs (by omega) (by omega) ?_
          refine g_s1 (pc := 181) (M' := mt_M_isBlank) dc_M_attributeEnd_181 mo_M_isBlank st_M_isBlank ln_M_75 (Nat.le_of_ble_eq_true rfl) (Nat.le_of_ble_eq_true rfl) (am_G.mono (c_M_isBlank (v := (gx L (aV L p)))) ?_)
          intro r h1 hq
          rw [hq.1, hq.2]
          clear hq h1 r
          refine ⟨am_nti _, ?_⟩
          refine q_ifb_eq (pc := 184) (tgt := 193) dc_M_attributeEnd_184 rfl (fun hc184 => ?_) (fun hc184 => ?_)
          · refine g_iload (pc := 193) dc_M_attributeEnd_193 rfl ?_
            refine g_iload_n (pc := 195) dc_M_attributeEnd_195 rfl ?_
            refine q_icmp_ge (pc := 196) (tgt := 267) (s + (aV L p)) (s + L.length) dc_M_attributeEnd_196 (by omega) (by omega) rfl (fun hc196 => ?_) (fun hc196 => ?_)
            · refine g_iload (pc := 267) dc_M_attributeEnd_267 rfl ?_
              refine g_istore (pc := 269) dc_M_attributeEnd_269 (by decide) ?_
              show am_G X mt_M_attributeEnd _ 271 [some (.ref 84), none, some (.int (nI (s + L.length))), none, some (.int (b1 hb)), none, some (.int (nI (s + (aV L p)))), none, some (.int (nI (s + (aV L p))))] [] _ _
              refine g_iload (pc := 271) dc_M_attributeEnd_271 rfl ?_
              refine g_istore (pc := 273) dc_M_attributeEnd_273 (by decide) ?_
              show am_G X mt_M_attributeEnd _ 275 [some (.ref 84), none, some (.int (nI (s + L.length))), none, some (.int (b1 hb)), none, some (.int (nI (s + (aV L p)))), some (.int (nI (s + (aV L p)))), some (.int (nI (s + (aV L p))))] [] _ _
              refine am_wk (am_le_s (am_le_n (am_le_s (am_le_n (am_le_s (am_le_n (am_le_s (am_le_s (am_le_n am_le_0))))))))) ?_
              refine v275_M_attributeEnd hA hX hs (L.length - aV L p) (aV L p) (by omega) ?_
              have h6 := fw_bd (p := bvB) (L := L) (f := aV L p) (t := L.length) (by omega)
              have o6 := fw_out (p := bvB) (L := L) (f := aV L p) (t := L.length)
              rw [show fw bvB L (aV L p) L.length = aB L p from rfl] at h6 o6 ⊢
              refine g_iload (pc := 275) dc_M_attributeEnd_275 rfl ?_
              refine g_iload_n (pc := 277) dc_M_attributeEnd_277 rfl ?_
              refine q_icmp_ge (pc := 278) (tgt := 312) (s + (aB L p)) (s + L.length) dc_M_attributeEnd_278 (by omega) (by omega) rfl (fun hc278 => ?_) (fun hc278 => ?_)
              · refine g_iload (pc := 312) dc_M_attributeEnd_312 rfl ?_
                refine g_istore (pc := 314) dc_M_attributeEnd_314 (by decide) ?_
                show am_G X mt_M_attributeEnd _ 316 [some (.ref 84), none, some (.int (nI (s + L.length))), none, some (.int (b1 hb)), some (.int (nI (s + (aB L p)))), some (.int (nI (s + (aV L p)))), some (.int (nI (s + (aB L p)))), none] [] _ _
                have ha9 : atr L p = (aB L p, aV L p, aB L p) := by rw [hat, if_neg (by omega)]
                rw [ha9]
                refine am_wk (am_le_s (am_le_n (am_le_n (am_le_n (am_le_s (am_le_s (am_le_s (am_le_s (am_le_n am_le_0))))))))) ?_
                exact w_M_attributeEnd hA
              · refine g_aload_n (pc := 281) dc_M_attributeEnd_281 rfl ?_
                refine g_getfield (pc := 282) dc_M_attributeEnd_282 fl_M_140 (mp_o hA) rfl ?_
                refine g_iload (pc := 285) dc_M_attributeEnd_285 rfl ?_
                refine q_tx (pc := 287) (aB L p) dc_M_attributeEnd_287 (mp_a hA 12 rfl) hX hs (by omega) (by omega) ?_
                refine g_s1 (pc := 288) (M' := mt_M_isBlank) dc_M_attributeEnd_288 mo_M_isBlank st_M_isBlank ln_M_75 (Nat.le_of_ble_eq_true rfl) (Nat.le_of_ble_eq_true rfl) (am_G.mono (c_M_isBlank (v := (gx L (aB L p)))) ?_)
                intro r h1 hq
                rw [hq.1, hq.2]
                clear hq h1 r
                refine ⟨am_nti _, ?_⟩
                refine q_ifb_ne (pc := 291) (tgt := 312) dc_M_attributeEnd_291 rfl (fun hc291 => ?_) (fun hc291 => ?_)
                · refine g_iload (pc := 312) dc_M_attributeEnd_312 rfl ?_
                  refine g_istore (pc := 314) dc_M_attributeEnd_314 (by decide) ?_
                  show am_G X mt_M_attributeEnd _ 316 [some (.ref 84), none, some (.int (nI (s + L.length))), none, some (.int (b1 hb)), some (.int (nI (s + (aB L p)))), some (.int (nI (s + (aV L p)))), some (.int (nI (s + (aB L p)))), none] [] _ _
                  have ha9 : atr L p = (aB L p, aV L p, aB L p) := by rw [hat, if_neg (by omega)]
                  rw [ha9]
                  refine am_wk (am_le_s (am_le_n (am_le_n (am_le_n (am_le_s (am_le_s (am_le_s (am_le_s (am_le_n am_le_0))))))))) ?_
                  exact w_M_attributeEnd hA
                · refine g_aload_n (pc := 294) dc_M_attributeEnd_294 rfl ?_
                  refine g_getfield (pc := 295) dc_M_attributeEnd_295 fl_M_140 (mp_o hA) rfl ?_
                  refine g_iload (pc := 298) dc_M_attributeEnd_298 rfl ?_
                  refine q_tx (pc := 300) (aB L p) dc_M_attributeEnd_300 (mp_a hA 12 rfl) hX hs (by omega) (by omega) ?_
                  refine g_bipush (pc := 301) (v := 62) dc_M_attributeEnd_301 rfl ?_
                  refine g_icmp_eq (pc := 303) (tgt := 312) dc_M_attributeEnd_303 rfl (fun hc303 => ?_) (fun hc303 => ?_)
                  · refine g_iload (pc := 312) dc_M_attributeEnd_312 rfl ?_
                    refine g_istore (pc := 314) dc_M_attributeEnd_314 (by decide) ?_
                    show am_G X mt_M_attributeEnd _ 316 [some (.ref 84), none, some (.int (nI (s + L.length))), none, some (.int (b1 hb)), some (.int (nI (s + (aB L p)))), some (.int (nI (s + (aV L p)))), some (.int (nI (s + (aB L p)))), none] [] _ _
                    have ha9 : atr L p = (aB L p, aV L p, aB L p) := by rw [hat, if_neg (by omega)]
                    rw [ha9]
                    refine am_wk (am_le_s (am_le_n (am_le_n (am_le_n (am_le_s (am_le_s (am_le_s (am_le_s (am_le_n am_le_0))))))))) ?_
                    exact w_M_attributeEnd hA
                  · exact absurd (o6 (by omega)) (by simp [bvB, hc291, hc303])
            · refine g_aload_n (pc := 199) dc_M_attributeEnd_199 rfl ?_
              refine g_getfield (pc := 200) dc_M_attributeEnd_200 fl_M_140 (mp_o hA) rfl ?_
              refine g_iload (pc := 203) dc_M_attributeEnd_203 rfl ?_
              refine q_tx (pc := 205) (aV L p) dc_M_attributeEnd_205 (mp_a hA 12 rfl) hX hs (by omega) (by omega) ?_
              refine g_bipush (pc := 206) (v := 34) dc_M_attributeEnd_206 rfl ?_
              refine g_icmp_eq (pc := 208) (tgt := 223) dc_M_attributeEnd_208 rfl (fun hc208 => ?_) (fun hc208 => ?_)
              · refine g_iload (pc := 223) dc_M_attributeEnd_223 rfl ?_
                refine g_iconst (pc := 225) (v := 1) dc_M_attributeEnd_225 rfl ?_
                refine g_iadd (pc := 226) (v := (nI (s + (aV L p + 1)))) dc_M_attributeEnd_226 (q_as s (aV L p) 1) ?_
                refine g_istore (pc := 227) dc_M_attributeEnd_227 (by decide) ?_
                show am_G X mt_M_attributeEnd _ 229 [some (.ref 84), none, some (.int (nI (s + L.length))), none, some (.int (b1 hb)), none, some (.int (nI (s + (aV L p + 1)))), none, some (.int (nI (s + (aV L p))))] [] _ _
                refine g_aload_n (pc := 229) dc_M_attributeEnd_229 rfl ?_
                refine g_getfield (pc := 230) dc_M_attributeEnd_230 fl_M_140 (mp_o hA) rfl ?_
                refine g_iload (pc := 233) dc_M_attributeEnd_233 rfl ?_
                refine g_iload_n (pc := 235) dc_M_attributeEnd_235 rfl ?_
                refine g_aload_n (pc := 236) dc_M_attributeEnd_236 rfl ?_
                refine g_getfield (pc := 237) dc_M_attributeEnd_237 fl_M_140 (mp_o hA) rfl ?_
                refine g_iload (pc := 240) dc_M_attributeEnd_240 rfl ?_
                refine q_tx (pc := 242) (aV L p) dc_M_attributeEnd_242 (mp_a hA 12 rfl) hX hs (by omega) (by omega) ?_
                refine g_s4 (pc := 243) (M' := mt_M_seek) dc_M_attributeEnd_243 mo_M_seek st_M_seek ln_M_48 (Nat.le_of_ble_eq_true rfl) (Nat.le_of_ble_eq_true rfl) (am_G.mono (t_M_seek (f := aV L p + 1) (t := L.length) (tt_txt hA hX hs) (by omega) (Nat.le_refl _)) ?_)
                intro r h1 hq
                rw [hq.1, hq.2]
                clear hq h1 r
                refine ⟨am_nti _, ?_⟩
                have h6 := fw_bd (p := nev (gx L (aV L p))) (L := L) (f := aV L p + 1) (t := L.length) (by omega)
                rw [show fw (nev (gx L (aV L p))) L (aV L p + 1) L.length = aQ L p from rfl] at h6 ⊢
                refine g_istore (pc := 246) dc_M_attributeEnd_246 (by decide) ?_
                show am_G X mt_M_attributeEnd _ 248 [some (.ref 84), none, some (.int (nI (s + L.length))), none, some (.int (b1 hb)), none, some (.int (nI (s + (aV L p + 1)))), some (.int (nI (s + (aQ L p)))), some (.int (nI (s + (aV L p))))] [] _ _
                refine g_iload (pc := 248) dc_M_attributeEnd_248 rfl ?_
                refine g_iload_n (pc := 250) dc_M_attributeEnd_250 rfl ?_
                refine q_icmp_ge (pc := 251) (tgt := 261) (s + (aQ L p)) (s + L.length) dc_M_attributeEnd_251 (by omega) (by omega) rfl (fun hc251 => ?_) (fun hc251 => ?_)
                · refine g_iload_n (pc := 261) dc_M_attributeEnd_261 rfl ?_
                  refine g_istore (pc := 262) dc_M_attributeEnd_262 (by decide) ?_
                  show am_G X mt_M_attributeEnd _ 264 [some (.ref 84), none, some (.int (nI (s + L.length))), none, some (.int (b1 hb)), some (.int (nI (s + L.length))), some (.int (nI (s + (aV L p + 1)))), some (.int (nI (s + (aQ L p)))), some (.int (nI (s + (aV L p))))] [] _ _
                  refine g_goto (pc := 264) (tgt := 316) dc_M_attributeEnd_264 rfl ?_
                  have ha9 : atr L p = (L.length, aV L p + 1, aQ L p) := by rw [hat, if_pos ⟨by omega, Or.inl hc208⟩]; show (_, _, _) = _; rw [show Nat.min (aQ L p + 1) L.length = L.length from by show min (aQ L p + 1) L.length = _; omega]
                  rw [ha9]
                  refine am_wk (am_le_s (am_le_n (am_le_n (am_le_n (am_le_s (am_le_s (am_le_s (am_le_s (am_le_n am_le_0))))))))) ?_
                  exact w_M_attributeEnd hA
                · refine g_iload (pc := 254) dc_M_attributeEnd_254 rfl ?_
                  refine g_iconst (pc := 256) (v := 1) dc_M_attributeEnd_256 rfl ?_
                  refine g_iadd (pc := 257) (v := (nI (s + (aQ L p + 1)))) dc_M_attributeEnd_257 (q_as s (aQ L p) 1) ?_
                  refine g_goto (pc := 258) (tgt := 262) dc_M_attributeEnd_258 rfl ?_
                  refine g_istore (pc := 262) dc_M_attributeEnd_262 (by decide) ?_
                  show am_G X mt_M_attributeEnd _ 264 [some (.ref 84), none, some (.int (nI (s + L.length))), none, some (.int (b1 hb)), some (.int (nI (s + (aQ L p + 1)))), some (.int (nI (s + (aV L p + 1)))), some (.int (nI (s + (aQ L p)))), some (.int (nI (s + (aV L p))))] [] _ _
                  refine g_goto (pc := 264) (tgt := 316) dc_M_attributeEnd_264 rfl ?_
                  have ha9 : atr L p = (aQ L p + 1, aV L p + 1, aQ L p) := by rw [hat, if_pos ⟨by omega, Or.inl hc208⟩]; show (_, _, _) = _; rw [show Nat.min (aQ L p + 1) L.length = (aQ L p + 1) from by show min (aQ L p + 1) L.length = _; omega]
                  rw [ha9]
                  refine am_wk (am_le_s (am_le_n (am_le_n (am_le_n (am_le_s (am_le_s (am_le_s (am_le_s (am_le_n am_le_0))))))))) ?_
                  exact w_M_attributeEnd hA
              · refine g_aload_n (pc := 211) dc_M_attributeEnd_211 rfl ?_
                refine g_getfield (pc := 212) dc_M_attributeEnd_212 fl_M_140 (mp_o hA) rfl ?_
                refine g_iload (pc := 215) dc_M_attributeEnd_215 rfl ?_
                refine q_tx (pc := 217) (aV L p) dc_M_attributeEnd_217 (mp_a hA 12 rfl) hX hs (by omega) (by omega) ?_
                refine g_bipush (pc := 218) (v := 39) dc_M_attributeEnd_218 rfl ?_
                refine g_icmp_ne (pc := 220) (tgt := 267) dc_M_attributeEnd_220 rfl (fun hc220 => ?_) (fun hc220 => ?_)
                · refine g_iload (pc := 267) dc_M_attributeEnd_267 rfl ?_
                  refine g_istore (pc := 269) dc_M_attributeEnd_269 (by decide) ?_
                  show am_G X mt_M_attributeEnd _ 271 [some (.ref 84), none, some (.int (nI (s + L.length))), none, some (.int (b1 hb)), none, some (.int (nI (s + (aV L p)))), none, some (.int (nI (s + (aV L p))))] [] _ _
                  refine g_iload (pc := 271) dc_M_attributeEnd_271 rfl ?_
                  refine g_istore (pc := 273) dc_M_attributeEnd_273 (by decide) ?_
                  show am_G X mt_M_attributeEnd _ 275 [some (.ref 84), none, some (.int (nI (s + L.length))), none, some (.int (b1 hb)), none, some (.int (nI (s + (aV L p)))), some (.int (nI (s + (aV L p)))), some (.int (nI (s + (aV L p))))] [] _ _
                  refine am_wk (am_le_s (am_le_n (am_le_s (am_le_n (am_le_s (am_le_n (am_le_s (am_le_s (am_le_n am_le_0))))))))) ?_
                  refine v275_M_attributeEnd hA hX hs (L.length - aV L p) (aV L p) (by omega) ?_
                  have h6 := fw_bd (p := bvB) (L := L) (f := aV L p) (t := L.length) (by omega)
                  have o6 := fw_out (p := bvB) (L := L) (f := aV L p) (t := L.length)
                  rw [show fw bvB L (aV L p) L.length = aB L p from rfl] at h6 o6 ⊢
                  refine g_iload (pc := 275) dc_M_attributeEnd_275 rfl ?_
                  refine g_iload_n (pc := 277) dc_M_attributeEnd_277 rfl ?_
                  refine q_icmp_ge (pc := 278) (tgt := 312) (s + (aB L p)) (s + L.length) dc_M_attributeEnd_278 (by omega) (by omega) rfl (fun hc278 => ?_) (fun hc278 => ?_)
                  · refine g_iload (pc := 312) dc_M_attributeEnd_312 rfl ?_
                    refine g_istore (pc := 314) dc_M_attributeEnd_314 (by decide) ?_
                    show am_G X mt_M_attributeEnd _ 316 [some (.ref 84), none, some (.int (nI (s + L.length))), none, some (.int (b1 hb)), some (.int (nI (s + (aB L p)))), some (.int (nI (s + (aV L p)))), some (.int (nI (s + (aB L p)))), none] [] _ _
                    have ha9 : atr L p = (aB L p, aV L p, aB L p) := by rw [hat, if_neg (fun h9 => h9.2.elim hc208 hc220)]
                    rw [ha9]
                    refine am_wk (am_le_s (am_le_n (am_le_n (am_le_n (am_le_s (am_le_s (am_le_s (am_le_s (am_le_n am_le_0))))))))) ?_
                    exact w_M_attributeEnd hA
                  · refine g_aload_n (pc := 281) dc_M_attributeEnd_281 rfl ?_
                    refine g_getfield (pc := 282) dc_M_attributeEnd_282 fl_M_140 (mp_o hA) rfl ?_
                    refine g_iload (pc := 285) dc_M_attributeEnd_285 rfl ?_
                    refine q_tx (pc := 287) (aB L p) dc_M_attributeEnd_287 (mp_a hA 12 rfl) hX hs (by omega) (by omega) ?_
                    refine g_s1 (pc := 288) (M' := mt_M_isBlank) dc_M_attributeEnd_288 mo_M_isBlank st_M_isBlank ln_M_75 (Nat.le_of_ble_eq_true rfl) (Nat.le_of_ble_eq_true rfl) (am_G.mono (c_M_isBlank (v := (gx L (aB L p)))) ?_)
                    intro r h1 hq
                    rw [hq.1, hq.2]
                    clear hq h1 r
                    refine ⟨am_nti _, ?_⟩
                    refine q_ifb_ne (pc := 291) (tgt := 312) dc_M_attributeEnd_291 rfl (fun hc291 => ?_) (fun hc291 => ?_)
                    · refine g_iload (pc := 312) dc_M_attributeEnd_312 rfl ?_
                      refine g_istore (pc := 314) dc_M_attributeEnd_314 (by decide) ?_
                      show am_G X mt_M_attributeEnd _ 316 [some (.ref 84), none, some (.int (nI (s + L.length))), none, some (.int (b1 hb)), some (.int (nI (s + (aB L p)))), some (.int (nI (s + (aV L p)))), some (.int (nI (s + (aB L p)))), none] [] _ _
                      have ha9 : atr L p = (aB L p, aV L p, aB L p) := by rw [hat, if_neg (fun h9 => h9.2.elim hc208 hc220)]
                      rw [ha9]
                      refine am_wk (am_le_s (am_le_n (am_le_n (am_le_n (am_le_s (am_le_s (am_le_s (am_le_s (am_le_n am_le_0))))))))) ?_
                      exact w_M_attributeEnd hA
                    · refine g_aload_n (pc := 294) dc_M_attributeEnd_294 rfl ?_
                      refine g_getfield (pc := 295) dc_M_attributeEnd_295 fl_M_140 (mp_o hA) rfl ?_
                      refine g_iload (pc := 298) dc_M_attributeEnd_298 rfl ?_
                      refine q_tx (pc := 300) (aB L p) dc_M_attributeEnd_300 (mp_a hA 12 rfl) hX hs (by omega) (by omega) ?_
                      refine g_bipush (pc := 301) (v := 62) dc_M_attributeEnd_301 rfl ?_
                      refine g_icmp_eq (pc := 303) (tgt := 312) dc_M_attributeEnd_303 rfl (fun hc303 => ?_) (fun hc303 => ?_)
                      · refine g_iload (pc := 312) dc_M_attributeEnd_312 rfl ?_
                        refine g_istore (pc := 314) dc_M_attributeEnd_314 (by decide) ?_
                        show am_G X mt_M_attributeEnd _ 316 [some (.ref 84), none, some (.int (nI (s + L.length))), none, some (.int (b1 hb)), some (.int (nI (s + (aB L p)))), some (.int (nI (s + (aV L p)))), some (.int (nI (s + (aB L p)))), none] [] _ _
                        have ha9 : atr L p = (aB L p, aV L p, aB L p) := by rw [hat, if_neg (fun h9 => h9.2.elim hc208 hc220)]
                        rw [ha9]
                        refine am_wk (am_le_s (am_le_n (am_le_n (am_le_n (am_le_s (am_le_s (am_le_s (am_le_s (am_le_n am_le_0))))))))) ?_
                        exact w_M_attributeEnd hA
                      · exact absurd (o6 (by omega)) (by simp [bvB, hc291, hc303])
                · refine g_iload (pc := 223) dc_M_attributeEnd_223 rfl ?_
                  refine g_iconst (pc := 225) (v := 1) dc_M_attributeEnd_225 rfl ?_
                  refine g_iadd (pc := 226) (v := (nI (s + (aV L p + 1)))) dc_M_attributeEnd_226 (q_as s (aV L p) 1) ?_
                  refine g_istore (pc := 227) dc_M_attributeEnd_227 (by decide) ?_
                  show am_G X mt_M_attributeEnd _ 229 [some (.ref 84), none, some (.int (nI (s + L.length))), none, some (.int (b1 hb)), none, some (.int (nI (s + (aV L p + 1)))), none, some (.int (nI (s + (aV L p))))] [] _ _
                  refine g_aload_n (pc := 229) dc_M_attributeEnd_229 rfl ?_
                  refine g_getfield (pc := 230) dc_M_attributeEnd_230 fl_M_140 (mp_o hA) rfl ?_
                  refine g_iload (pc := 233) dc_M_attributeEnd_233 rfl ?_
                  refine g_iload_n (pc := 235) dc_M_attributeEnd_235 rfl ?_
                  refine g_aload_n (pc := 236) dc_M_attributeEnd_236 rfl ?_
                  refine g_getfield (pc := 237) dc_M_attributeEnd_237 fl_M_140 (mp_o hA) rfl ?_
                  refine g_iload (pc := 240) dc_M_attributeEnd_240 rfl ?_
                  refine q_tx (pc := 242) (aV L p) dc_M_attributeEnd_242 (mp_a hA 12 rfl) hX hs (by omega) (by omega) ?_
                  refine g_s4 (pc := 243) (M' := mt_M_seek) dc_M_attributeEnd_243 mo_M_seek st_M_seek ln_M_48 (Nat.le_of_ble_eq_true rfl) (Nat.le_of_ble_eq_true rfl) (am_G.mono (t_M_seek (f := aV L p + 1) (t := L.length) (tt_txt hA hX hs) (by omega) (Nat.le_refl _)) ?_)
                  intro r h1 hq
                  rw [hq.1, hq.2]
                  clear hq h1 r
                  refine ⟨am_nti _, ?_⟩
                  have h6 := fw_bd (p := nev (gx L (aV L p))) (L := L) (f := aV L p + 1) (t := L.length) (by omega)
                  rw [show fw (nev (gx L (aV L p))) L (aV L p + 1) L.length = aQ L p from rfl] at h6 ⊢
                  refine g_istore (pc := 246) dc_M_attributeEnd_246 (by decide) ?_
                  show am_G X mt_M_attributeEnd _ 248 [some (.ref 84), none, some (.int (nI (s + L.length))), none, some (.int (b1 hb)), none, some (.int (nI (s + (aV L p + 1)))), some (.int (nI (s + (aQ L p)))), some (.int (nI (s + (aV L p))))] [] _ _
                  refine g_iload (pc := 248) dc_M_attributeEnd_248 rfl ?_
                  refine g_iload_n (pc := 250) dc_M_attributeEnd_250 rfl ?_
                  refine q_icmp_ge (pc := 251) (tgt := 261) (s + (aQ L p)) (s + L.length) dc_M_attributeEnd_251 (by omega) (by omega) rfl (fun hc251 => ?_) (fun hc251 => ?_)
                  · refine g_iload_n (pc := 261) dc_M_attributeEnd_261 rfl ?_
                    refine g_istore (pc := 262) dc_M_attributeEnd_262 (by decide) ?_
                    show am_G X mt_M_attributeEnd _ 264 [some (.ref 84), none, some (.int (nI (s + L.length))), none, some (.int (b1 hb)), some (.int (nI (s + L.length))), some (.int (nI (s + (aV L p + 1)))), some (.int (nI (s + (aQ L p)))), some (.int (nI (s + (aV L p))))] [] _ _
                    refine g_goto (pc := 264) (tgt := 316) dc_M_attributeEnd_264 rfl ?_
                    have ha9 : atr L p = (L.length, aV L p + 1, aQ L p) := by rw [hat, if_pos ⟨by omega, Or.inr hc220⟩]; show (_, _, _) = _; rw [show Nat.min (aQ L p + 1) L.length = L.length from by show min (aQ L p + 1) L.length = _; omega]
                    rw [ha9]
                    refine am_wk (am_le_s (am_le_n (am_le_n (am_le_n (am_le_s (am_le_s (am_le_s (am_le_s (am_le_n am_le_0))))))))) ?_
                    exact w_M_attributeEnd hA
                  · refine g_iload (pc := 254) dc_M_attributeEnd_254 rfl ?_
                    refine g_iconst (pc := 256) (v := 1) dc_M_attributeEnd_256 rfl ?_
                    refine g_iadd (pc := 257) (v := (nI (s + (aQ L p + 1)))) dc_M_attributeEnd_257 (q_as s (aQ L p) 1) ?_
                    refine g_goto (pc := 258) (tgt := 262) dc_M_attributeEnd_258 rfl ?_
                    refine g_istore (pc := 262) dc_M_attributeEnd_262 (by decide) ?_
                    show am_G X mt_M_attributeEnd _ 264 [some (.ref 84), none, some (.int (nI (s + L.length))), none, some (.int (b1 hb)), some (.int (nI (s + (aQ L p + 1)))), some (.int (nI (s + (aV L p + 1)))), some (.int (nI (s + (aQ L p)))), some (.int (nI (s + (aV L p))))] [] _ _
                    refine g_goto (pc := 264) (tgt := 316) dc_M_attributeEnd_264 rfl ?_
                    have ha9 : atr L p = (aQ L p + 1, aV L p + 1, aQ L p) := by rw [hat, if_pos ⟨by omega, Or.inr hc220⟩]; show (_, _, _) = _; rw [show Nat.min (aQ L p + 1) L.length = (aQ L p + 1) from by show min (aQ L p + 1) L.length = _; omega]
                    rw [ha9]
                    refine am_wk (am_le_s (am_le_n (am_le_n (am_le_n (am_le_s (am_le_s (am_le_s (am_le_s (am_le_n am_le_0))))))))) ?_
                    exact w_M_attributeEnd hA
          · exact absurd (o4 (by omega)) (by rw [hc184]; decide)
  · refine g_aload_n (pc := 128) dc_M_attributeEnd_128 rfl ?_
    refine g_getfield (pc := 129) dc_M_attributeEnd_129 fl_M_140 (mp_o hA) rfl ?_
    refine g_iload (pc := 132) dc_M_attributeEnd_132 rfl ?_
    refine q_tx (pc := 134) (aG L p) dc_M_attributeEnd_134 (mp_a hA 12 rfl) hX hs (by omega) (by omega) ?_
    refine g_s1 (pc := 135) (M' := mt_M_isBlank) dc_M_attributeEnd_135 mo_M_isBlank st_M_isBlank ln_M_75 (Nat.le_of_ble_eq_true rfl) (Nat.le_of_ble_eq_true rfl) (am_G.mono (c_M_isBlank (v := (gx L (aG L p)))) ?_)
    intro r h1 hq
    rw [hq.1, hq.2]
    clear hq h1 r
    refine ⟨am_nti _, ?_⟩
    refine q_ifb_eq (pc := 138) (tgt := 147) dc_M_attributeEnd_138 rfl (fun hc138 => ?_) (fun hc138 => ?_)
    · refine g_iload (pc := 147) dc_M_attributeEnd_147 rfl ?_
      refine g_iload_n (pc := 149) dc_M_attributeEnd_149 rfl ?_
      refine q_icmp_ge (pc := 150) (tgt := 316) (s + (aG L p)) (s + L.length) dc_M_attributeEnd_150 (by omega) (by omega) rfl (fun hc150 => ?_) (fun hc150 => ?_)
      · have ha9 : atr L p = (e0, e0, e0) := by rw [hat, if_neg (by omega)]
        rw [ha9]
        refine am_wk (am_le_s (am_le_n (am_le_n (am_le_n (am_le_s (am_le_s (am_le_s (am_le_s (am_le_n am_le_0))))))))) ?_
        exact w_M_attributeEnd hA
      · refine g_aload_n (pc := 153) dc_M_attributeEnd_153 rfl ?_
        refine g_getfield (pc := 154) dc_M_attributeEnd_154 fl_M_140 (mp_o hA) rfl ?_
        refine g_iload (pc := 157) dc_M_attributeEnd_157 rfl ?_
        refine q_tx (pc := 159) (aG L p) dc_M_attributeEnd_159 (mp_a hA 12 rfl) hX hs (by omega) (by omega) ?_
        refine g_bipush (pc := 160) (v := 61) dc_M_attributeEnd_160 rfl ?_
        refine g_icmp_ne (pc := 162) (tgt := 316) dc_M_attributeEnd_162 rfl (fun hc162 => ?_) (fun hc162 => ?_)
        · have ha9 : atr L p = (e0, e0, e0) := by rw [hat, if_neg (fun h9 => hc162 h9.2)]
          rw [ha9]
          refine am_wk (am_le_s (am_le_n (am_le_n (am_le_n (am_le_s (am_le_s (am_le_s (am_le_s (am_le_n am_le_0))))))))) ?_
          exact w_M_attributeEnd hA
        · refine g_iinc (pc := 165) (v := (nI (s + (aG L p + 1)))) dc_M_attributeEnd_165 rfl (q_as s (aG L p) 1) (by decide) ?_
          show am_G X mt_M_attributeEnd _ 168 [some (.ref 84), none, some (.int (nI (s + L.length))), none, some (.int (b1 hb)), some (.int (nI (s + e0))), some (.int (nI (s + e0))), some (.int (nI (s + e0))), some (.int (nI (s + (aG L p + 1))))] [] _ _
          have h4 := fw_bd (p := isBl) (L := L) (f := aG L p + 1) (t := L.length) (by omega)
          have o4 := fw_out (p := isBl) (L := L) (f := aG L p + 1) (t := L.length)
          refine am_wk (am_le_s (am_le_n (am_le_s (am_le_n (am_le_s (am_le_n (am_le_n (am_le_n (am_le_s am_le_0))))))))) ?_
          refine v168_M_attributeEnd hA hX hs (L.length - (aG L p + 1)) (aG L p + 1) (by omega) ?_
          rw [show fw isBl L (aG L p + 1) L.length = aV L p from rfl] at h4 o4 ⊢
          rw [if_pos ⟨by omega, hc162⟩] at hat
          refine g_iload (pc := 168) dc_M_attributeEnd_168 rfl ?_
          refine g_iload_n (pc := 170) dc_M_attributeEnd_170 rfl ?_
          refine q_icmp_ge (pc := 171) (tgt := 193) (s + (aV L p)) (s + L.length) dc_M_attributeEnd_171 (by omega) (by omega) rfl (fun hc171 => ?_) (fun hc171 => ?_)
          · refine g_iload (pc := 193) dc_M_attributeEnd_193 rfl ?_
            refine g_iload_n (pc := 195) dc_M_attributeEnd_195 rfl ?_
            refine q_icmp_ge (pc := 196) (tgt := 267) (s + (aV L p)) (s + L.length) dc_M_attributeEnd_196 (by omega) (by omega) rfl (fun hc196 => ?_) (fun hc196 => ?_)
            · refine g_iload (pc := 267) dc_M_attributeEnd_267 rfl ?_
              refine g_istore (pc := 269) dc_M_attributeEnd_269 (by decide) ?_
              show am_G X mt_M_attributeEnd _ 271 [some (.ref 84), none, some (.int (nI (s + L.length))), none, some (.int (b1 hb)), none, some (.int (nI (s + (aV L p)))), none, some (.int (nI (s + (aV L p))))] [] _ _
              refine g_iload (pc := 271) dc_M_attributeEnd_271 rfl ?_
              refine g_istore (pc := 273) dc_M_attributeEnd_273 (by decide) ?_
              show am_G X mt_M_attributeEnd _ 275 [some (.ref 84), none, some (.int (nI (s + L.length))), none, some (.int (b1 hb)), none, some (.int (nI (s + (aV L p)))), some (.int (nI (s + (aV L p)))), some (.int (nI (s + (aV L p))))] [] _ _
              refine am_wk (am_le_s (am_le_n (am_le_s (am_le_n (am_le_s (am_le_n (am_le_s (am_le_s (am_le_n am_le_0))))))))) ?_
              refine v275_M_attributeEnd hA hX hs (L.length - aV L p) (aV L p) (by omega) ?_
              have h6 := fw_bd (p := bvB) (L := L) (f := aV L p) (t := L.length) (by omega)
              have o6 := fw_out (p := bvB) (L := L) (f := aV L p) (t := L.length)
              rw [show fw bvB L (aV L p) L.length = aB L p from rfl] at h6 o6 ⊢
              refine g_iload (pc := 275) dc_M_attributeEnd_275 rfl ?_
              refine g_iload_n (pc := 277) dc_M_attributeEnd_277 rfl ?_
              refine q_icmp_ge (pc := 278) (tgt := 312) (s + (aB L p)) (s + L.length) dc_M_attributeEnd_278 (by omega) (by omega) rfl (fun hc278 => ?_) (fun hc278 => ?_)
              · refine g_iload (pc := 312) dc_M_attributeEnd_312 rfl ?_
                refine g_istore (pc := 314) dc_M_attributeEnd_314 (by decide) ?_
                show am_G X mt_M_attributeEnd _ 316 [some (.ref 84), none, some (.int (nI (s + L.length))), none, some (.int (b1 hb)), some (.int (nI (s + (aB L p)))), some (.int (nI (s + (aV L p)))), some (.int (nI (s + (aB L p)))), none] [] _ _
                have ha9 : atr L p = (aB L p, aV L p, aB L p) := by rw [hat, if_neg (by omega)]
                rw [ha9]
                refine am_wk (am_le_s (am_le_n (am_le_n (am_le_n (am_le_s (am_le_s (am_le_s (am_le_s (am_le_n am_le_0))))))))) ?_
                exact w_M_attributeEnd hA
              · refine g_aload_n (pc := 281) dc_M_attributeEnd_281 rfl ?_
                refine g_getfield (pc := 282) dc_M_attributeEnd_282 fl_M_140 (mp_o hA) rfl ?_
                refine g_iload (pc := 285) dc_M_attributeEnd_285 rfl ?_
                refine q_tx (pc := 287) (aB L p) dc_M_attributeEnd_287 (mp_a hA 12 rfl) hX hs (by omega) (by omega) ?_
                refine g_s1 (pc := 288) (M' := mt_M_isBlank) dc_M_attributeEnd_288 mo_M_isBlank st_M_isBlank ln_M_75 (Nat.le_of_ble_eq_true rfl) (Nat.le_of_ble_eq_true rfl) (am_G.mono (c_M_isBlank (v := (gx L (aB L p)))) ?_)
                intro r h1 hq
                rw [hq.1, hq.2]
                clear hq h1 r
                refine ⟨am_nti _, ?_⟩
                refine q_ifb_ne (pc := 291) (tgt := 312) dc_M_attributeEnd_291 rfl (fun hc291 => ?_) (fun hc291 => ?_)
                · refine g_iload (pc := 312) dc_M_attributeEnd_312 rfl ?_
                  refine g_istore (pc := 314) dc_M_attributeEnd_314 (by decide) ?_
                  show am_G X mt_M_attributeEnd _ 316 [some (.ref 84), none, some (.int (nI (s + L.length))), none, some (.int (b1 hb)), some (.int (nI (s + (aB L p)))), some (.int (nI (s + (aV L p)))), some (.int (nI (s + (aB L p)))), none] [] _ _
                  have ha9 : atr L p = (aB L p, aV L p, aB L p) := by rw [hat, if_neg (by omega)]
                  rw [ha9]
                  refine am_wk (am_le_s (am_le_n (am_le_n (am_le_n (am_le_s (am_le_s (am_le_s (am_le_s (am_le_n am_le_0))))))))) ?_
                  exact w_M_attributeEnd hA
                · refine g_aload_n (pc := 294) dc_M_attributeEnd_294 rfl ?_
                  refine g_getfield (pc := 295) dc_M_attributeEnd_295 fl_M_140 (mp_o hA) rfl ?_
                  refine g_iload (pc := 298) dc_M_attributeEnd_298 rfl ?_
                  refine q_tx (pc := 300) (aB L p) dc_M_attributeEnd_300 (mp_a hA 12 rfl) hX hs (by omega) (by omega) ?_
                  refine g_bipush (pc := 301) (v := 62) dc_M_attributeEnd_301 rfl ?_
                  refine g_icmp_eq (pc := 303) (tgt := 312) dc_M_attributeEnd_303 rfl (fun hc303 => ?_) (fun hc303 => ?_)
                  · refine g_iload (pc := 312) dc_M_attributeEnd_312 rfl ?_
                    refine g_istore (pc := 314) dc_M_attributeEnd_314 (by decide) ?_
                    show am_G X mt_M_attributeEnd _ 316 [some (.ref 84), none, some (.int (nI (s + L.length))), none, some (.int (b1 hb)), some (.int (nI (s + (aB L p)))), some (.int (nI (s + (aV L p)))), some (.int (nI (s + (aB L p)))), none] [] _ _
                    have ha9 : atr L p = (aB L p, aV L p, aB L p) := by rw [hat, if_neg (by omega)]
                    rw [ha9]
                    refine am_wk (am_le_s (am_le_n (am_le_n (am_le_n (am_le_s (am_le_s (am_le_s (am_le_s (am_le_n am_le_0))))))))) ?_
                    exact w_M_attributeEnd hA
                  · exact absurd (o6 (by omega)) (by simp [bvB, hc291, hc303])
            · refine g_aload_n (pc := 199) dc_M_attributeEnd_199 rfl ?_
              refine g_getfield (pc := 200) dc_M_attributeEnd_200 fl_M_140 (mp_o hA) rfl ?_
              refine g_iload (pc := 203) dc_M_attributeEnd_203 rfl ?_
              refine q_tx (pc := 205) (aV L p) dc_M_attributeEnd_205 (mp_a hA 12 rfl) hX hs (by omega) (by omega) ?_
              refine g_bipush (pc := 206) (v := 34) dc_M_attributeEnd_206 rfl ?_
              refine g_icmp_eq (pc := 208) (tgt := 223) dc_M_attributeEnd_208 rfl (fun hc208 => ?_) (fun hc208 => ?_)
              · refine g_iload (pc := 223) dc_M_attributeEnd_223 rfl ?_
                refine g_iconst (pc := 225) (v := 1) dc_M_attributeEnd_225 rfl ?_
                refine g_iadd (pc := 226) (v := (nI (s + (aV L p + 1)))) dc_M_attributeEnd_226 (q_as s (aV L p) 1) ?_
                refine g_istore (pc := 227) dc_M_attributeEnd_227 (by decide) ?_
                show am_G X mt_M_attributeEnd _ 229 [some (.ref 84), none, some (.int (nI (s + L.length))), none, some (.int (b1 hb)), none, some (.int (nI (s + (aV L p + 1)))), none, some (.int (nI (s + (aV L p))))] [] _ _
                refine g_aload_n (pc := 229) dc_M_attributeEnd_229 rfl ?_
                refine g_getfield (pc := 230) dc_M_attributeEnd_230 fl_M_140 (mp_o hA) rfl ?_
                refine g_iload (pc := 233) dc_M_attributeEnd_233 rfl ?_
                refine g_iload_n (pc := 235) dc_M_attributeEnd_235 rfl ?_
                refine g_aload_n (pc := 236) dc_M_attributeEnd_236 rfl ?_
                refine g_getfield (pc := 237) dc_M_attributeEnd_237 fl_M_140 (mp_o hA) rfl ?_
                refine g_iload (pc := 240) dc_M_attributeEnd_240 rfl ?_
                refine q_tx (pc := 242) (aV L p) dc_M_attributeEnd_242 (mp_a hA 12 rfl) hX hs (by omega) (by omega) ?_
                refine g_s4 (pc := 243) (M' := mt_M_seek) dc_M_attributeEnd_243 mo_M_seek st_M_seek ln_M_48 (Nat.le_of_ble_eq_true rfl) (Nat.le_of_ble_eq_true rfl) (am_G.mono (t_M_seek (f := aV L p + 1) (t := L.length) (tt_txt hA hX hs) (by omega) (Nat.le_refl _)) ?_)
                intro r h1 hq
                rw [hq.1, hq.2]
                clear hq h1 r
                refine ⟨am_nti _, ?_⟩
                have h6 := fw_bd (p := nev (gx L (aV L p))) (L := L) (f := aV L p + 1) (t := L.length) (by omega)
                rw [show fw (nev (gx L (aV L p))) L (aV L p + 1) L.length = aQ L p from rfl] at h6 ⊢
                refine g_istore (pc := 246) dc_M_attributeEnd_246 (by decide) ?_
                show am_G X mt_M_attributeEnd _ 248 [some (.ref 84), none, some (.int (nI (s + L.length))), none, some (.int (b1 hb)), none, some (.int (nI (s + (aV L p + 1)))), some (.int (nI (s + (aQ L p)))), some (.int (nI (s + (aV L p))))] [] _ _
                refine g_iload (pc := 248) dc_M_attributeEnd_248 rfl ?_
                refine g_iload_n (pc := 250) dc_M_attributeEnd_250 rfl ?_
                refine q_icmp_ge (pc := 251) (tgt := 261) (s + (aQ L p)) (s + L.length) dc_M_attributeEnd_251 (by omega) (by omega) rfl (fun hc251 => ?_) (fun hc251 => ?_)
                · refine g_iload_n (pc := 261) dc_M_attributeEnd_261 rfl ?_
                  refine g_istore (pc := 262) dc_M_attributeEnd_262 (by decide) ?_
                  show am_G X mt_M_attributeEnd _ 264 [some (.ref 84), none, some (.int (nI (s + L.length))), none, some (.int (b1 hb)), some (.int (nI (s + L.length))), some (.int (nI (s + (aV L p + 1)))), some (.int (nI (s + (aQ L p)))), some (.int (nI (s + (aV L p))))] [] _ _
                  refine g_goto (pc := 264) (tgt := 316) dc_M_attributeEnd_264 rfl ?_
                  have ha9 : atr L p = (L.length, aV L p + 1, aQ L p) := by rw [hat, if_pos ⟨by omega, Or.inl hc208⟩]; show (_, _, _) = _; rw [show Nat.min (aQ L p + 1) L.length = L.length from by show min (aQ L p + 1) L.length = _; omega]
                  rw [ha9]
                  refine am_wk (am_le_s (am_le_n (am_le_n (am_le_n (am_le_s (am_le_s (am_le_s (am_le_s (am_le_n am_le_0))))))))) ?_
                  exact w_M_attributeEnd hA
                · refine g_iload (pc := 254) dc_M_attributeEnd_254 rfl ?_
                  refine g_iconst (pc := 256) (v := 1) dc_M_attributeEnd_256 rfl ?_
                  refine g_iadd (pc := 257) (v := (nI (s + (aQ L p + 1)))) dc_M_attributeEnd_257 (q_as s (aQ L p) 1) ?_
                  refine g_goto (pc := 258) (tgt := 262) dc_M_attributeEnd_258 rfl ?_
                  refine g_istore (pc := 262) dc_M_attributeEnd_262 (by decide) ?_
                  show am_G X mt_M_attributeEnd _ 264 [some (.ref 84), none, some (.int (nI (s + L.length))), none, some (.int (b1 hb)), some (.int (nI (s + (aQ L p + 1)))), some (.int (nI (s + (aV L p + 1)))), some (.int (nI (s + (aQ L p)))), some (.int (nI (s + (aV L p))))] [] _ _
                  refine g_goto (pc := 264) (tgt := 316) dc_M_attributeEnd_264 rfl ?_
                  have ha9 : atr L p = (aQ L p + 1, aV L p + 1, aQ L p) := by rw [hat, if_pos ⟨by omega, Or.inl hc208⟩]; show (_, _, _) = _; rw [show Nat.min (aQ L p + 1) L.length = (aQ L p + 1) from by show min (aQ L p + 1) L.length = _; omega]
                  rw [ha9]
                  refine am_wk (am_le_s (am_le_n (am_le_n (am_le_n (am_le_s (am_le_s (am_le_s (am_le_s (am_le_n am_le_0))))))))) ?_
                  exact w_M_attributeEnd hA
              · refine g_aload_n (pc := 211) dc_M_attributeEnd_211 rfl ?_
                refine g_getfield (pc := 212) dc_M_attributeEnd_212 fl_M_140 (mp_o hA) rfl ?_
                refine g_iload (pc := 215) dc_M_attributeEnd_215 rfl ?_
                refine q_tx (pc := 217) (aV L p) dc_M_attributeEnd_217 (mp_a hA 12 rfl) hX hs (by omega) (by omega) ?_
                refine g_bipush (pc := 218) (v := 39) dc_M_attributeEnd_218 rfl ?_
                refine g_icmp_ne (pc := 220) (tgt := 267) dc_M_attributeEnd_220 rfl (fun hc220 => ?_) (fun hc220 => ?_)
                · refine g_iload (pc := 267) dc_M_attributeEnd_267 rfl ?_
                  refine g_istore (pc := 269) dc_M_attributeEnd_269 (by decide) ?_
                  show am_G X mt_M_attributeEnd _ 271 [some (.ref 84), none, some (.int (nI (s + L.length))), none, some (.int (b1 hb)), none, some (.int (nI (s + (aV L p)))), none, some (.int (nI (s + (aV L p))))] [] _ _
                  refine g_iload (pc := 271) dc_M_attributeEnd_271 rfl ?_
                  refine g_istore (pc := 273) dc_M_attributeEnd_273 (by decide) ?_
                  show am_G X mt_M_attributeEnd _ 275 [some (.ref 84), none, some (.int (nI (s + L.length))), none, some (.int (b1 hb)), none, some (.int (nI (s + (aV L p)))), some (.int (nI (s + (aV L p)))), some (.int (nI (s + (aV L p))))] [] _ _
                  refine am_wk (am_le_s (am_le_n (am_le_s (am_le_n (am_le_s (am_le_n (am_le_s (am_le_s (am_le_n am_le_0))))))))) ?_
                  refine v275_M_attributeEnd hA hX hs (L.length - aV L p) (aV L p) (by omega) ?_
                  have h6 := fw_bd (p := bvB) (L := L) (f := aV L p) (t := L.length) (by omega)
                  have o6 := fw_out (p := bvB) (L := L) (f := aV L p) (t := L.length)
                  rw [show fw bvB L (aV L p) L.length = aB L p from rfl] at h6 o6 ⊢
                  refine g_iload (pc := 275) dc_M_attributeEnd_275 rfl ?_
                  refine g_iload_n (pc := 277) dc_M_attributeEnd_277 rfl ?_
                  refine q_icmp_ge (pc := 278) (tgt := 312) (s + (aB L p)) (s + L.length) dc_M_attributeEnd_278 (by omega) (by omega) rfl (fun hc278 => ?_) (fun hc278 => ?_)
                  · refine g_iload (pc := 312) dc_M_attributeEnd_312 rfl ?_
                    refine g_istore (pc := 314) dc_M_attributeEnd_314 (by decide) ?_
                    show am_G X mt_M_attributeEnd _ 316 [some (.ref 84), none, some (.int (nI (s + L.length))), none, some (.int (b1 hb)), some (.int (nI (s + (aB L p)))), some (.int (nI (s + (aV L p)))), some (.int (nI (s + (aB L p)))), none] [] _ _
                    have ha9 : atr L p = (aB L p, aV L p, aB L p) := by rw [hat, if_neg (fun h9 => h9.2.elim hc208 hc220)]
                    rw [ha9]
                    refine am_wk (am_le_s (am_le_n (am_le_n (am_le_n (am_le_s (am_le_s (am_le_s (am_le_s (am_le_n am_le_0))))))))) ?_
                    exact w_M_attributeEnd hA
                  · refine g_aload_n (pc := 281) dc_M_attributeEnd_281 rfl ?_
                    refine g_getfield (pc := 282) dc_M_attributeEnd_282 fl_M_140 (mp_o hA) rfl ?_
                    refine g_iload (pc := 285) dc_M_attributeEnd_285 rfl ?_
                    refine q_tx (pc := 287) (aB L p) dc_M_attributeEnd_287 (mp_a hA 12 rfl) hX hs (by omega) (by omega) ?_
                    refine g_s1 (pc := 288) (M' := mt_M_isBlank) dc_M_attributeEnd_288 mo_M_isBlank st_M_isBlank ln_M_75 (Nat.le_of_ble_eq_true rfl) (Nat.le_of_ble_eq_true rfl) (am_G.mono (c_M_isBlank (v := (gx L (aB L p)))) ?_)
                    intro r h1 hq
                    rw [hq.1, hq.2]
                    clear hq h1 r
                    refine ⟨am_nti _, ?_⟩
                    refine q_ifb_ne (pc := 291) (tgt := 312) dc_M_attributeEnd_291 rfl (fun hc291 => ?_) (fun hc291 => ?_)
                    · refine g_iload (pc := 312) dc_M_attributeEnd_312 rfl ?_
                      refine g_istore (pc := 314) dc_M_attributeEnd_314 (by decide) ?_
                      show am_G X mt_M_attributeEnd _ 316 [some (.ref 84), none, some (.int (nI (s + L.length))), none, some (.int (b1 hb)), some (.int (nI (s + (aB L p)))), some (.int (nI (s + (aV L p)))), some (.int (nI (s + (aB L p)))), none] [] _ _
                      have ha9 : atr L p = (aB L p, aV L p, aB L p) := by rw [hat, if_neg (fun h9 => h9.2.elim hc208 hc220)]
                      rw [ha9]
                      refine am_wk (am_le_s (am_le_n (am_le_n (am_le_n (am_le_s (am_le_s (am_le_s (am_le_s (am_le_n am_le_0))))))))) ?_
                      exact w_M_attributeEnd hA
                    · refine g_aload_n (pc := 294) dc_M_attributeEnd_294 rfl ?_
                      refine g_getfield (pc := 295) dc_M_attributeEnd_295 fl_M_140 (mp_o hA) rfl ?_
                      refine g_iload (pc := 298) dc_M_attributeEnd_298 rfl ?_
                      refine q_tx (pc := 300) (aB L p) dc_M_attributeEnd_300 (mp_a hA 12 rfl) hX hs (by omega) (by omega) ?_
                      refine g_bipush (pc := 301) (v := 62) dc_M_attributeEnd_301 rfl ?_
                      refine g_icmp_eq (pc := 303) (tgt := 312) dc_M_attributeEnd_303 rfl (fun hc303 => ?_) (fun hc303 => ?_)
                      · refine g_iload (pc := 312) dc_M_attributeEnd_312 rfl ?_
                        refine g_istore (pc := 314) dc_M_attributeEnd_314 (by decide) ?_
                        show am_G X mt_M_attributeEnd _ 316 [some (.ref 84), none, some (.int (nI (s + L.length))), none, some (.int (b1 hb)), some (.int (nI (s + (aB L p)))), some (.int (nI (s + (aV L p)))), some (.int (nI (s + (aB L p)))), none] [] _ _
                        have ha9 : atr L p = (aB L p, aV L p, aB L p) := by rw [hat, if_neg (fun h9 => h9.2.elim hc208 hc220)]
                        rw [ha9]
                        refine am_wk (am_le_s (am_le_n (am_le_n (am_le_n (am_le_s (am_le_s (am_le_s (am_le_s (am_le_n am_le_0))))))))) ?_
                        exact w_M_attributeEnd hA
                      · exact absurd (o6 (by omega)) (by simp [bvB, hc291, hc303])
                · refine g_iload (pc := 223) dc_M_attributeEnd_223 rfl ?_
                  refine g_iconst (pc := 225) (v := 1) dc_M_attributeEnd_225 rfl ?_
                  refine g_iadd (pc := 226) (v := (nI (s + (aV L p + 1)))) dc_M_attributeEnd_226 (q_as s (aV L p) 1) ?_
                  refine g_istore (pc := 227) dc_M_attributeEnd_227 (by decide) ?_
                  show am_G X mt_M_attributeEnd _ 229 [some (.ref 84), none, some (.int (nI (s + L.length))), none, some (.int (b1 hb)), none, some (.int (nI (s + (aV L p + 1)))), none, some (.int (nI (s + (aV L p))))] [] _ _
                  refine g_aload_n (pc := 229) dc_M_attributeEnd_229 rfl ?_
                  refine g_getfield (pc := 230) dc_M_attributeEnd_230 fl_M_140 (mp_o hA) rfl ?_
                  refine g_iload (pc := 233) dc_M_attributeEnd_233 rfl ?_
                  refine g_iload_n (pc := 235) dc_M_attributeEnd_235 rfl ?_
                  refine g_aload_n (pc := 236) dc_M_attributeEnd_236 rfl ?_
                  refine g_getfield (pc := 237) dc_M_attributeEnd_237 fl_M_140 (mp_o hA) rfl ?_
                  refine g_iload (pc := 240) dc_M_attributeEnd_240 rfl ?_
                  refine q_tx (pc := 242) (aV L p) dc_M_attributeEnd_242 (mp_a hA 12 rfl) hX hs (by omega) (by omega) ?_
                  refine g_s4 (pc := 243) (M' := mt_M_seek) dc_M_attributeEnd_243 mo_M_seek st_M_seek ln_M_48 (Nat.le_of_ble_eq_true rfl) (Nat.le_of_ble_eq_true rfl) (am_G.mono (t_M_seek (f := aV L p + 1) (t := L.length) (tt_txt hA hX hs) (by omega) (Nat.le_refl _)) ?_)
                  intro r h1 hq
                  rw [hq.1, hq.2]
                  clear hq h1 r
                  refine ⟨am_nti _, ?_⟩
                  have h6 := fw_bd (p := nev (gx L (aV L p))) (L := L) (f := aV L p + 1) (t := L.length) (by omega)
                  rw [show fw (nev (gx L (aV L p))) L (aV L p + 1) L.length = aQ L p from rfl] at h6 ⊢
                  refine g_istore (pc := 246) dc_M_attributeEnd_246 (by decide) ?_
                  show am_G X mt_M_attributeEnd _ 248 [some (.ref 84), none, some (.int (nI (s + L.length))), none, some (.int (b1 hb)), none, some (.int (nI (s + (aV L p + 1)))), some (.int (nI (s + (aQ L p)))), some (.int (nI (s + (aV L p))))] [] _ _
                  refine g_iload (pc := 248) dc_M_attributeEnd_248 rfl ?_
                  refine g_iload_n (pc := 250) dc_M_attributeEnd_250 rfl ?_
                  refine q_icmp_ge (pc := 251) (tgt := 261) (s + (aQ L p)) (s + L.length) dc_M_attributeEnd_251 (by omega) (by omega) rfl (fun hc251 => ?_) (fun hc251 => ?_)
                  · refine g_iload_n (pc := 261) dc_M_attributeEnd_261 rfl ?_
                    refine g_istore (pc := 262) dc_M_attributeEnd_262 (by decide) ?_
                    show am_G X mt_M_attributeEnd _ 264 [some (.ref 84), none, some (.int (nI (s + L.length))), none, some (.int (b1 hb)), some (.int (nI (s + L.length))), some (.int (nI (s + (aV L p + 1)))), some (.int (nI (s + (aQ L p)))), some (.int (nI (s + (aV L p))))] [] _ _
                    refine g_goto (pc := 264) (tgt := 316) dc_M_attributeEnd_264 rfl ?_
                    have ha9 : atr L p = (L.length, aV L p + 1, aQ L p) := by rw [hat, if_pos ⟨by omega, Or.inr hc220⟩]; show (_, _, _) = _; rw [show Nat.min (aQ L p + 1) L.length = L.length from by show min (aQ L p + 1) L.length = _; omega]
                    rw [ha9]
                    refine am_wk (am_le_s (am_le_n (am_le_n (am_le_n (am_le_s (am_le_s (am_le_s (am_le_s (am_le_n am_le_0))))))))) ?_
                    exact w_M_attributeEnd hA
                  · refine g_iload (pc := 254) dc_M_attributeEnd_254 rfl ?_
                    refine g_iconst (pc := 256) (v := 1) dc_M_attributeEnd_256 rfl ?_
                    refine g_iadd (pc := 257) (v := (nI (s + (aQ L p + 1)))) dc_M_attributeEnd_257 (q_as s (aQ L p) 1) ?_
                    refine g_goto (pc := 258) (tgt := 262) dc_M_attributeEnd_258 rfl ?_
                    refine g_istore (pc := 262) dc_M_attributeEnd_262 (by decide) ?_
                    show am_G X mt_M_attributeEnd _ 264 [some (.ref 84), none, some (.int (nI (s + L.length))), none, some (.int (b1 hb)), some (.int (nI (s + (aQ L p + 1)))), some (.int (nI (s + (aV L p + 1)))), some (.int (nI (s + (aQ L p)))), some (.int (nI (s + (aV L p))))] [] _ _
                    refine g_goto (pc := 264) (tgt := 316) dc_M_attributeEnd_264 rfl ?_
                    have ha9 : atr L p = (aQ L p + 1, aV L p + 1, aQ L p) := by rw [hat, if_pos ⟨by omega, Or.inr hc220⟩]; show (_, _, _) = _; rw [show Nat.min (aQ L p + 1) L.length = (aQ L p + 1) from by show min (aQ L p + 1) L.length = _; omega]
                    rw [ha9]
                    refine am_wk (am_le_s (am_le_n (am_le_n (am_le_n (am_le_s (am_le_s (am_le_s (am_le_s (am_le_n am_le_0))))))))) ?_
                    exact w_M_attributeEnd hA
          · refine g_aload_n (pc := 174) dc_M_attributeEnd_174 rfl ?_
            refine g_getfield (pc := 175) dc_M_attributeEnd_175 fl_M_140 (mp_o hA) rfl ?_
            refine g_iload (pc := 178) dc_M_attributeEnd_178 rfl ?_
            refine q_tx (pc := 180) (aV L p) dc_M_attributeEnd_180 (mp_a hA 12 rfl) hX hs (by omega) (by omega) ?_
            refine g_s1 (pc := 181) (M' := mt_M_isBlank) dc_M_attributeEnd_181 mo_M_isBlank st_M_isBlank ln_M_75 (Nat.le_of_ble_eq_true rfl) (Nat.le_of_ble_eq_true rfl) (am_G.mono (c_M_isBlank (v := (gx L (aV L p)))) ?_)
            intro r h1 hq
            rw [hq.1, hq.2]
            clear hq h1 r
            refine ⟨am_nti _, ?_⟩
            refine q_ifb_eq (pc := 184) (tgt := 193) dc_M_attributeEnd_184 rfl (fun hc184 => ?_) (fun hc184 => ?_)
            · refine g_iload (pc := 193) dc_M_attributeEnd_193 rfl ?_
              refine g_iload_n (pc := 195) dc_M_attributeEnd_195 rfl ?_
              refine q_icmp_ge (pc := 196) (tgt := 267) (s + (aV L p)) (s + L.length) dc_M_attributeEnd_196 (by omega) (by omega) rfl (fun hc196 => ?_) (fun hc196 => ?_)
              · refine g_iload (pc := 267) dc_M_attributeEnd_267 rfl ?_
                refine g_istore (pc := 269) dc_M_attributeEnd_269 (by decide) ?_
                show am_G X mt_M_attributeEnd _ 271 [some (.ref 84), none, some (.int (nI (s + L.length))), none, some (.int (b1 hb)), none, some (.int (nI (s + (aV L p)))), none, some (.int (nI (s + (aV L p))))] [] _ _
                refine g_iload (pc := 271) dc_M_attributeEnd_271 rfl ?_
                refine g_istore (pc := 273) dc_M_attributeEnd_273 (by decide) ?_
                show am_G X mt_M_attributeEnd _ 275 [some (.ref 84), none, some (.int (nI (s + L.length))), none, some (.int (b1 hb)), none, some (.int (nI (s + (aV L p)))), some (.int (nI (s + (aV L p)))), some (.int (nI (s + (aV L p))))] [] _ _
                refine am_wk (am_le_s (am_le_n (am_le_s (am_le_n (am_le_s (am_le_n (am_le_s (am_le_s (am_le_n am_le_0))))))))) ?_
                refine v275_M_attributeEnd hA hX hs (L.length - aV L p) (aV L p) (by omega) ?_
                have h6 := fw_bd (p := bvB) (L := L) (f := aV L p) (t := L.length) (by omega)
                have o6 := fw_out (p := bvB) (L := L) (f := aV L p) (t := L.length)
                rw [show fw bvB L (aV L p) L.length = aB L p from rfl] at h6 o6 ⊢
                refine g_iload (pc := 275) dc_M_attributeEnd_275 rfl ?_
                refine g_iload_n (pc := 277) dc_M_attributeEnd_277 rfl ?_
                refine q_icmp_ge (pc := 278) (tgt := 312) (s + (aB L p)) (s + L.length) dc_M_attributeEnd_278 (by omega) (by omega) rfl (fun hc278 => ?_) (fun hc278 => ?_)
                · refine g_iload (pc := 312) dc_M_attributeEnd_312 rfl ?_
                  refine g_istore (pc := 314) dc_M_attributeEnd_314 (by decide) ?_
                  show am_G X mt_M_attributeEnd _ 316 [some (.ref 84), none, some (.int (nI (s + L.length))), none, some (.int (b1 hb)), some (.int (nI (s + (aB L p)))), some (.int (nI (s + (aV L p)))), some (.int (nI (s + (aB L p)))), none] [] _ _
                  have ha9 : atr L p = (aB L p, aV L p, aB L p) := by rw [hat, if_neg (by omega)]
                  rw [ha9]
                  refine am_wk (am_le_s (am_le_n (am_le_n (am_le_n (am_le_s (am_le_s (am_le_s (am_le_s (am_le_n am_le_0))))))))) ?_
                  exact w_M_attributeEnd hA
                · refine g_aload_n (pc := 281) dc_M_attributeEnd_281 rfl ?_
                  refine g_getfield (pc := 282) dc_M_attributeEnd_282 fl_M_140 (mp_o hA) rfl ?_
                  refine g_iload (pc := 285) dc_M_attributeEnd_285 rfl ?_
                  refine q_tx (pc := 287) (aB L p) dc_M_attributeEnd_287 (mp_a hA 12 rfl) hX hs (by omega) (by omega) ?_
                  refine g_s1 (pc := 288) (M' := mt_M_isBlank) dc_M_attributeEnd_288 mo_M_isBlank st_M_isBlank ln_M_75 (Nat.le_of_ble_eq_true rfl) (Nat.le_of_ble_eq_true rfl) (am_G.mono (c_M_isBlank (v := (gx L (aB L p)))) ?_)
                  intro r h1 hq
                  rw [hq.1, hq.2]
                  clear hq h1 r
                  refine ⟨am_nti _, ?_⟩
                  refine q_ifb_ne (pc := 291) (tgt := 312) dc_M_attributeEnd_291 rfl (fun hc291 => ?_) (fun hc291 => ?_)
                  · refine g_iload (pc := 312) dc_M_attributeEnd_312 rfl ?_
                    refine g_istore (pc := 314) dc_M_attributeEnd_314 (by decide) ?_
                    show am_G X mt_M_attributeEnd _ 316 [some (.ref 84), none, some (.int (nI (s + L.length))), none, some (.int (b1 hb)), some (.int (nI (s + (aB L p)))), some (.int (nI (s + (aV L p)))), some (.int (nI (s + (aB L p)))), none] [] _ _
                    have ha9 : atr L p = (aB L p, aV L p, aB L p) := by rw [hat, if_neg (by omega)]
                    rw [ha9]
                    refine am_wk (am_le_s (am_le_n (am_le_n (am_le_n (am_le_s (am_le_s (am_le_s (am_le_s (am_le_n am_le_0))))))))) ?_
                    exact w_M_attributeEnd hA
                  · refine g_aload_n (pc := 294) dc_M_attributeEnd_294 rfl ?_
                    refine g_getfield (pc := 295) dc_M_attributeEnd_295 fl_M_140 (mp_o hA) rfl ?_
                    refine g_iload (pc := 298) dc_M_attributeEnd_298 rfl ?_
                    refine q_tx (pc := 300) (aB L p) dc_M_attributeEnd_300 (mp_a hA 12 rfl) hX hs (by omega) (by omega) ?_
                    refine g_bipush (pc := 301) (v := 62) dc_M_attributeEnd_301 rfl ?_
                    refine g_icmp_eq (pc := 303) (tgt := 312) dc_M_attributeEnd_303 rfl (fun hc303 => ?_) (fun hc303 => ?_)
                    · refine g_iload (pc := 312) dc_M_attributeEnd_312 rfl ?_
                      refine g_istore (pc := 314) dc_M_attributeEnd_314 (by decide) ?_
                      show am_G X mt_M_attributeEnd _ 316 [some (.ref 84), none, some (.int (nI (s + L.length))), none, some (.int (b1 hb)), some (.int (nI (s + (aB L p)))), some (.int (nI (s + (aV L p)))), some (.int (nI (s + (aB L p)))), none] [] _ _
                      have ha9 : atr L p = (aB L p, aV L p, aB L p) := by rw [hat, if_neg (by omega)]
                      rw [ha9]
                      refine am_wk (am_le_s (am_le_n (am_le_n (am_le_n (am_le_s (am_le_s (am_le_s (am_le_s (am_le_n am_le_0))))))))) ?_
                      exact w_M_attributeEnd hA
                    · exact absurd (o6 (by omega)) (by simp [bvB, hc291, hc303])
              · refine g_aload_n (pc := 199) dc_M_attributeEnd_199 rfl ?_
                refine g_getfield (pc := 200) dc_M_attributeEnd_200 fl_M_140 (mp_o hA) rfl ?_
                refine g_iload (pc := 203) dc_M_attributeEnd_203 rfl ?_
                refine q_tx (pc := 205) (aV L p) dc_M_attributeEnd_205 (mp_a hA 12 rfl) hX hs (by omega) (by omega) ?_
                refine g_bipush (pc := 206) (v := 34) dc_M_attributeEnd_206 rfl ?_
                refine g_icmp_eq (pc := 208) (tgt := 223) dc_M_attributeEnd_208 rfl (fun hc208 => ?_) (fun hc208 => ?_)
                · refine g_iload (pc := 223) dc_M_attributeEnd_223 rfl ?_
                  refine g_iconst (pc := 225) (v := 1) dc_M_attributeEnd_225 rfl ?_
                  refine g_iadd (pc := 226) (v := (nI (s + (aV L p + 1)))) dc_M_attributeEnd_226 (q_as s (aV L p) 1) ?_
                  refine g_istore (pc := 227) dc_M_attributeEnd_227 (by decide) ?_
                  show am_G X mt_M_attributeEnd _ 229 [some (.ref 84), none, some (.int (nI (s + L.length))), none, some (.int (b1 hb)), none, some (.int (nI (s + (aV L p + 1)))), none, some (.int (nI (s + (aV L p))))] [] _ _
                  refine g_aload_n (pc := 229) dc_M_attributeEnd_229 rfl ?_
                  refine g_getfield (pc := 230) dc_M_attributeEnd_230 fl_M_140 (mp_o hA) rfl ?_
                  refine g_iload (pc := 233) dc_M_attributeEnd_233 rfl ?_
                  refine g_iload_n (pc := 235) dc_M_attributeEnd_235 rfl ?_
                  refine g_aload_n (pc := 236) dc_M_attributeEnd_236 rfl ?_
                  refine g_getfield (pc := 237) dc_M_attributeEnd_237 fl_M_140 (mp_o hA) rfl ?_
                  refine g_iload (pc := 240) dc_M_attributeEnd_240 rfl ?_
                  refine q_tx (pc := 242) (aV L p) dc_M_attributeEnd_242 (mp_a hA 12 rfl) hX hs (by omega) (by omega) ?_
                  refine g_s4 (pc := 243) (M' := mt_M_seek) dc_M_attributeEnd_243 mo_M_seek st_M_seek ln_M_48 (Nat.le_of_ble_eq_true rfl) (Nat.le_of_ble_eq_true rfl) (am_G.mono (t_M_seek (f := aV L p + 1) (t := L.length) (tt_txt hA hX hs) (by omega) (Nat.le_refl _)) ?_)
                  intro r h1 hq
                  rw [hq.1, hq.2]
                  clear hq h1 r
                  refine ⟨am_nti _, ?_⟩
                  have h6 := fw_bd (p := nev (gx L (aV L p))) (L := L) (f := aV L p + 1) (t := L.length) (by omega)
                  rw [show fw (nev (gx L (aV L p))) L (aV L p + 1) L.length = aQ L p from rfl] at h6 ⊢
                  refine g_istore (pc := 246) dc_M_attributeEnd_246 (by decide) ?_
                  show am_G X mt_M_attributeEnd _ 248 [some (.ref 84), none, some (.int (nI (s + L.length))), none, some (.int (b1 hb)), none, some (.int (nI (s + (aV L p + 1)))), some (.int (nI (s + (aQ L p)))), some (.int (nI (s + (aV L p))))] [] _ _
                  refine g_iload (pc := 248) dc_M_attributeEnd_248 rfl ?_
                  refine g_iload_n (pc := 250) dc_M_attributeEnd_250 rfl ?_
                  refine q_icmp_ge (pc := 251) (tgt := 261) (s + (aQ L p)) (s + L.length) dc_M_attributeEnd_251 (by omega) (by omega) rfl (fun hc251 => ?_) (fun hc251 => ?_)
                  · refine g_iload_n (pc := 261) dc_M_attributeEnd_261 rfl ?_
                    refine g_istore (pc := 262) dc_M_attributeEnd_262 (by decide) ?_
                    show am_G X mt_M_attributeEnd _ 264 [some (.ref 84), none, some (.int (nI (s + L.length))), none, some (.int (b1 hb)), some (.int (nI (s + L.length))), some (.int (nI (s + (aV L p + 1)))), some (.int (nI (s + (aQ L p)))), some (.int (nI (s + (aV L p))))] [] _ _
                    refine g_goto (pc := 264) (tgt := 316) dc_M_attributeEnd_264 rfl ?_
                    have ha9 : atr L p = (L.length, aV L p + 1, aQ L p) := by rw [hat, if_pos ⟨by omega, Or.inl hc208⟩]; show (_, _, _) = _; rw [show Nat.min (aQ L p + 1) L.length = L.length from by show min (aQ L p + 1) L.length = _; omega]
                    rw [ha9]
                    refine am_wk (am_le_s (am_le_n (am_le_n (am_le_n (am_le_s (am_le_s (am_le_s (am_le_s (am_le_n am_le_0))))))))) ?_
                    exact w_M_attributeEnd hA
                  · refine g_iload (pc := 254) dc_M_attributeEnd_254 rfl ?_
                    refine g_iconst (pc := 256) (v := 1) dc_M_attributeEnd_256 rfl ?_
                    refine g_iadd (pc := 257) (v := (nI (s + (aQ L p + 1)))) dc_M_attributeEnd_257 (q_as s (aQ L p) 1) ?_
                    refine g_goto (pc := 258) (tgt := 262) dc_M_attributeEnd_258 rfl ?_
                    refine g_istore (pc := 262) dc_M_attributeEnd_262 (by decide) ?_
                    show am_G X mt_M_attributeEnd _ 264 [some (.ref 84), none, some (.int (nI (s + L.length))), none, some (.int (b1 hb)), some (.int (nI (s + (aQ L p + 1)))), some (.int (nI (s + (aV L p + 1)))), some (.int (nI (s + (aQ L p)))), some (.int (nI (s + (aV L p))))] [] _ _
                    refine g_goto (pc := 264) (tgt := 316) dc_M_attributeEnd_264 rfl ?_
                    have ha9 : atr L p = (aQ L p + 1, aV L p + 1, aQ L p) := by rw [hat, if_pos ⟨by omega, Or.inl hc208⟩]; show (_, _, _) = _; rw [show Nat.min (aQ L p + 1) L.length = (aQ L p + 1) from by show min (aQ L p + 1) L.length = _; omega]
                    rw [ha9]
                    refine am_wk (am_le_s (am_le_n (am_le_n (am_le_n (am_le_s (am_le_s (am_le_s (am_le_s (am_le_n am_le_0))))))))) ?_
                    exact w_M_attributeEnd hA
                · refine g_aload_n (pc := 211) dc_M_attributeEnd_211 rfl ?_
                  refine g_getfield (pc := 212) dc_M_attributeEnd_212 fl_M_140 (mp_o hA) rfl ?_
                  refine g_iload (pc := 215) dc_M_attributeEnd_215 rfl ?_
                  refine q_tx (pc := 217) (aV L p) dc_M_attributeEnd_217 (mp_a hA 12 rfl) hX hs (by omega) (by omega) ?_
                  refine g_bipush (pc := 218) (v := 39) dc_M_attributeEnd_218 rfl ?_
                  refine g_icmp_ne (pc := 220) (tgt := 267) dc_M_attributeEnd_220 rfl (fun hc220 => ?_) (fun hc220 => ?_)
                  · refine g_iload (pc := 267) dc_M_attributeEnd_267 rfl ?_
                    refine g_istore (pc := 269) dc_M_attributeEnd_269 (by decide) ?_
                    show am_G X mt_M_attributeEnd _ 271 [some (.ref 84), none, some (.int (nI (s + L.length))), none, some (.int (b1 hb)), none, some (.int (nI (s + (aV L p)))), none, some (.int (nI (s + (aV L p))))] [] _ _
                    refine g_iload (pc := 271) dc_M_attributeEnd_271 rfl ?_
                    refine g_istore (pc := 273) dc_M_attributeEnd_273 (by decide) ?_
                    show am_G X mt_M_attributeEnd _ 275 [some (.ref 84), none, some (.int (nI (s + L.length))), none, some (.int (b1 hb)), none, some (.int (nI (s + (aV L p)))), some (.int (nI (s + (aV L p)))), some (.int (nI (s + (aV L p))))] [] _ _
                    refine am_wk (am_le_s (am_le_n (am_le_s (am_le_n (am_le_s (am_le_n (am_le_s (am_le_s (am_le_n am_le_0))))))))) ?_
                    refine v275_M_attributeEnd hA hX hs (L.length - aV L p) (aV L p) (by omega) ?_
                    have h6 := fw_bd (p := bvB) (L := L) (f := aV L p) (t := L.length) (by omega)
                    have o6 := fw_out (p := bvB) (L := L) (f := aV L p) (t := L.length)
                    rw [show fw bvB L (aV L p) L.length = aB L p from rfl] at h6 o6 ⊢
                    refine g_iload (pc := 275) dc_M_attributeEnd_275 rfl ?_
                    refine g_iload_n (pc := 277) dc_M_attributeEnd_277 rfl ?_
                    refine q_icmp_ge (pc := 278) (tgt := 312) (s + (aB L p)) (s + L.length) dc_M_attributeEnd_278 (by omega) (by omega) rfl (fun hc278 => ?_) (fun hc278 => ?_)
                    · refine g_iload (pc := 312) dc_M_attributeEnd_312 rfl ?_
                      refine g_istore (pc := 314) dc_M_attributeEnd_314 (by decide) ?_
                      show am_G X mt_M_attributeEnd _ 316 [some (.ref 84), none, some (.int (nI (s + L.length))), none, some (.int (b1 hb)), some (.int (nI (s + (aB L p)))), some (.int (nI (s + (aV L p)))), some (.int (nI (s + (aB L p)))), none] [] _ _
                      have ha9 : atr L p = (aB L p, aV L p, aB L p) := by rw [hat, if_neg (fun h9 => h9.2.elim hc208 hc220)]
                      rw [ha9]
                      refine am_wk (am_le_s (am_le_n (am_le_n (am_le_n (am_le_s (am_le_s (am_le_s (am_le_s (am_le_n am_le_0))))))))) ?_
                      exact w_M_attributeEnd hA
                    · refine g_aload_n (pc := 281) dc_M_attributeEnd_281 rfl ?_
                      refine g_getfield (pc := 282) dc_M_attributeEnd_282 fl_M_140 (mp_o hA) rfl ?_
                      refine g_iload (pc := 285) dc_M_attributeEnd_285 rfl ?_
                      refine q_tx (pc := 287) (aB L p) dc_M_attributeEnd_287 (mp_a hA 12 rfl) hX hs (by omega) (by omega) ?_
                      refine g_s1 (pc := 288) (M' := mt_M_isBlank) dc_M_attributeEnd_288 mo_M_isBlank st_M_isBlank ln_M_75 (Nat.le_of_ble_eq_true rfl) (Nat.le_of_ble_eq_true rfl) (am_G.mono (c_M_isBlank (v := (gx L (aB L p)))) ?_)
                      intro r h1 hq
                      rw [hq.1, hq.2]
                      clear hq h1 r
                      refine ⟨am_nti _, ?_⟩
                      refine q_ifb_ne (pc := 291) (tgt := 312) dc_M_attributeEnd_291 rfl (fun hc291 => ?_) (fun hc291 => ?_)
                      · refine g_iload (pc := 312) dc_M_attributeEnd_312 rfl ?_
                        refine g_istore (pc := 314) dc_M_attributeEnd_314 (by decide) ?_
                        show am_G X mt_M_attributeEnd _ 316 [some (.ref 84), none, some (.int (nI (s + L.length))), none, some (.int (b1 hb)), some (.int (nI (s + (aB L p)))), some (.int (nI (s + (aV L p)))), some (.int (nI (s + (aB L p)))), none] [] _ _
                        have ha9 : atr L p = (aB L p, aV L p, aB L p) := by rw [hat, if_neg (fun h9 => h9.2.elim hc208 hc220)]
                        rw [ha9]
                        refine am_wk (am_le_s (am_le_n (am_le_n (am_le_n (am_le_s (am_le_s (am_le_s (am_le_s (am_le_n am_le_0))))))))) ?_
                        exact w_M_attributeEnd hA
                      · refine g_aload_n (pc := 294) dc_M_attributeEnd_294 rfl ?_
                        refine g_getfield (pc := 295) dc_M_attributeEnd_295 fl_M_140 (mp_o hA) rfl ?_
                        refine g_iload (pc := 298) dc_M_attributeEnd_298 rfl ?_
                        refine q_tx (pc := 300) (aB L p) dc_M_attributeEnd_300 (mp_a hA 12 rfl) hX hs (by omega) (by omega) ?_
                        refine g_bipush (pc := 301) (v := 62) dc_M_attributeEnd_301 rfl ?_
                        refine g_icmp_eq (pc := 303) (tgt := 312) dc_M_attributeEnd_303 rfl (fun hc303 => ?_) (fun hc303 => ?_)
                        · refine g_iload (pc := 312) dc_M_attributeEnd_312 rfl ?_
                          refine g_istore (pc := 314) dc_M_attributeEnd_314 (by decide) ?_
                          show am_G X mt_M_attributeEnd _ 316 [some (.ref 84), none, some (.int (nI (s + L.length))), none, some (.int (b1 hb)), some (.int (nI (s + (aB L p)))), some (.int (nI (s + (aV L p)))), some (.int (nI (s + (aB L p)))), none] [] _ _
                          have ha9 : atr L p = (aB L p, aV L p, aB L p) := by rw [hat, if_neg (fun h9 => h9.2.elim hc208 hc220)]
                          rw [ha9]
                          refine am_wk (am_le_s (am_le_n (am_le_n (am_le_n (am_le_s (am_le_s (am_le_s (am_le_s (am_le_n am_le_0))))))))) ?_
                          exact w_M_attributeEnd hA
                        · exact absurd (o6 (by omega)) (by simp [bvB, hc291, hc303])
                  · refine g_iload (pc := 223) dc_M_attributeEnd_223 rfl ?_
                    refine g_iconst (pc := 225) (v := 1) dc_M_attributeEnd_225 rfl ?_
                    refine g_iadd (pc := 226) (v := (nI (s + (aV L p + 1)))) dc_M_attributeEnd_226 (q_as s (aV L p) 1) ?_
                    refine g_istore (pc := 227) dc_M_attributeEnd_227 (by decide) ?_
                    show am_G X mt_M_attributeEnd _ 229 [some (.ref 84), none, some (.int (nI (s + L.length))), none, some (.int (b1 hb)), none, some (.int (nI (s + (aV L p + 1)))), none, some (.int (nI (s + (aV L p))))] [] _ _
                    refine g_aload_n (pc := 229) dc_M_attributeEnd_229 rfl ?_
                    refine g_getfield (pc := 230) dc_M_attributeEnd_230 fl_M_140 (mp_o hA) rfl ?_
                    refine g_iload (pc := 233) dc_M_attributeEnd_233 rfl ?_
                    refine g_iload_n (pc := 235) dc_M_attributeEnd_235 rfl ?_
                    refine g_aload_n (pc := 236) dc_M_attributeEnd_236 rfl ?_
                    refine g_getfield (pc := 237) dc_M_attributeEnd_237 fl_M_140 (mp_o hA) rfl ?_
                    refine g_iload (pc := 240) dc_M_attributeEnd_240 rfl ?_
                    refine q_tx (pc := 242) (aV L p) dc_M_attributeEnd_242 (mp_a hA 12 rfl) hX hs (by omega) (by omega) ?_
                    refine g_s4 (pc := 243) (M' := mt_M_seek) dc_M_attributeEnd_243 mo_M_seek st_M_seek ln_M_48 (Nat.le_of_ble_eq_true rfl) (Nat.le_of_ble_eq_true rfl) (am_G.mono (t_M_seek (f := aV L p + 1) (t := L.length) (tt_txt hA hX hs) (by omega) (Nat.le_refl _)) ?_)
                    intro r h1 hq
                    rw [hq.1, hq.2]
                    clear hq h1 r
                    refine ⟨am_nti _, ?_⟩
                    have h6 := fw_bd (p := nev (gx L (aV L p))) (L := L) (f := aV L p + 1) (t := L.length) (by omega)
                    rw [show fw (nev (gx L (aV L p))) L (aV L p + 1) L.length = aQ L p from rfl] at h6 ⊢
                    refine g_istore (pc := 246) dc_M_attributeEnd_246 (by decide) ?_
                    show am_G X mt_M_attributeEnd _ 248 [some (.ref 84), none, some (.int (nI (s + L.length))), none, some (.int (b1 hb)), none, some (.int (nI (s + (aV L p + 1)))), some (.int (nI (s + (aQ L p)))), some (.int (nI (s + (aV L p))))] [] _ _
                    refine g_iload (pc := 248) dc_M_attributeEnd_248 rfl ?_
                    refine g_iload_n (pc := 250) dc_M_attributeEnd_250 rfl ?_
                    refine q_icmp_ge (pc := 251) (tgt := 261) (s + (aQ L p)) (s + L.length) dc_M_attributeEnd_251 (by omega) (by omega) rfl (fun hc251 => ?_) (fun hc251 => ?_)
                    · refine g_iload_n (pc := 261) dc_M_attributeEnd_261 rfl ?_
                      refine g_istore (pc := 262) dc_M_attributeEnd_262 (by decide) ?_
                      show am_G X mt_M_attributeEnd _ 264 [some (.ref 84), none, some (.int (nI (s + L.length))), none, some (.int (b1 hb)), some (.int (nI (s + L.length))), some (.int (nI (s + (aV L p + 1)))), some (.int (nI (s + (aQ L p)))), some (.int (nI (s + (aV L p))))] [] _ _
                      refine g_goto (pc := 264) (tgt := 316) dc_M_attributeEnd_264 rfl ?_
                      have ha9 : atr L p = (L.length, aV L p + 1, aQ L p) := by rw [hat, if_pos ⟨by omega, Or.inr hc220⟩]; show (_, _, _) = _; rw [show Nat.min (aQ L p + 1) L.length = L.length from by show min (aQ L p + 1) L.length = _; omega]
                      rw [ha9]
                      refine am_wk (am_le_s (am_le_n (am_le_n (am_le_n (am_le_s (am_le_s (am_le_s (am_le_s (am_le_n am_le_0))))))))) ?_
                      exact w_M_attributeEnd hA
                    · refine g_iload (pc := 254) dc_M_attributeEnd_254 rfl ?_
                      refine g_iconst (pc := 256) (v := 1) dc_M_attributeEnd_256 rfl ?_
                      refine g_iadd (pc := 257) (v := (nI (s + (aQ L p + 1)))) dc_M_attributeEnd_257 (q_as s (aQ L p) 1) ?_
                      refine g_goto (pc := 258) (tgt := 262) dc_M_attributeEnd_258 rfl ?_
                      refine g_istore (pc := 262) dc_M_attributeEnd_262 (by decide) ?_
                      show am_G X mt_M_attributeEnd _ 264 [some (.ref 84), none, some (.int (nI (s + L.length))), none, some (.int (b1 hb)), some (.int (nI (s + (aQ L p + 1)))), some (.int (nI (s + (aV L p + 1)))), some (.int (nI (s + (aQ L p)))), some (.int (nI (s + (aV L p))))] [] _ _
                      refine g_goto (pc := 264) (tgt := 316) dc_M_attributeEnd_264 rfl ?_
                      have ha9 : atr L p = (aQ L p + 1, aV L p + 1, aQ L p) := by rw [hat, if_pos ⟨by omega, Or.inr hc220⟩]; show (_, _, _) = _; rw [show Nat.min (aQ L p + 1) L.length = (aQ L p + 1) from by show min (aQ L p + 1) L.length = _; omega]
                      rw [ha9]
                      refine am_wk (am_le_s (am_le_n (am_le_n (am_le_n (am_le_s (am_le_s (am_le_s (am_le_s (am_le_n am_le_0))))))))) ?_
                      exact w_M_attributeEnd hA
            · exact absurd (o4 (by omega)) (by rw [hc184]; decide)
    · exact absurd (o2 (by omega)) (by rw [hc138]; decide)
theorem c_M_attributeEnd (hA : A.length = 84) (hX : tx S.texts s L) (hs : s + L.length ≤ 24000) (hp : p < L.length) (hQ : hqS S s hq) : am_C X mt_M_attributeEnd (d + 5) [.ref 84, .int (nI (s + p)), .int (nI (s + L.length))] (mput A S B) (fun r h1 => r = some (.int (nI (s + (atr L p).1))) ∧ ∃ b f e, h1 = mput A (((S.s_hasHref b).s_hrefFrom f).s_hrefEnd e) B ∧ hqS (((S.s_hasHref b).s_hrefFrom f).s_hrefEnd e) s (hqT L p (aE L p) (atr L p).2.1 (atr L p).2.2 hq)) := by
  show am_G X mt_M_attributeEnd (d + 5) 0 [some (.ref 84), some (.int (nI (s + p))), some (.int (nI (s + L.length))), none, none, none, none, none, none] [] (mput A S B) _
  have h1 := fw_bd (p := anB) (L := L) (f := p + 1) (t := L.length) (by omega)
  have o1 := fw_out (p := anB) (L := L) (f := p + 1) (t := L.length)
  refine g_iload_n (pc := 0) dc_M_attributeEnd_0 rfl ?_
  refine g_iconst (pc := 1) (v := 1) dc_M_attributeEnd_1 rfl ?_
  refine g_iadd (pc := 2) (v := (nI (s + (p + 1)))) dc_M_attributeEnd_2 (q_as s p 1) ?_
  refine g_istore_n (pc := 3) dc_M_attributeEnd_3 (by decide) ?_
  show am_G X mt_M_attributeEnd _ 4 [some (.ref 84), some (.int (nI (s + p))), some (.int (nI (s + L.length))), some (.int (nI (s + (p + 1)))), none, none, none, none, none] [] _ _
  refine v4_M_attributeEnd (d := d + 1) hA hX hs (L.length - (p + 1)) (p + 1) (by omega) ?_
  rw [show fw anB L (p + 1) L.length = aE L p from rfl] at h1 o1 ⊢
  refine g_iload_n (pc := 4) dc_M_attributeEnd_4 rfl ?_
  refine g_iload_n (pc := 5) dc_M_attributeEnd_5 rfl ?_
  refine q_icmp_ge (pc := 6) (tgt := 60) (s + (aE L p)) (s + L.length) dc_M_attributeEnd_6 (by omega) (by omega) rfl (fun hc6 => ?_) (fun hc6 => ?_)
  · cases hq with
    | some q =>
      have e9 : S.hasHref = true := hQ.1
      refine g_aload_n (pc := 60) dc_M_attributeEnd_60 rfl ?_
      refine g_getfield (pc := 61) (v := .int (b1 true)) dc_M_attributeEnd_61 fl_M_272 (mp_o hA) (congrArg (fun z => some (Value.int (b1 z))) e9) ?_
      refine q_ifb_ne (pc := 64) (tgt := 86) dc_M_attributeEnd_64 rfl (fun hc64 => ?_) (fun hc => absurd hc (by decide))
      refine g_iconst (pc := 86) (v := 0) dc_M_attributeEnd_86 rfl ?_
      refine g_istore (pc := 87) dc_M_attributeEnd_87 (by decide) ?_
      show am_G X mt_M_attributeEnd _ 89 [some (.ref 84), some (.int (nI (s + p))), some (.int (nI (s + L.length))), some (.int (nI (s + (aE L p)))), some (.int 0), none, none, none, none] [] _ _
      refine g_aload_n (pc := 89) dc_M_attributeEnd_89 rfl ?_
      refine g_aload_n (pc := 90) dc_M_attributeEnd_90 rfl ?_
      refine g_getfield (pc := 91) (v := .int (b1 true)) dc_M_attributeEnd_91 fl_M_272 (mp_o hA) (congrArg (fun z => some (Value.int (b1 z))) e9) ?_
      refine q_ifb_ne (pc := 94) (tgt := 102) dc_M_attributeEnd_94 rfl (fun hc94 => ?_) (fun hc => absurd hc (by decide))
      refine g_iconst (pc := 102) (v := 1) dc_M_attributeEnd_102 rfl ?_
      refine g_goto (pc := 103) (tgt := 107) dc_M_attributeEnd_103 rfl ?_
      refine pf_hasHref (pc := 107) (v := true) hA dc_M_attributeEnd_107 fp_M_attributeEnd_272 ?_
      refine g_iload_n (pc := 110) dc_M_attributeEnd_110 rfl ?_
      refine g_istore (pc := 111) dc_M_attributeEnd_111 (by decide) ?_
      show am_G X mt_M_attributeEnd _ 113 [some (.ref 84), some (.int (nI (s + p))), some (.int (nI (s + L.length))), some (.int (nI (s + (aE L p)))), some (.int 0), some (.int (nI (s + (aE L p)))), none, none, none] [] _ _
      refine g_iload_n (pc := 113) dc_M_attributeEnd_113 rfl ?_
      refine g_istore (pc := 114) dc_M_attributeEnd_114 (by decide) ?_
      show am_G X mt_M_attributeEnd _ 116 [some (.ref 84), some (.int (nI (s + p))), some (.int (nI (s + L.length))), some (.int (nI (s + (aE L p)))), some (.int 0), some (.int (nI (s + (aE L p)))), some (.int (nI (s + (aE L p)))), none, none] [] _ _
      refine g_iload_n (pc := 116) dc_M_attributeEnd_116 rfl ?_
      refine g_istore (pc := 117) dc_M_attributeEnd_117 (by decide) ?_
      show am_G X mt_M_attributeEnd _ 119 [some (.ref 84), some (.int (nI (s + p))), some (.int (nI (s + L.length))), some (.int (nI (s + (aE L p)))), some (.int 0), some (.int (nI (s + (aE L p)))), some (.int (nI (s + (aE L p)))), some (.int (nI (s + (aE L p)))), none] [] _ _
      refine g_iload_n (pc := 119) dc_M_attributeEnd_119 rfl ?_
      refine g_istore (pc := 120) dc_M_attributeEnd_120 (by decide) ?_
      show am_G X mt_M_attributeEnd _ 122 [some (.ref 84), some (.int (nI (s + p))), some (.int (nI (s + L.length))), some (.int (nI (s + (aE L p)))), some (.int 0), some (.int (nI (s + (aE L p)))), some (.int (nI (s + (aE L p)))), some (.int (nI (s + (aE L p)))), some (.int (nI (s + (aE L p))))] [] _ _
      refine am_wk (am_le_s (am_le_n (am_le_s (am_le_n (am_le_s (am_le_s (am_le_s (am_le_s (am_le_s am_le_0))))))))) ?_
      refine am_G.mono (u_M_attributeEnd (d := d + 1) (S := (S.s_hasHref true)) (hb := false) hA hX hs hp rfl) (fun r h1 hz => ?_)
      obtain ⟨hz1, hz2⟩ := hz
      refine ⟨hz1, ?_⟩
      rw [hz2]
      exact ⟨true, S.hrefFrom, S.hrefEnd, rfl, rfl, fun q9 hq9 => hQ.2 q9 hq9⟩
    | none =>
      have e9 : S.hasHref = false := hQ.1
      refine g_aload_n (pc := 60) dc_M_attributeEnd_60 rfl ?_
      refine g_getfield (pc := 61) (v := .int (b1 false)) dc_M_attributeEnd_61 fl_M_272 (mp_o hA) (congrArg (fun z => some (Value.int (b1 z))) e9) ?_
      refine q_ifb_ne (pc := 64) (tgt := 86) dc_M_attributeEnd_64 rfl (fun hc => absurd hc (by decide)) (fun hc64 => ?_)
      refine g_aload_n (pc := 67) dc_M_attributeEnd_67 rfl ?_
      refine g_getfield (pc := 68) dc_M_attributeEnd_68 fl_M_140 (mp_o hA) rfl ?_
      refine g_iload_n (pc := 71) dc_M_attributeEnd_71 rfl ?_
      refine g_iload_n (pc := 72) dc_M_attributeEnd_72 rfl ?_
      refine g_ldcwS (pc := 73) 37 dc_M_attributeEnd_73 (by decide) rfl rfl ?_
      refine g_s4 (pc := 76) (M' := mt_M_isWord) dc_M_attributeEnd_76 mo_M_isWord st_M_isWord ln_M_83 (Nat.le_of_ble_eq_true rfl) (Nat.le_of_ble_eq_true rfl) (am_G.mono (t_M_isWord (i := 37) (f := p) (t := aE L p) (tt_txt hA hX hs) (by decide) (by omega) (by omega)) ?_)
      intro r h1 hz
      rw [hz.1, hz.2, isw_hr]
      clear hz h1 r
      refine ⟨am_nti _, ?_⟩
      refine q_ifb_eq (pc := 79) (tgt := 86) dc_M_attributeEnd_79 rfl (fun hc79 => ?_) (fun hc79 => ?_)
      · refine g_iconst (pc := 86) (v := 0) dc_M_attributeEnd_86 rfl ?_
        refine g_istore (pc := 87) dc_M_attributeEnd_87 (by decide) ?_
        show am_G X mt_M_attributeEnd _ 89 [some (.ref 84), some (.int (nI (s + p))), some (.int (nI (s + L.length))), some (.int (nI (s + (aE L p)))), some (.int 0), none, none, none, none] [] _ _
        refine g_aload_n (pc := 89) dc_M_attributeEnd_89 rfl ?_
        refine g_aload_n (pc := 90) dc_M_attributeEnd_90 rfl ?_
        refine g_getfield (pc := 91) (v := .int (b1 false)) dc_M_attributeEnd_91 fl_M_272 (mp_o hA) (congrArg (fun z => some (Value.int (b1 z))) e9) ?_
        refine q_ifb_ne (pc := 94) (tgt := 102) dc_M_attributeEnd_94 rfl (fun hc => absurd hc (by decide)) (fun hc94 => ?_)
        refine g_iload (pc := 97) dc_M_attributeEnd_97 rfl ?_
        refine g_if_eq (pc := 99) (tgt := 106) dc_M_attributeEnd_99 rfl (fun _ => ?_) (fun hc => absurd hc (by decide))
        refine g_iconst (pc := 106) (v := 0) dc_M_attributeEnd_106 rfl ?_
        refine pf_hasHref (pc := 107) (v := false) hA dc_M_attributeEnd_107 fp_M_attributeEnd_272 ?_
        refine g_iload_n (pc := 110) dc_M_attributeEnd_110 rfl ?_
        refine g_istore (pc := 111) dc_M_attributeEnd_111 (by decide) ?_
        show am_G X mt_M_attributeEnd _ 113 [some (.ref 84), some (.int (nI (s + p))), some (.int (nI (s + L.length))), some (.int (nI (s + (aE L p)))), some (.int 0), some (.int (nI (s + (aE L p)))), none, none, none] [] _ _
        refine g_iload_n (pc := 113) dc_M_attributeEnd_113 rfl ?_
        refine g_istore (pc := 114) dc_M_attributeEnd_114 (by decide) ?_
        show am_G X mt_M_attributeEnd _ 116 [some (.ref 84), some (.int (nI (s + p))), some (.int (nI (s + L.length))), some (.int (nI (s + (aE L p)))), some (.int 0), some (.int (nI (s + (aE L p)))), some (.int (nI (s + (aE L p)))), none, none] [] _ _
        refine g_iload_n (pc := 116) dc_M_attributeEnd_116 rfl ?_
        refine g_istore (pc := 117) dc_M_attributeEnd_117 (by decide) ?_
        show am_G X mt_M_attributeEnd _ 119 [some (.ref 84), some (.int (nI (s + p))), some (.int (nI (s + L.length))), some (.int (nI (s + (aE L p)))), some (.int 0), some (.int (nI (s + (aE L p)))), some (.int (nI (s + (aE L p)))), some (.int (nI (s + (aE L p)))), none] [] _ _
        refine g_iload_n (pc := 119) dc_M_attributeEnd_119 rfl ?_
        refine g_istore (pc := 120) dc_M_attributeEnd_120 (by decide) ?_
        show am_G X mt_M_attributeEnd _ 122 [some (.ref 84), some (.int (nI (s + p))), some (.int (nI (s + L.length))), some (.int (nI (s + (aE L p)))), some (.int 0), some (.int (nI (s + (aE L p)))), some (.int (nI (s + (aE L p)))), some (.int (nI (s + (aE L p)))), some (.int (nI (s + (aE L p))))] [] _ _
        refine am_wk (am_le_s (am_le_n (am_le_s (am_le_n (am_le_s (am_le_s (am_le_s (am_le_s (am_le_s am_le_0))))))))) ?_
        refine am_G.mono (u_M_attributeEnd (d := d + 1) (S := (S.s_hasHref false)) (hb := false) hA hX hs hp rfl) (fun r h1 hz => ?_)
        obtain ⟨hz1, hz2⟩ := hz
        refine ⟨hz1, ?_⟩
        rw [hz2]
        exact ⟨false, S.hrefFrom, S.hrefEnd, rfl, by show hqS _ s (if isw 20 L p (aE L p) = true then some _ else none); rw [if_neg (by rw [hc79]; decide)]; exact ⟨rfl, fun q9 hq9 => by cases hq9⟩⟩
      · refine g_iconst (pc := 82) (v := 1) dc_M_attributeEnd_82 rfl ?_
        refine g_goto (pc := 83) (tgt := 87) dc_M_attributeEnd_83 rfl ?_
        refine g_istore (pc := 87) dc_M_attributeEnd_87 (by decide) ?_
        show am_G X mt_M_attributeEnd _ 89 [some (.ref 84), some (.int (nI (s + p))), some (.int (nI (s + L.length))), some (.int (nI (s + (aE L p)))), some (.int 1), none, none, none, none] [] _ _
        refine g_aload_n (pc := 89) dc_M_attributeEnd_89 rfl ?_
        refine g_aload_n (pc := 90) dc_M_attributeEnd_90 rfl ?_
        refine g_getfield (pc := 91) (v := .int (b1 false)) dc_M_attributeEnd_91 fl_M_272 (mp_o hA) (congrArg (fun z => some (Value.int (b1 z))) e9) ?_
        refine q_ifb_ne (pc := 94) (tgt := 102) dc_M_attributeEnd_94 rfl (fun hc => absurd hc (by decide)) (fun hc94 => ?_)
        refine g_iload (pc := 97) dc_M_attributeEnd_97 rfl ?_
        refine g_if_eq (pc := 99) (tgt := 106) dc_M_attributeEnd_99 rfl (fun hc => absurd hc (by decide)) (fun _ => ?_)
        refine g_iconst (pc := 102) (v := 1) dc_M_attributeEnd_102 rfl ?_
        refine g_goto (pc := 103) (tgt := 107) dc_M_attributeEnd_103 rfl ?_
        refine pf_hasHref (pc := 107) (v := true) hA dc_M_attributeEnd_107 fp_M_attributeEnd_272 ?_
        refine g_iload_n (pc := 110) dc_M_attributeEnd_110 rfl ?_
        refine g_istore (pc := 111) dc_M_attributeEnd_111 (by decide) ?_
        show am_G X mt_M_attributeEnd _ 113 [some (.ref 84), some (.int (nI (s + p))), some (.int (nI (s + L.length))), some (.int (nI (s + (aE L p)))), some (.int 1), some (.int (nI (s + (aE L p)))), none, none, none] [] _ _
        refine g_iload_n (pc := 113) dc_M_attributeEnd_113 rfl ?_
        refine g_istore (pc := 114) dc_M_attributeEnd_114 (by decide) ?_
        show am_G X mt_M_attributeEnd _ 116 [some (.ref 84), some (.int (nI (s + p))), some (.int (nI (s + L.length))), some (.int (nI (s + (aE L p)))), some (.int 1), some (.int (nI (s + (aE L p)))), some (.int (nI (s + (aE L p)))), none, none] [] _ _
        refine g_iload_n (pc := 116) dc_M_attributeEnd_116 rfl ?_
        refine g_istore (pc := 117) dc_M_attributeEnd_117 (by decide) ?_
        show am_G X mt_M_attributeEnd _ 119 [some (.ref 84), some (.int (nI (s + p))), some (.int (nI (s + L.length))), some (.int (nI (s + (aE L p)))), some (.int 1), some (.int (nI (s + (aE L p)))), some (.int (nI (s + (aE L p)))), some (.int (nI (s + (aE L p)))), none] [] _ _
        refine g_iload_n (pc := 119) dc_M_attributeEnd_119 rfl ?_
        refine g_istore (pc := 120) dc_M_attributeEnd_120 (by decide) ?_
        show am_G X mt_M_attributeEnd _ 122 [some (.ref 84), some (.int (nI (s + p))), some (.int (nI (s + L.length))), some (.int (nI (s + (aE L p)))), some (.int 1), some (.int (nI (s + (aE L p)))), some (.int (nI (s + (aE L p)))), some (.int (nI (s + (aE L p)))), some (.int (nI (s + (aE L p))))] [] _ _
        refine am_wk (am_le_s (am_le_n (am_le_s (am_le_n (am_le_s (am_le_s (am_le_s (am_le_s (am_le_s am_le_0))))))))) ?_
        refine am_G.mono (u_M_attributeEnd (d := d + 1) (S := (S.s_hasHref true)) (hb := true) hA hX hs hp rfl) (fun r h1 hz => ?_)
        obtain ⟨hz1, hz2⟩ := hz
        refine ⟨hz1, ?_⟩
        rw [hz2]
        exact ⟨true, s + (atr L p).2.1, s + (atr L p).2.2, rfl, by show hqS _ s (if isw 20 L p (aE L p) = true then some _ else none); rw [if_pos hc79]; exact ⟨rfl, fun q hq9 => by cases hq9; exact ⟨rfl, rfl⟩⟩⟩
  · refine g_aload_n (pc := 9) dc_M_attributeEnd_9 rfl ?_
    refine g_getfield (pc := 10) dc_M_attributeEnd_10 fl_M_140 (mp_o hA) rfl ?_
    refine g_iload_n (pc := 13) dc_M_attributeEnd_13 rfl ?_
    refine q_tx (pc := 14) (aE L p) dc_M_attributeEnd_14 (mp_a hA 12 rfl) hX hs (by omega) (by omega) ?_
    refine g_s1 (pc := 15) (M' := mt_M_isBlank) dc_M_attributeEnd_15 mo_M_isBlank st_M_isBlank ln_M_75 (Nat.le_of_ble_eq_true rfl) (Nat.le_of_ble_eq_true rfl) (am_G.mono (c_M_isBlank (v := (gx L (aE L p)))) ?_)
    intro r h1 hq
    rw [hq.1, hq.2]
    clear hq h1 r
    refine ⟨am_nti _, ?_⟩
    refine q_ifb_ne (pc := 18) (tgt := 60) dc_M_attributeEnd_18 rfl (fun hc18 => ?_) (fun hc18 => ?_)
    · cases hq with
      | some q =>
        have e9 : S.hasHref = true := hQ.1
        refine g_aload_n (pc := 60) dc_M_attributeEnd_60 rfl ?_
        refine g_getfield (pc := 61) (v := .int (b1 true)) dc_M_attributeEnd_61 fl_M_272 (mp_o hA) (congrArg (fun z => some (Value.int (b1 z))) e9) ?_
        refine q_ifb_ne (pc := 64) (tgt := 86) dc_M_attributeEnd_64 rfl (fun hc64 => ?_) (fun hc => absurd hc (by decide))
        refine g_iconst (pc := 86) (v := 0) dc_M_attributeEnd_86 rfl ?_
        refine g_istore (pc := 87) dc_M_attributeEnd_87 (by decide) ?_
        show am_G X mt_M_attributeEnd _ 89 [some (.ref 84), some (.int (nI (s + p))), some (.int (nI (s + L.length))), some (.int (nI (s + (aE L p)))), some (.int 0), none, none, none, none] [] _ _
        refine g_aload_n (pc := 89) dc_M_attributeEnd_89 rfl ?_
        refine g_aload_n (pc := 90) dc_M_attributeEnd_90 rfl ?_
        refine g_getfield (pc := 91) (v := .int (b1 true)) dc_M_attributeEnd_91 fl_M_272 (mp_o hA) (congrArg (fun z => some (Value.int (b1 z))) e9) ?_
        refine q_ifb_ne (pc := 94) (tgt := 102) dc_M_attributeEnd_94 rfl (fun hc94 => ?_) (fun hc => absurd hc (by decide))
        refine g_iconst (pc := 102) (v := 1) dc_M_attributeEnd_102 rfl ?_
        refine g_goto (pc := 103) (tgt := 107) dc_M_attributeEnd_103 rfl ?_
        refine pf_hasHref (pc := 107) (v := true) hA dc_M_attributeEnd_107 fp_M_attributeEnd_272 ?_
        refine g_iload_n (pc := 110) dc_M_attributeEnd_110 rfl ?_
        refine g_istore (pc := 111) dc_M_attributeEnd_111 (by decide) ?_
        show am_G X mt_M_attributeEnd _ 113 [some (.ref 84), some (.int (nI (s + p))), some (.int (nI (s + L.length))), some (.int (nI (s + (aE L p)))), some (.int 0), some (.int (nI (s + (aE L p)))), none, none, none] [] _ _
        refine g_iload_n (pc := 113) dc_M_attributeEnd_113 rfl ?_
        refine g_istore (pc := 114) dc_M_attributeEnd_114 (by decide) ?_
        show am_G X mt_M_attributeEnd _ 116 [some (.ref 84), some (.int (nI (s + p))), some (.int (nI (s + L.length))), some (.int (nI (s + (aE L p)))), some (.int 0), some (.int (nI (s + (aE L p)))), some (.int (nI (s + (aE L p)))), none, none] [] _ _
        refine g_iload_n (pc := 116) dc_M_attributeEnd_116 rfl ?_
        refine g_istore (pc := 117) dc_M_attributeEnd_117 (by decide) ?_
        show am_G X mt_M_attributeEnd _ 119 [some (.ref 84), some (.int (nI (s + p))), some (.int (nI (s + L.length))), some (.int (nI (s + (aE L p)))), some (.int 0), some (.int (nI (s + (aE L p)))), some (.int (nI (s + (aE L p)))), some (.int (nI (s + (aE L p)))), none] [] _ _
        refine g_iload_n (pc := 119) dc_M_attributeEnd_119 rfl ?_
        refine g_istore (pc := 120) dc_M_attributeEnd_120 (by decide) ?_
        show am_G X mt_M_attributeEnd _ 122 [some (.ref 84), some (.int (nI (s + p))), some (.int (nI (s + L.length))), some (.int (nI (s + (aE L p)))), some (.int 0), some (.int (nI (s + (aE L p)))), some (.int (nI (s + (aE L p)))), some (.int (nI (s + (aE L p)))), some (.int (nI (s + (aE L p))))] [] _ _
        refine am_wk (am_le_s (am_le_n (am_le_s (am_le_n (am_le_s (am_le_s (am_le_s (am_le_s (am_le_s am_le_0))))))))) ?_
        refine am_G.mono (u_M_attributeEnd (d := d + 1) (S := (S.s_hasHref true)) (hb := false) hA hX hs hp rfl) (fun r h1 hz => ?_)
        obtain ⟨hz1, hz2⟩ := hz
        refine ⟨hz1, ?_⟩
        rw [hz2]
        exact ⟨true, S.hrefFrom, S.hrefEnd, rfl, rfl, fun q9 hq9 => hQ.2 q9 hq9⟩
      | none =>
        have e9 : S.hasHref = false := hQ.1
        refine g_aload_n (pc := 60) dc_M_attributeEnd_60 rfl ?_
        refine g_getfield (pc := 61) (v := .int (b1 false)) dc_M_attributeEnd_61 fl_M_272 (mp_o hA) (congrArg (fun z => some (Value.int (b1 z))) e9) ?_
        refine q_ifb_ne (pc := 64) (tgt := 86) dc_M_attributeEnd_64 rfl (fun hc => absurd hc (by decide)) (fun hc64 => ?_)
        refine g_aload_n (pc := 67) dc_M_attributeEnd_67 rfl ?_
        refine g_getfield (pc := 68) dc_M_attributeEnd_68 fl_M_140 (mp_o hA) rfl ?_
        refine g_iload_n (pc := 71) dc_M_attributeEnd_71 rfl ?_
        refine g_iload_n (pc := 72) dc_M_attributeEnd_72 rfl ?_
        refine g_ldcwS (pc := 73) 37 dc_M_attributeEnd_73 (by decide) rfl rfl ?_
        refine g_s4 (pc := 76) (M' := mt_M_isWord) dc_M_attributeEnd_76 mo_M_isWord st_M_isWord ln_M_83 (Nat.le_of_ble_eq_true rfl) (Nat.le_of_ble_eq_true rfl) (am_G.mono (t_M_isWord (i := 37) (f := p) (t := aE L p) (tt_txt hA hX hs) (by decide) (by omega) (by omega)) ?_)
        intro r h1 hz
        rw [hz.1, hz.2, isw_hr]
        clear hz h1 r
        refine ⟨am_nti _, ?_⟩
        refine q_ifb_eq (pc := 79) (tgt := 86) dc_M_attributeEnd_79 rfl (fun hc79 => ?_) (fun hc79 => ?_)
        · refine g_iconst (pc := 86) (v := 0) dc_M_attributeEnd_86 rfl ?_
          refine g_istore (pc := 87) dc_M_attributeEnd_87 (by decide) ?_
          show am_G X mt_M_attributeEnd _ 89 [some (.ref 84), some (.int (nI (s + p))), some (.int (nI (s + L.length))), some (.int (nI (s + (aE L p)))), some (.int 0), none, none, none, none] [] _ _
          refine g_aload_n (pc := 89) dc_M_attributeEnd_89 rfl ?_
          refine g_aload_n (pc := 90) dc_M_attributeEnd_90 rfl ?_
          refine g_getfield (pc := 91) (v := .int (b1 false)) dc_M_attributeEnd_91 fl_M_272 (mp_o hA) (congrArg (fun z => some (Value.int (b1 z))) e9) ?_
          refine q_ifb_ne (pc := 94) (tgt := 102) dc_M_attributeEnd_94 rfl (fun hc => absurd hc (by decide)) (fun hc94 => ?_)
          refine g_iload (pc := 97) dc_M_attributeEnd_97 rfl ?_
          refine g_if_eq (pc := 99) (tgt := 106) dc_M_attributeEnd_99 rfl (fun _ => ?_) (fun hc => absurd hc (by decide))
          refine g_iconst (pc := 106) (v := 0) dc_M_attributeEnd_106 rfl ?_
          refine pf_hasHref (pc := 107) (v := false) hA dc_M_attributeEnd_107 fp_M_attributeEnd_272 ?_
          refine g_iload_n (pc := 110) dc_M_attributeEnd_110 rfl ?_
          refine g_istore (pc := 111) dc_M_attributeEnd_111 (by decide) ?_
          show am_G X mt_M_attributeEnd _ 113 [some (.ref 84), some (.int (nI (s + p))), some (.int (nI (s + L.length))), some (.int (nI (s + (aE L p)))), some (.int 0), some (.int (nI (s + (aE L p)))), none, none, none] [] _ _
          refine g_iload_n (pc := 113) dc_M_attributeEnd_113 rfl ?_
          refine g_istore (pc := 114) dc_M_attributeEnd_114 (by decide) ?_
          show am_G X mt_M_attributeEnd _ 116 [some (.ref 84), some (.int (nI (s + p))), some (.int (nI (s + L.length))), some (.int (nI (s + (aE L p)))), some (.int 0), some (.int (nI (s + (aE L p)))), some (.int (nI (s + (aE L p)))), none, none] [] _ _
          refine g_iload_n (pc := 116) dc_M_attributeEnd_116 rfl ?_
          refine g_istore (pc := 117) dc_M_attributeEnd_117 (by decide) ?_
          show am_G X mt_M_attributeEnd _ 119 [some (.ref 84), some (.int (nI (s + p))), some (.int (nI (s + L.length))), some (.int (nI (s + (aE L p)))), some (.int 0), some (.int (nI (s + (aE L p)))), some (.int (nI (s + (aE L p)))), some (.int (nI (s + (aE L p)))), none] [] _ _
          refine g_iload_n (pc := 119) dc_M_attributeEnd_119 rfl ?_
          refine g_istore (pc := 120) dc_M_attributeEnd_120 (by decide) ?_
          show am_G X mt_M_attributeEnd _ 122 [some (.ref 84), some (.int (nI (s + p))), some (.int (nI (s + L.length))), some (.int (nI (s + (aE L p)))), some (.int 0), some (.int (nI (s + (aE L p)))), some (.int (nI (s + (aE L p)))), some (.int (nI (s + (aE L p)))), some (.int (nI (s + (aE L p))))] [] _ _
          refine am_wk (am_le_s (am_le_n (am_le_s (am_le_n (am_le_s (am_le_s (am_le_s (am_le_s (am_le_s am_le_0))))))))) ?_
          refine am_G.mono (u_M_attributeEnd (d := d + 1) (S := (S.s_hasHref false)) (hb := false) hA hX hs hp rfl) (fun r h1 hz => ?_)
          obtain ⟨hz1, hz2⟩ := hz
          refine ⟨hz1, ?_⟩
          rw [hz2]
          exact ⟨false, S.hrefFrom, S.hrefEnd, rfl, by show hqS _ s (if isw 20 L p (aE L p) = true then some _ else none); rw [if_neg (by rw [hc79]; decide)]; exact ⟨rfl, fun q9 hq9 => by cases hq9⟩⟩
        · refine g_iconst (pc := 82) (v := 1) dc_M_attributeEnd_82 rfl ?_
          refine g_goto (pc := 83) (tgt := 87) dc_M_attributeEnd_83 rfl ?_
          refine g_istore (pc := 87) dc_M_attributeEnd_87 (by decide) ?_
          show am_G X mt_M_attributeEnd _ 89 [some (.ref 84), some (.int (nI (s + p))), some (.int (nI (s + L.length))), some (.int (nI (s + (aE L p)))), some (.int 1), none, none, none, none] [] _ _
          refine g_aload_n (pc := 89) dc_M_attributeEnd_89 rfl ?_
          refine g_aload_n (pc := 90) dc_M_attributeEnd_90 rfl ?_
          refine g_getfield (pc := 91) (v := .int (b1 false)) dc_M_attributeEnd_91 fl_M_272 (mp_o hA) (congrArg (fun z => some (Value.int (b1 z))) e9) ?_
          refine q_ifb_ne (pc := 94) (tgt := 102) dc_M_attributeEnd_94 rfl (fun hc => absurd hc (by decide)) (fun hc94 => ?_)
          refine g_iload (pc := 97) dc_M_attributeEnd_97 rfl ?_
          refine g_if_eq (pc := 99) (tgt := 106) dc_M_attributeEnd_99 rfl (fun hc => absurd hc (by decide)) (fun _ => ?_)
          refine g_iconst (pc := 102) (v := 1) dc_M_attributeEnd_102 rfl ?_
          refine g_goto (pc := 103) (tgt := 107) dc_M_attributeEnd_103 rfl ?_
          refine pf_hasHref (pc := 107) (v := true) hA dc_M_attributeEnd_107 fp_M_attributeEnd_272 ?_
          refine g_iload_n (pc := 110) dc_M_attributeEnd_110 rfl ?_
          refine g_istore (pc := 111) dc_M_attributeEnd_111 (by decide) ?_
          show am_G X mt_M_attributeEnd _ 113 [some (.ref 84), some (.int (nI (s + p))), some (.int (nI (s + L.length))), some (.int (nI (s + (aE L p)))), some (.int 1), some (.int (nI (s + (aE L p)))), none, none, none] [] _ _
          refine g_iload_n (pc := 113) dc_M_attributeEnd_113 rfl ?_
          refine g_istore (pc := 114) dc_M_attributeEnd_114 (by decide) ?_
          show am_G X mt_M_attributeEnd _ 116 [some (.ref 84), some (.int (nI (s + p))), some (.int (nI (s + L.length))), some (.int (nI (s + (aE L p)))), some (.int 1), some (.int (nI (s + (aE L p)))), some (.int (nI (s + (aE L p)))), none, none] [] _ _
          refine g_iload_n (pc := 116) dc_M_attributeEnd_116 rfl ?_
          refine g_istore (pc := 117) dc_M_attributeEnd_117 (by decide) ?_
          show am_G X mt_M_attributeEnd _ 119 [some (.ref 84), some (.int (nI (s + p))), some (.int (nI (s + L.length))), some (.int (nI (s + (aE L p)))), some (.int 1), some (.int (nI (s + (aE L p)))), some (.int (nI (s + (aE L p)))), some (.int (nI (s + (aE L p)))), none] [] _ _
          refine g_iload_n (pc := 119) dc_M_attributeEnd_119 rfl ?_
          refine g_istore (pc := 120) dc_M_attributeEnd_120 (by decide) ?_
          show am_G X mt_M_attributeEnd _ 122 [some (.ref 84), some (.int (nI (s + p))), some (.int (nI (s + L.length))), some (.int (nI (s + (aE L p)))), some (.int 1), some (.int (nI (s + (aE L p)))), some (.int (nI (s + (aE L p)))), some (.int (nI (s + (aE L p)))), some (.int (nI (s + (aE L p))))] [] _ _
          refine am_wk (am_le_s (am_le_n (am_le_s (am_le_n (am_le_s (am_le_s (am_le_s (am_le_s (am_le_s am_le_0))))))))) ?_
          refine am_G.mono (u_M_attributeEnd (d := d + 1) (S := (S.s_hasHref true)) (hb := true) hA hX hs hp rfl) (fun r h1 hz => ?_)
          obtain ⟨hz1, hz2⟩ := hz
          refine ⟨hz1, ?_⟩
          rw [hz2]
          exact ⟨true, s + (atr L p).2.1, s + (atr L p).2.2, rfl, by show hqS _ s (if isw 20 L p (aE L p) = true then some _ else none); rw [if_pos hc79]; exact ⟨rfl, fun q hq9 => by cases hq9; exact ⟨rfl, rfl⟩⟩⟩
    · refine g_aload_n (pc := 21) dc_M_attributeEnd_21 rfl ?_
      refine g_getfield (pc := 22) dc_M_attributeEnd_22 fl_M_140 (mp_o hA) rfl ?_
      refine g_iload_n (pc := 25) dc_M_attributeEnd_25 rfl ?_
      refine q_tx (pc := 26) (aE L p) dc_M_attributeEnd_26 (mp_a hA 12 rfl) hX hs (by omega) (by omega) ?_
      refine g_bipush (pc := 27) (v := 47) dc_M_attributeEnd_27 rfl ?_
      refine g_icmp_eq (pc := 29) (tgt := 60) dc_M_attributeEnd_29 rfl (fun hc29 => ?_) (fun hc29 => ?_)
      · cases hq with
        | some q =>
          have e9 : S.hasHref = true := hQ.1
          refine g_aload_n (pc := 60) dc_M_attributeEnd_60 rfl ?_
          refine g_getfield (pc := 61) (v := .int (b1 true)) dc_M_attributeEnd_61 fl_M_272 (mp_o hA) (congrArg (fun z => some (Value.int (b1 z))) e9) ?_
          refine q_ifb_ne (pc := 64) (tgt := 86) dc_M_attributeEnd_64 rfl (fun hc64 => ?_) (fun hc => absurd hc (by decide))
          refine g_iconst (pc := 86) (v := 0) dc_M_attributeEnd_86 rfl ?_
          refine g_istore (pc := 87) dc_M_attributeEnd_87 (by decide) ?_
          show am_G X mt_M_attributeEnd _ 89 [some (.ref 84), some (.int (nI (s + p))), some (.int (nI (s + L.length))), some (.int (nI (s + (aE L p)))), some (.int 0), none, none, none, none] [] _ _
          refine g_aload_n (pc := 89) dc_M_attributeEnd_89 rfl ?_
          refine g_aload_n (pc := 90) dc_M_attributeEnd_90 rfl ?_
          refine g_getfield (pc := 91) (v := .int (b1 true)) dc_M_attributeEnd_91 fl_M_272 (mp_o hA) (congrArg (fun z => some (Value.int (b1 z))) e9) ?_
          refine q_ifb_ne (pc := 94) (tgt := 102) dc_M_attributeEnd_94 rfl (fun hc94 => ?_) (fun hc => absurd hc (by decide))
          refine g_iconst (pc := 102) (v := 1) dc_M_attributeEnd_102 rfl ?_
          refine g_goto (pc := 103) (tgt := 107) dc_M_attributeEnd_103 rfl ?_
          refine pf_hasHref (pc := 107) (v := true) hA dc_M_attributeEnd_107 fp_M_attributeEnd_272 ?_
          refine g_iload_n (pc := 110) dc_M_attributeEnd_110 rfl ?_
          refine g_istore (pc := 111) dc_M_attributeEnd_111 (by decide) ?_
          show am_G X mt_M_attributeEnd _ 113 [some (.ref 84), some (.int (nI (s + p))), some (.int (nI (s + L.length))), some (.int (nI (s + (aE L p)))), some (.int 0), some (.int (nI (s + (aE L p)))), none, none, none] [] _ _
          refine g_iload_n (pc := 113) dc_M_attributeEnd_113 rfl ?_
          refine g_istore (pc := 114) dc_M_attributeEnd_114 (by decide) ?_
          show am_G X mt_M_attributeEnd _ 116 [some (.ref 84), some (.int (nI (s + p))), some (.int (nI (s + L.length))), some (.int (nI (s + (aE L p)))), some (.int 0), some (.int (nI (s + (aE L p)))), some (.int (nI (s + (aE L p)))), none, none] [] _ _
          refine g_iload_n (pc := 116) dc_M_attributeEnd_116 rfl ?_
          refine g_istore (pc := 117) dc_M_attributeEnd_117 (by decide) ?_
          show am_G X mt_M_attributeEnd _ 119 [some (.ref 84), some (.int (nI (s + p))), some (.int (nI (s + L.length))), some (.int (nI (s + (aE L p)))), some (.int 0), some (.int (nI (s + (aE L p)))), some (.int (nI (s + (aE L p)))), some (.int (nI (s + (aE L p)))), none] [] _ _
          refine g_iload_n (pc := 119) dc_M_attributeEnd_119 rfl ?_
          refine g_istore (pc := 120) dc_M_attributeEnd_120 (by decide) ?_
          show am_G X mt_M_attributeEnd _ 122 [some (.ref 84), some (.int (nI (s + p))), some (.int (nI (s + L.length))), some (.int (nI (s + (aE L p)))), some (.int 0), some (.int (nI (s + (aE L p)))), some (.int (nI (s + (aE L p)))), some (.int (nI (s + (aE L p)))), some (.int (nI (s + (aE L p))))] [] _ _
          refine am_wk (am_le_s (am_le_n (am_le_s (am_le_n (am_le_s (am_le_s (am_le_s (am_le_s (am_le_s am_le_0))))))))) ?_
          refine am_G.mono (u_M_attributeEnd (d := d + 1) (S := (S.s_hasHref true)) (hb := false) hA hX hs hp rfl) (fun r h1 hz => ?_)
          obtain ⟨hz1, hz2⟩ := hz
          refine ⟨hz1, ?_⟩
          rw [hz2]
          exact ⟨true, S.hrefFrom, S.hrefEnd, rfl, rfl, fun q9 hq9 => hQ.2 q9 hq9⟩
        | none =>
          have e9 : S.hasHref = false := hQ.1
          refine g_aload_n (pc := 60) dc_M_attributeEnd_60 rfl ?_
          refine g_getfield (pc := 61) (v := .int (b1 false)) dc_M_attributeEnd_61 fl_M_272 (mp_o hA) (congrArg (fun z => some (Value.int (b1 z))) e9) ?_
          refine q_ifb_ne (pc := 64) (tgt := 86) dc_M_attributeEnd_64 rfl (fun hc => absurd hc (by decide)) (fun hc64 => ?_)
          refine g_aload_n (pc := 67) dc_M_attributeEnd_67 rfl ?_
          refine g_getfield (pc := 68) dc_M_attributeEnd_68 fl_M_140 (mp_o hA) rfl ?_
          refine g_iload_n (pc := 71) dc_M_attributeEnd_71 rfl ?_
          refine g_iload_n (pc := 72) dc_M_attributeEnd_72 rfl ?_
          refine g_ldcwS (pc := 73) 37 dc_M_attributeEnd_73 (by decide) rfl rfl ?_
          refine g_s4 (pc := 76) (M' := mt_M_isWord) dc_M_attributeEnd_76 mo_M_isWord st_M_isWord ln_M_83 (Nat.le_of_ble_eq_true rfl) (Nat.le_of_ble_eq_true rfl) (am_G.mono (t_M_isWord (i := 37) (f := p) (t := aE L p) (tt_txt hA hX hs) (by decide) (by omega) (by omega)) ?_)
          intro r h1 hz
          rw [hz.1, hz.2, isw_hr]
          clear hz h1 r
          refine ⟨am_nti _, ?_⟩
          refine q_ifb_eq (pc := 79) (tgt := 86) dc_M_attributeEnd_79 rfl (fun hc79 => ?_) (fun hc79 => ?_)
          · refine g_iconst (pc := 86) (v := 0) dc_M_attributeEnd_86 rfl ?_
            refine g_istore (pc := 87) dc_M_attributeEnd_87 (by decide) ?_
            show am_G X mt_M_attributeEnd _ 89 [some (.ref 84), some (.int (nI (s + p))), some (.int (nI (s + L.length))), some (.int (nI (s + (aE L p)))), some (.int 0), none, none, none, none] [] _ _
            refine g_aload_n (pc := 89) dc_M_attributeEnd_89 rfl ?_
            refine g_aload_n (pc := 90) dc_M_attributeEnd_90 rfl ?_
            refine g_getfield (pc := 91) (v := .int (b1 false)) dc_M_attributeEnd_91 fl_M_272 (mp_o hA) (congrArg (fun z => some (Value.int (b1 z))) e9) ?_
            refine q_ifb_ne (pc := 94) (tgt := 102) dc_M_attributeEnd_94 rfl (fun hc => absurd hc (by decide)) (fun hc94 => ?_)
            refine g_iload (pc := 97) dc_M_attributeEnd_97 rfl ?_
            refine g_if_eq (pc := 99) (tgt := 106) dc_M_attributeEnd_99 rfl (fun _ => ?_) (fun hc => absurd hc (by decide))
            refine g_iconst (pc := 106) (v := 0) dc_M_attributeEnd_106 rfl ?_
            refine pf_hasHref (pc := 107) (v := false) hA dc_M_attributeEnd_107 fp_M_attributeEnd_272 ?_
            refine g_iload_n (pc := 110) dc_M_attributeEnd_110 rfl ?_
            refine g_istore (pc := 111) dc_M_attributeEnd_111 (by decide) ?_
            show am_G X mt_M_attributeEnd _ 113 [some (.ref 84), some (.int (nI (s + p))), some (.int (nI (s + L.length))), some (.int (nI (s + (aE L p)))), some (.int 0), some (.int (nI (s + (aE L p)))), none, none, none] [] _ _
            refine g_iload_n (pc := 113) dc_M_attributeEnd_113 rfl ?_
            refine g_istore (pc := 114) dc_M_attributeEnd_114 (by decide) ?_
            show am_G X mt_M_attributeEnd _ 116 [some (.ref 84), some (.int (nI (s + p))), some (.int (nI (s + L.length))), some (.int (nI (s + (aE L p)))), some (.int 0), some (.int (nI (s + (aE L p)))), some (.int (nI (s + (aE L p)))), none, none] [] _ _
            refine g_iload_n (pc := 116) dc_M_attributeEnd_116 rfl ?_
            refine g_istore (pc := 117) dc_M_attributeEnd_117 (by decide) ?_
            show am_G X mt_M_attributeEnd _ 119 [some (.ref 84), some (.int (nI (s + p))), some (.int (nI (s + L.length))), some (.int (nI (s + (aE L p)))), some (.int 0), some (.int (nI (s + (aE L p)))), some (.int (nI (s + (aE L p)))), some (.int (nI (s + (aE L p)))), none] [] _ _
            refine g_iload_n (pc := 119) dc_M_attributeEnd_119 rfl ?_
            refine g_istore (pc := 120) dc_M_attributeEnd_120 (by decide) ?_
            show am_G X mt_M_attributeEnd _ 122 [some (.ref 84), some (.int (nI (s + p))), some (.int (nI (s + L.length))), some (.int (nI (s + (aE L p)))), some (.int 0), some (.int (nI (s + (aE L p)))), some (.int (nI (s + (aE L p)))), some (.int (nI (s + (aE L p)))), some (.int (nI (s + (aE L p))))] [] _ _
            refine am_wk (am_le_s (am_le_n (am_le_s (am_le_n (am_le_s (am_le_s (am_le_s (am_le_s (am_le_s am_le_0))))))))) ?_
            refine am_G.mono (u_M_attributeEnd (d := d + 1) (S := (S.s_hasHref false)) (hb := false) hA hX hs hp rfl) (fun r h1 hz => ?_)
            obtain ⟨hz1, hz2⟩ := hz
            refine ⟨hz1, ?_⟩
            rw [hz2]
            exact ⟨false, S.hrefFrom, S.hrefEnd, rfl, by show hqS _ s (if isw 20 L p (aE L p) = true then some _ else none); rw [if_neg (by rw [hc79]; decide)]; exact ⟨rfl, fun q9 hq9 => by cases hq9⟩⟩
          · refine g_iconst (pc := 82) (v := 1) dc_M_attributeEnd_82 rfl ?_
            refine g_goto (pc := 83) (tgt := 87) dc_M_attributeEnd_83 rfl ?_
            refine g_istore (pc := 87) dc_M_attributeEnd_87 (by decide) ?_
            show am_G X mt_M_attributeEnd _ 89 [some (.ref 84), some (.int (nI (s + p))), some (.int (nI (s + L.length))), some (.int (nI (s + (aE L p)))), some (.int 1), none, none, none, none] [] _ _
            refine g_aload_n (pc := 89) dc_M_attributeEnd_89 rfl ?_
            refine g_aload_n (pc := 90) dc_M_attributeEnd_90 rfl ?_
            refine g_getfield (pc := 91) (v := .int (b1 false)) dc_M_attributeEnd_91 fl_M_272 (mp_o hA) (congrArg (fun z => some (Value.int (b1 z))) e9) ?_
            refine q_ifb_ne (pc := 94) (tgt := 102) dc_M_attributeEnd_94 rfl (fun hc => absurd hc (by decide)) (fun hc94 => ?_)
            refine g_iload (pc := 97) dc_M_attributeEnd_97 rfl ?_
            refine g_if_eq (pc := 99) (tgt := 106) dc_M_attributeEnd_99 rfl (fun hc => absurd hc (by decide)) (fun _ => ?_)
            refine g_iconst (pc := 102) (v := 1) dc_M_attributeEnd_102 rfl ?_
            refine g_goto (pc := 103) (tgt := 107) dc_M_attributeEnd_103 rfl ?_
            refine pf_hasHref (pc := 107) (v := true) hA dc_M_attributeEnd_107 fp_M_attributeEnd_272 ?_
            refine g_iload_n (pc := 110) dc_M_attributeEnd_110 rfl ?_
            refine g_istore (pc := 111) dc_M_attributeEnd_111 (by decide) ?_
            show am_G X mt_M_attributeEnd _ 113 [some (.ref 84), some (.int (nI (s + p))), some (.int (nI (s + L.length))), some (.int (nI (s + (aE L p)))), some (.int 1), some (.int (nI (s + (aE L p)))), none, none, none] [] _ _
            refine g_iload_n (pc := 113) dc_M_attributeEnd_113 rfl ?_
            refine g_istore (pc := 114) dc_M_attributeEnd_114 (by decide) ?_
            show am_G X mt_M_attributeEnd _ 116 [some (.ref 84), some (.int (nI (s + p))), some (.int (nI (s + L.length))), some (.int (nI (s + (aE L p)))), some (.int 1), some (.int (nI (s + (aE L p)))), some (.int (nI (s + (aE L p)))), none, none] [] _ _
            refine g_iload_n (pc := 116) dc_M_attributeEnd_116 rfl ?_
            refine g_istore (pc := 117) dc_M_attributeEnd_117 (by decide) ?_
            show am_G X mt_M_attributeEnd _ 119 [some (.ref 84), some (.int (nI (s + p))), some (.int (nI (s + L.length))), some (.int (nI (s + (aE L p)))), some (.int 1), some (.int (nI (s + (aE L p)))), some (.int (nI (s + (aE L p)))), some (.int (nI (s + (aE L p)))), none] [] _ _
            refine g_iload_n (pc := 119) dc_M_attributeEnd_119 rfl ?_
            refine g_istore (pc := 120) dc_M_attributeEnd_120 (by decide) ?_
            show am_G X mt_M_attributeEnd _ 122 [some (.ref 84), some (.int (nI (s + p))), some (.int (nI (s + L.length))), some (.int (nI (s + (aE L p)))), some (.int 1), some (.int (nI (s + (aE L p)))), some (.int (nI (s + (aE L p)))), some (.int (nI (s + (aE L p)))), some (.int (nI (s + (aE L p))))] [] _ _
            refine am_wk (am_le_s (am_le_n (am_le_s (am_le_n (am_le_s (am_le_s (am_le_s (am_le_s (am_le_s am_le_0))))))))) ?_
            refine am_G.mono (u_M_attributeEnd (d := d + 1) (S := (S.s_hasHref true)) (hb := true) hA hX hs hp rfl) (fun r h1 hz => ?_)
            obtain ⟨hz1, hz2⟩ := hz
            refine ⟨hz1, ?_⟩
            rw [hz2]
            exact ⟨true, s + (atr L p).2.1, s + (atr L p).2.2, rfl, by show hqS _ s (if isw 20 L p (aE L p) = true then some _ else none); rw [if_pos hc79]; exact ⟨rfl, fun q hq9 => by cases hq9; exact ⟨rfl, rfl⟩⟩⟩
      · refine g_aload_n (pc := 32) dc_M_attributeEnd_32 rfl ?_
        refine g_getfield (pc := 33) dc_M_attributeEnd_33 fl_M_140 (mp_o hA) rfl ?_
        refine g_iload_n (pc := 36) dc_M_attributeEnd_36 rfl ?_
        refine q_tx (pc := 37) (aE L p) dc_M_attributeEnd_37 (mp_a hA 12 rfl) hX hs (by omega) (by omega) ?_
        refine g_bipush (pc := 38) (v := 62) dc_M_attributeEnd_38 rfl ?_
        refine g_icmp_eq (pc := 40) (tgt := 60) dc_M_attributeEnd_40 rfl (fun hc40 => ?_) (fun hc40 => ?_)
        · cases hq with
          | some q =>
            have e9 : S.hasHref = true := hQ.1
            refine g_aload_n (pc := 60) dc_M_attributeEnd_60 rfl ?_
            refine g_getfield (pc := 61) (v := .int (b1 true)) dc_M_attributeEnd_61 fl_M_272 (mp_o hA) (congrArg (fun z => some (Value.int (b1 z))) e9) ?_
            refine q_ifb_ne (pc := 64) (tgt := 86) dc_M_attributeEnd_64 rfl (fun hc64 => ?_) (fun hc => absurd hc (by decide))
            refine g_iconst (pc := 86) (v := 0) dc_M_attributeEnd_86 rfl ?_
            refine g_istore (pc := 87) dc_M_attributeEnd_87 (by decide) ?_
            show am_G X mt_M_attributeEnd _ 89 [some (.ref 84), some (.int (nI (s + p))), some (.int (nI (s + L.length))), some (.int (nI (s + (aE L p)))), some (.int 0), none, none, none, none] [] _ _
            refine g_aload_n (pc := 89) dc_M_attributeEnd_89 rfl ?_
            refine g_aload_n (pc := 90) dc_M_attributeEnd_90 rfl ?_
            refine g_getfield (pc := 91) (v := .int (b1 true)) dc_M_attributeEnd_91 fl_M_272 (mp_o hA) (congrArg (fun z => some (Value.int (b1 z))) e9) ?_
            refine q_ifb_ne (pc := 94) (tgt := 102) dc_M_attributeEnd_94 rfl (fun hc94 => ?_) (fun hc => absurd hc (by decide))
            refine g_iconst (pc := 102) (v := 1) dc_M_attributeEnd_102 rfl ?_
            refine g_goto (pc := 103) (tgt := 107) dc_M_attributeEnd_103 rfl ?_
            refine pf_hasHref (pc := 107) (v := true) hA dc_M_attributeEnd_107 fp_M_attributeEnd_272 ?_
            refine g_iload_n (pc := 110) dc_M_attributeEnd_110 rfl ?_
            refine g_istore (pc := 111) dc_M_attributeEnd_111 (by decide) ?_
            show am_G X mt_M_attributeEnd _ 113 [some (.ref 84), some (.int (nI (s + p))), some (.int (nI (s + L.length))), some (.int (nI (s + (aE L p)))), some (.int 0), some (.int (nI (s + (aE L p)))), none, none, none] [] _ _
            refine g_iload_n (pc := 113) dc_M_attributeEnd_113 rfl ?_
            refine g_istore (pc := 114) dc_M_attributeEnd_114 (by decide) ?_
            show am_G X mt_M_attributeEnd _ 116 [some (.ref 84), some (.int (nI (s + p))), some (.int (nI (s + L.length))), some (.int (nI (s + (aE L p)))), some (.int 0), some (.int (nI (s + (aE L p)))), some (.int (nI (s + (aE L p)))), none, none] [] _ _
            refine g_iload_n (pc := 116) dc_M_attributeEnd_116 rfl ?_
            refine g_istore (pc := 117) dc_M_attributeEnd_117 (by decide) ?_
            show am_G X mt_M_attributeEnd _ 119 [some (.ref 84), some (.int (nI (s + p))), some (.int (nI (s + L.length))), some (.int (nI (s + (aE L p)))), some (.int 0), some (.int (nI (s + (aE L p)))), some (.int (nI (s + (aE L p)))), some (.int (nI (s + (aE L p)))), none] [] _ _
            refine g_iload_n (pc := 119) dc_M_attributeEnd_119 rfl ?_
            refine g_istore (pc := 120) dc_M_attributeEnd_120 (by decide) ?_
            show am_G X mt_M_attributeEnd _ 122 [some (.ref 84), some (.int (nI (s + p))), some (.int (nI (s + L.length))), some (.int (nI (s + (aE L p)))), some (.int 0), some (.int (nI (s + (aE L p)))), some (.int (nI (s + (aE L p)))), some (.int (nI (s + (aE L p)))), some (.int (nI (s + (aE L p))))] [] _ _
            refine am_wk (am_le_s (am_le_n (am_le_s (am_le_n (am_le_s (am_le_s (am_le_s (am_le_s (am_le_s am_le_0))))))))) ?_
            refine am_G.mono (u_M_attributeEnd (d := d + 1) (S := (S.s_hasHref true)) (hb := false) hA hX hs hp rfl) (fun r h1 hz => ?_)
            obtain ⟨hz1, hz2⟩ := hz
            refine ⟨hz1, ?_⟩
            rw [hz2]
            exact ⟨true, S.hrefFrom, S.hrefEnd, rfl, rfl, fun q9 hq9 => hQ.2 q9 hq9⟩
          | none =>
            have e9 : S.hasHref = false := hQ.1
            refine g_aload_n (pc := 60) dc_M_attributeEnd_60 rfl ?_
            refine g_getfield (pc := 61) (v := .int (b1 false)) dc_M_attributeEnd_61 fl_M_272 (mp_o hA) (congrArg (fun z => some (Value.int (b1 z))) e9) ?_
            refine q_ifb_ne (pc := 64) (tgt := 86) dc_M_attributeEnd_64 rfl (fun hc => absurd hc (by decide)) (fun hc64 => ?_)
            refine g_aload_n (pc := 67) dc_M_attributeEnd_67 rfl ?_
            refine g_getfield (pc := 68) dc_M_attributeEnd_68 fl_M_140 (mp_o hA) rfl ?_
            refine g_iload_n (pc := 71) dc_M_attributeEnd_71 rfl ?_
            refine g_iload_n (pc := 72) dc_M_attributeEnd_72 rfl ?_
            refine g_ldcwS (pc := 73) 37 dc_M_attributeEnd_73 (by decide) rfl rfl ?_
            refine g_s4 (pc := 76) (M' := mt_M_isWord) dc_M_attributeEnd_76 mo_M_isWord st_M_isWord ln_M_83 (Nat.le_of_ble_eq_true rfl) (Nat.le_of_ble_eq_true rfl) (am_G.mono (t_M_isWord (i := 37) (f := p) (t := aE L p) (tt_txt hA hX hs) (by decide) (by omega) (by omega)) ?_)
            intro r h1 hz
            rw [hz.1, hz.2, isw_hr]
            clear hz h1 r
            refine ⟨am_nti _, ?_⟩
            refine q_ifb_eq (pc := 79) (tgt := 86) dc_M_attributeEnd_79 rfl (fun hc79 => ?_) (fun hc79 => ?_)
            · refine g_iconst (pc := 86) (v := 0) dc_M_attributeEnd_86 rfl ?_
              refine g_istore (pc := 87) dc_M_attributeEnd_87 (by decide) ?_
              show am_G X mt_M_attributeEnd _ 89 [some (.ref 84), some (.int (nI (s + p))), some (.int (nI (s + L.length))), some (.int (nI (s + (aE L p)))), some (.int 0), none, none, none, none] [] _ _
              refine g_aload_n (pc := 89) dc_M_attributeEnd_89 rfl ?_
              refine g_aload_n (pc := 90) dc_M_attributeEnd_90 rfl ?_
              refine g_getfield (pc := 91) (v := .int (b1 false)) dc_M_attributeEnd_91 fl_M_272 (mp_o hA) (congrArg (fun z => some (Value.int (b1 z))) e9) ?_
              refine q_ifb_ne (pc := 94) (tgt := 102) dc_M_attributeEnd_94 rfl (fun hc => absurd hc (by decide)) (fun hc94 => ?_)
              refine g_iload (pc := 97) dc_M_attributeEnd_97 rfl ?_
              refine g_if_eq (pc := 99) (tgt := 106) dc_M_attributeEnd_99 rfl (fun _ => ?_) (fun hc => absurd hc (by decide))
              refine g_iconst (pc := 106) (v := 0) dc_M_attributeEnd_106 rfl ?_
              refine pf_hasHref (pc := 107) (v := false) hA dc_M_attributeEnd_107 fp_M_attributeEnd_272 ?_
              refine g_iload_n (pc := 110) dc_M_attributeEnd_110 rfl ?_
              refine g_istore (pc := 111) dc_M_attributeEnd_111 (by decide) ?_
              show am_G X mt_M_attributeEnd _ 113 [some (.ref 84), some (.int (nI (s + p))), some (.int (nI (s + L.length))), some (.int (nI (s + (aE L p)))), some (.int 0), some (.int (nI (s + (aE L p)))), none, none, none] [] _ _
              refine g_iload_n (pc := 113) dc_M_attributeEnd_113 rfl ?_
              refine g_istore (pc := 114) dc_M_attributeEnd_114 (by decide) ?_
              show am_G X mt_M_attributeEnd _ 116 [some (.ref 84), some (.int (nI (s + p))), some (.int (nI (s + L.length))), some (.int (nI (s + (aE L p)))), some (.int 0), some (.int (nI (s + (aE L p)))), some (.int (nI (s + (aE L p)))), none, none] [] _ _
              refine g_iload_n (pc := 116) dc_M_attributeEnd_116 rfl ?_
              refine g_istore (pc := 117) dc_M_attributeEnd_117 (by decide) ?_
              show am_G X mt_M_attributeEnd _ 119 [some (.ref 84), some (.int (nI (s + p))), some (.int (nI (s + L.length))), some (.int (nI (s + (aE L p)))), some (.int 0), some (.int (nI (s + (aE L p)))), some (.int (nI (s + (aE L p)))), some (.int (nI (s + (aE L p)))), none] [] _ _
              refine g_iload_n (pc := 119) dc_M_attributeEnd_119 rfl ?_
              refine g_istore (pc := 120) dc_M_attributeEnd_120 (by decide) ?_
              show am_G X mt_M_attributeEnd _ 122 [some (.ref 84), some (.int (nI (s + p))), some (.int (nI (s + L.length))), some (.int (nI (s + (aE L p)))), some (.int 0), some (.int (nI (s + (aE L p)))), some (.int (nI (s + (aE L p)))), some (.int (nI (s + (aE L p)))), some (.int (nI (s + (aE L p))))] [] _ _
              refine am_wk (am_le_s (am_le_n (am_le_s (am_le_n (am_le_s (am_le_s (am_le_s (am_le_s (am_le_s am_le_0))))))))) ?_
              refine am_G.mono (u_M_attributeEnd (d := d + 1) (S := (S.s_hasHref false)) (hb := false) hA hX hs hp rfl) (fun r h1 hz => ?_)
              obtain ⟨hz1, hz2⟩ := hz
              refine ⟨hz1, ?_⟩
              rw [hz2]
              exact ⟨false, S.hrefFrom, S.hrefEnd, rfl, by show hqS _ s (if isw 20 L p (aE L p) = true then some _ else none); rw [if_neg (by rw [hc79]; decide)]; exact ⟨rfl, fun q9 hq9 => by cases hq9⟩⟩
            · refine g_iconst (pc := 82) (v := 1) dc_M_attributeEnd_82 rfl ?_
              refine g_goto (pc := 83) (tgt := 87) dc_M_attributeEnd_83 rfl ?_
              refine g_istore (pc := 87) dc_M_attributeEnd_87 (by decide) ?_
              show am_G X mt_M_attributeEnd _ 89 [some (.ref 84), some (.int (nI (s + p))), some (.int (nI (s + L.length))), some (.int (nI (s + (aE L p)))), some (.int 1), none, none, none, none] [] _ _
              refine g_aload_n (pc := 89) dc_M_attributeEnd_89 rfl ?_
              refine g_aload_n (pc := 90) dc_M_attributeEnd_90 rfl ?_
              refine g_getfield (pc := 91) (v := .int (b1 false)) dc_M_attributeEnd_91 fl_M_272 (mp_o hA) (congrArg (fun z => some (Value.int (b1 z))) e9) ?_
              refine q_ifb_ne (pc := 94) (tgt := 102) dc_M_attributeEnd_94 rfl (fun hc => absurd hc (by decide)) (fun hc94 => ?_)
              refine g_iload (pc := 97) dc_M_attributeEnd_97 rfl ?_
              refine g_if_eq (pc := 99) (tgt := 106) dc_M_attributeEnd_99 rfl (fun hc => absurd hc (by decide)) (fun _ => ?_)
              refine g_iconst (pc := 102) (v := 1) dc_M_attributeEnd_102 rfl ?_
              refine g_goto (pc := 103) (tgt := 107) dc_M_attributeEnd_103 rfl ?_
              refine pf_hasHref (pc := 107) (v := true) hA dc_M_attributeEnd_107 fp_M_attributeEnd_272 ?_
              refine g_iload_n (pc := 110) dc_M_attributeEnd_110 rfl ?_
              refine g_istore (pc := 111) dc_M_attributeEnd_111 (by decide) ?_
              show am_G X mt_M_attributeEnd _ 113 [some (.ref 84), some (.int (nI (s + p))), some (.int (nI (s + L.length))), some (.int (nI (s + (aE L p)))), some (.int 1), some (.int (nI (s + (aE L p)))), none, none, none] [] _ _
              refine g_iload_n (pc := 113) dc_M_attributeEnd_113 rfl ?_
              refine g_istore (pc := 114) dc_M_attributeEnd_114 (by decide) ?_
              show am_G X mt_M_attributeEnd _ 116 [some (.ref 84), some (.int (nI (s + p))), some (.int (nI (s + L.length))), some (.int (nI (s + (aE L p)))), some (.int 1), some (.int (nI (s + (aE L p)))), some (.int (nI (s + (aE L p)))), none, none] [] _ _
              refine g_iload_n (pc := 116) dc_M_attributeEnd_116 rfl ?_
              refine g_istore (pc := 117) dc_M_attributeEnd_117 (by decide) ?_
              show am_G X mt_M_attributeEnd _ 119 [some (.ref 84), some (.int (nI (s + p))), some (.int (nI (s + L.length))), some (.int (nI (s + (aE L p)))), some (.int 1), some (.int (nI (s + (aE L p)))), some (.int (nI (s + (aE L p)))), some (.int (nI (s + (aE L p)))), none] [] _ _
              refine g_iload_n (pc := 119) dc_M_attributeEnd_119 rfl ?_
              refine g_istore (pc := 120) dc_M_attributeEnd_120 (by decide) ?_
              show am_G X mt_M_attributeEnd _ 122 [some (.ref 84), some (.int (nI (s + p))), some (.int (nI (s + L.length))), some (.int (nI (s + (aE L p)))), some (.int 1), some (.int (nI (s + (aE L p)))), some (.int (nI (s + (aE L p)))), some (.int (nI (s + (aE L p)))), some (.int (nI (s + (aE L p))))] [] _ _
              refine am_wk (am_le_s (am_le_n (am_le_s (am_le_n (am_le_s (am_le_s (am_le_s (am_le_s (am_le_s am_le_0))))))))) ?_
              refine am_G.mono (u_M_attributeEnd (d := d + 1) (S := (S.s_hasHref true)) (hb := true) hA hX hs hp rfl) (fun r h1 hz => ?_)
              obtain ⟨hz1, hz2⟩ := hz
              refine ⟨hz1, ?_⟩
              rw [hz2]
              exact ⟨true, s + (atr L p).2.1, s + (atr L p).2.2, rfl, by show hqS _ s (if isw 20 L p (aE L p) = true then some _ else none); rw [if_pos hc79]; exact ⟨rfl, fun q hq9 => by cases hq9; exact ⟨rfl, rfl⟩⟩⟩
        · refine g_aload_n (pc := 43) dc_M_attributeEnd_43 rfl ?_
          refine g_getfield (pc := 44) dc_M_attributeEnd_44 fl_M_140 (mp_o hA) rfl ?_
          refine g_iload_n (pc := 47) dc_M_attributeEnd_47 rfl ?_
          refine q_tx (pc := 48) (aE L p) dc_M_attributeEnd_48 (mp_a hA 12 rfl) hX hs (by omega) (by omega) ?_
          refine g_bipush (pc := 49) (v := 61) dc_M_attributeEnd_49 rfl ?_
          refine g_icmp_eq (pc := 51) (tgt := 60) dc_M_attributeEnd_51 rfl (fun hc51 => ?_) (fun hc51 => ?_)
          · cases hq with
            | some q =>
              have e9 : S.hasHref = true := hQ.1
              refine g_aload_n (pc := 60) dc_M_attributeEnd_60 rfl ?_
              refine g_getfield (pc := 61) (v := .int (b1 true)) dc_M_attributeEnd_61 fl_M_272 (mp_o hA) (congrArg (fun z => some (Value.int (b1 z))) e9) ?_
              refine q_ifb_ne (pc := 64) (tgt := 86) dc_M_attributeEnd_64 rfl (fun hc64 => ?_) (fun hc => absurd hc (by decide))
              refine g_iconst (pc := 86) (v := 0) dc_M_attributeEnd_86 rfl ?_
              refine g_istore (pc := 87) dc_M_attributeEnd_87 (by decide) ?_
              show am_G X mt_M_attributeEnd _ 89 [some (.ref 84), some (.int (nI (s + p))), some (.int (nI (s + L.length))), some (.int (nI (s + (aE L p)))), some (.int 0), none, none, none, none] [] _ _
              refine g_aload_n (pc := 89) dc_M_attributeEnd_89 rfl ?_
              refine g_aload_n (pc := 90) dc_M_attributeEnd_90 rfl ?_
              refine g_getfield (pc := 91) (v := .int (b1 true)) dc_M_attributeEnd_91 fl_M_272 (mp_o hA) (congrArg (fun z => some (Value.int (b1 z))) e9) ?_
              refine q_ifb_ne (pc := 94) (tgt := 102) dc_M_attributeEnd_94 rfl (fun hc94 => ?_) (fun hc => absurd hc (by decide))
              refine g_iconst (pc := 102) (v := 1) dc_M_attributeEnd_102 rfl ?_
              refine g_goto (pc := 103) (tgt := 107) dc_M_attributeEnd_103 rfl ?_
              refine pf_hasHref (pc := 107) (v := true) hA dc_M_attributeEnd_107 fp_M_attributeEnd_272 ?_
              refine g_iload_n (pc := 110) dc_M_attributeEnd_110 rfl ?_
              refine g_istore (pc := 111) dc_M_attributeEnd_111 (by decide) ?_
              show am_G X mt_M_attributeEnd _ 113 [some (.ref 84), some (.int (nI (s + p))), some (.int (nI (s + L.length))), some (.int (nI (s + (aE L p)))), some (.int 0), some (.int (nI (s + (aE L p)))), none, none, none] [] _ _
              refine g_iload_n (pc := 113) dc_M_attributeEnd_113 rfl ?_
              refine g_istore (pc := 114) dc_M_attributeEnd_114 (by decide) ?_
              show am_G X mt_M_attributeEnd _ 116 [some (.ref 84), some (.int (nI (s + p))), some (.int (nI (s + L.length))), some (.int (nI (s + (aE L p)))), some (.int 0), some (.int (nI (s + (aE L p)))), some (.int (nI (s + (aE L p)))), none, none] [] _ _
              refine g_iload_n (pc := 116) dc_M_attributeEnd_116 rfl ?_
              refine g_istore (pc := 117) dc_M_attributeEnd_117 (by decide) ?_
              show am_G X mt_M_attributeEnd _ 119 [some (.ref 84), some (.int (nI (s + p))), some (.int (nI (s + L.length))), some (.int (nI (s + (aE L p)))), some (.int 0), some (.int (nI (s + (aE L p)))), some (.int (nI (s + (aE L p)))), some (.int (nI (s + (aE L p)))), none] [] _ _
              refine g_iload_n (pc := 119) dc_M_attributeEnd_119 rfl ?_
              refine g_istore (pc := 120) dc_M_attributeEnd_120 (by decide) ?_
              show am_G X mt_M_attributeEnd _ 122 [some (.ref 84), some (.int (nI (s + p))), some (.int (nI (s + L.length))), some (.int (nI (s + (aE L p)))), some (.int 0), some (.int (nI (s + (aE L p)))), some (.int (nI (s + (aE L p)))), some (.int (nI (s + (aE L p)))), some (.int (nI (s + (aE L p))))] [] _ _
              refine am_wk (am_le_s (am_le_n (am_le_s (am_le_n (am_le_s (am_le_s (am_le_s (am_le_s (am_le_s am_le_0))))))))) ?_
              refine am_G.mono (u_M_attributeEnd (d := d + 1) (S := (S.s_hasHref true)) (hb := false) hA hX hs hp rfl) (fun r h1 hz => ?_)
              obtain ⟨hz1, hz2⟩ := hz
              refine ⟨hz1, ?_⟩
              rw [hz2]
              exact ⟨true, S.hrefFrom, S.hrefEnd, rfl, rfl, fun q9 hq9 => hQ.2 q9 hq9⟩
            | none =>
              have e9 : S.hasHref = false := hQ.1
              refine g_aload_n (pc := 60) dc_M_attributeEnd_60 rfl ?_
              refine g_getfield (pc := 61) (v := .int (b1 false)) dc_M_attributeEnd_61 fl_M_272 (mp_o hA) (congrArg (fun z => some (Value.int (b1 z))) e9) ?_
              refine q_ifb_ne (pc := 64) (tgt := 86) dc_M_attributeEnd_64 rfl (fun hc => absurd hc (by decide)) (fun hc64 => ?_)
              refine g_aload_n (pc := 67) dc_M_attributeEnd_67 rfl ?_
              refine g_getfield (pc := 68) dc_M_attributeEnd_68 fl_M_140 (mp_o hA) rfl ?_
              refine g_iload_n (pc := 71) dc_M_attributeEnd_71 rfl ?_
              refine g_iload_n (pc := 72) dc_M_attributeEnd_72 rfl ?_
              refine g_ldcwS (pc := 73) 37 dc_M_attributeEnd_73 (by decide) rfl rfl ?_
              refine g_s4 (pc := 76) (M' := mt_M_isWord) dc_M_attributeEnd_76 mo_M_isWord st_M_isWord ln_M_83 (Nat.le_of_ble_eq_true rfl) (Nat.le_of_ble_eq_true rfl) (am_G.mono (t_M_isWord (i := 37) (f := p) (t := aE L p) (tt_txt hA hX hs) (by decide) (by omega) (by omega)) ?_)
              intro r h1 hz
              rw [hz.1, hz.2, isw_hr]
              clear hz h1 r
              refine ⟨am_nti _, ?_⟩
              refine q_ifb_eq (pc := 79) (tgt := 86) dc_M_attributeEnd_79 rfl (fun hc79 => ?_) (fun hc79 => ?_)
              · refine g_iconst (pc := 86) (v := 0) dc_M_attributeEnd_86 rfl ?_
                refine g_istore (pc := 87) dc_M_attributeEnd_87 (by decide) ?_
                show am_G X mt_M_attributeEnd _ 89 [some (.ref 84), some (.int (nI (s + p))), some (.int (nI (s + L.length))), some (.int (nI (s + (aE L p)))), some (.int 0), none, none, none, none] [] _ _
                refine g_aload_n (pc := 89) dc_M_attributeEnd_89 rfl ?_
                refine g_aload_n (pc := 90) dc_M_attributeEnd_90 rfl ?_
                refine g_getfield (pc := 91) (v := .int (b1 false)) dc_M_attributeEnd_91 fl_M_272 (mp_o hA) (congrArg (fun z => some (Value.int (b1 z))) e9) ?_
                refine q_ifb_ne (pc := 94) (tgt := 102) dc_M_attributeEnd_94 rfl (fun hc => absurd hc (by decide)) (fun hc94 => ?_)
                refine g_iload (pc := 97) dc_M_attributeEnd_97 rfl ?_
                refine g_if_eq (pc := 99) (tgt := 106) dc_M_attributeEnd_99 rfl (fun _ => ?_) (fun hc => absurd hc (by decide))
                refine g_iconst (pc := 106) (v := 0) dc_M_attributeEnd_106 rfl ?_
                refine pf_hasHref (pc := 107) (v := false) hA dc_M_attributeEnd_107 fp_M_attributeEnd_272 ?_
                refine g_iload_n (pc := 110) dc_M_attributeEnd_110 rfl ?_
                refine g_istore (pc := 111) dc_M_attributeEnd_111 (by decide) ?_
                show am_G X mt_M_attributeEnd _ 113 [some (.ref 84), some (.int (nI (s + p))), some (.int (nI (s + L.length))), some (.int (nI (s + (aE L p)))), some (.int 0), some (.int (nI (s + (aE L p)))), none, none, none] [] _ _
                refine g_iload_n (pc := 113) dc_M_attributeEnd_113 rfl ?_
                refine g_istore (pc := 114) dc_M_attributeEnd_114 (by decide) ?_
                show am_G X mt_M_attributeEnd _ 116 [some (.ref 84), some (.int (nI (s + p))), some (.int (nI (s + L.length))), some (.int (nI (s + (aE L p)))), some (.int 0), some (.int (nI (s + (aE L p)))), some (.int (nI (s + (aE L p)))), none, none] [] _ _
                refine g_iload_n (pc := 116) dc_M_attributeEnd_116 rfl ?_
                refine g_istore (pc := 117) dc_M_attributeEnd_117 (by decide) ?_
                show am_G X mt_M_attributeEnd _ 119 [some (.ref 84), some (.int (nI (s + p))), some (.int (nI (s + L.length))), some (.int (nI (s + (aE L p)))), some (.int 0), some (.int (nI (s + (aE L p)))), some (.int (nI (s + (aE L p)))), some (.int (nI (s + (aE L p)))), none] [] _ _
                refine g_iload_n (pc := 119) dc_M_attributeEnd_119 rfl ?_
                refine g_istore (pc := 120) dc_M_attributeEnd_120 (by decide) ?_
                show am_G X mt_M_attributeEnd _ 122 [some (.ref 84), some (.int (nI (s + p))), some (.int (nI (s + L.length))), some (.int (nI (s + (aE L p)))), some (.int 0), some (.int (nI (s + (aE L p)))), some (.int (nI (s + (aE L p)))), some (.int (nI (s + (aE L p)))), some (.int (nI (s + (aE L p))))] [] _ _
                refine am_wk (am_le_s (am_le_n (am_le_s (am_le_n (am_le_s (am_le_s (am_le_s (am_le_s (am_le_s am_le_0))))))))) ?_
                refine am_G.mono (u_M_attributeEnd (d := d + 1) (S := (S.s_hasHref false)) (hb := false) hA hX hs hp rfl) (fun r h1 hz => ?_)
                obtain ⟨hz1, hz2⟩ := hz
                refine ⟨hz1, ?_⟩
                rw [hz2]
                exact ⟨false, S.hrefFrom, S.hrefEnd, rfl, by show hqS _ s (if isw 20 L p (aE L p) = true then some _ else none); rw [if_neg (by rw [hc79]; decide)]; exact ⟨rfl, fun q9 hq9 => by cases hq9⟩⟩
              · refine g_iconst (pc := 82) (v := 1) dc_M_attributeEnd_82 rfl ?_
                refine g_goto (pc := 83) (tgt := 87) dc_M_attributeEnd_83 rfl ?_
                refine g_istore (pc := 87) dc_M_attributeEnd_87 (by decide) ?_
                show am_G X mt_M_attributeEnd _ 89 [some (.ref 84), some (.int (nI (s + p))), some (.int (nI (s + L.length))), some (.int (nI (s + (aE L p)))), some (.int 1), none, none, none, none] [] _ _
                refine g_aload_n (pc := 89) dc_M_attributeEnd_89 rfl ?_
                refine g_aload_n (pc := 90) dc_M_attributeEnd_90 rfl ?_
                refine g_getfield (pc := 91) (v := .int (b1 false)) dc_M_attributeEnd_91 fl_M_272 (mp_o hA) (congrArg (fun z => some (Value.int (b1 z))) e9) ?_
                refine q_ifb_ne (pc := 94) (tgt := 102) dc_M_attributeEnd_94 rfl (fun hc => absurd hc (by decide)) (fun hc94 => ?_)
                refine g_iload (pc := 97) dc_M_attributeEnd_97 rfl ?_
                refine g_if_eq (pc := 99) (tgt := 106) dc_M_attributeEnd_99 rfl (fun hc => absurd hc (by decide)) (fun _ => ?_)
                refine g_iconst (pc := 102) (v := 1) dc_M_attributeEnd_102 rfl ?_
                refine g_goto (pc := 103) (tgt := 107) dc_M_attributeEnd_103 rfl ?_
                refine pf_hasHref (pc := 107) (v := true) hA dc_M_attributeEnd_107 fp_M_attributeEnd_272 ?_
                refine g_iload_n (pc := 110) dc_M_attributeEnd_110 rfl ?_
                refine g_istore (pc := 111) dc_M_attributeEnd_111 (by decide) ?_
                show am_G X mt_M_attributeEnd _ 113 [some (.ref 84), some (.int (nI (s + p))), some (.int (nI (s + L.length))), some (.int (nI (s + (aE L p)))), some (.int 1), some (.int (nI (s + (aE L p)))), none, none, none] [] _ _
                refine g_iload_n (pc := 113) dc_M_attributeEnd_113 rfl ?_
                refine g_istore (pc := 114) dc_M_attributeEnd_114 (by decide) ?_
                show am_G X mt_M_attributeEnd _ 116 [some (.ref 84), some (.int (nI (s + p))), some (.int (nI (s + L.length))), some (.int (nI (s + (aE L p)))), some (.int 1), some (.int (nI (s + (aE L p)))), some (.int (nI (s + (aE L p)))), none, none] [] _ _
                refine g_iload_n (pc := 116) dc_M_attributeEnd_116 rfl ?_
                refine g_istore (pc := 117) dc_M_attributeEnd_117 (by decide) ?_
                show am_G X mt_M_attributeEnd _ 119 [some (.ref 84), some (.int (nI (s + p))), some (.int (nI (s + L.length))), some (.int (nI (s + (aE L p)))), some (.int 1), some (.int (nI (s + (aE L p)))), some (.int (nI (s + (aE L p)))), some (.int (nI (s + (aE L p)))), none] [] _ _
                refine g_iload_n (pc := 119) dc_M_attributeEnd_119 rfl ?_
                refine g_istore (pc := 120) dc_M_attributeEnd_120 (by decide) ?_
                show am_G X mt_M_attributeEnd _ 122 [some (.ref 84), some (.int (nI (s + p))), some (.int (nI (s + L.length))), some (.int (nI (s + (aE L p)))), some (.int 1), some (.int (nI (s + (aE L p)))), some (.int (nI (s + (aE L p)))), some (.int (nI (s + (aE L p)))), some (.int (nI (s + (aE L p))))] [] _ _
                refine am_wk (am_le_s (am_le_n (am_le_s (am_le_n (am_le_s (am_le_s (am_le_s (am_le_s (am_le_s am_le_0))))))))) ?_
                refine am_G.mono (u_M_attributeEnd (d := d + 1) (S := (S.s_hasHref true)) (hb := true) hA hX hs hp rfl) (fun r h1 hz => ?_)
                obtain ⟨hz1, hz2⟩ := hz
                refine ⟨hz1, ?_⟩
                rw [hz2]
                exact ⟨true, s + (atr L p).2.1, s + (atr L p).2.2, rfl, by show hqS _ s (if isw 20 L p (aE L p) = true then some _ else none); rw [if_pos hc79]; exact ⟨rfl, fun q hq9 => by cases hq9; exact ⟨rfl, rfl⟩⟩⟩
          · exact absurd (o1 (by omega)) (by simp [anB, hc18, hc29, hc40, hc51])
end MAT
