/-! ===== the model's hosts and ports ===== -/
theorem wrt_put {g : Nat → Int32} {n i : Nat} {D : List Int32} {x v : Int32} (hv : vp_nar .byte x = v) (hi : i = n + D.length) : upd (wrt g n D) i (vp_nar .byte x) = wrt g n (D ++ [v]) := by
  rw [hv, hi]
  exact wrt_snoc g n D v
/-- the digits that the model writes of a port -/
def pdg (p : Nat) : List Int32 := if p ≤ 9 then [nI (48 + p / 1 % 10)] else if p ≤ 99 then [nI (48 + p / 10 % 10), nI (48 + p / 1 % 10)] else if p ≤ 999 then [nI (48 + p / 100 % 10), nI (48 + p / 10 % 10), nI (48 + p / 1 % 10)] else if p ≤ 9999 then [nI (48 + p / 1000 % 10), nI (48 + p / 100 % 10), nI (48 + p / 10 % 10), nI (48 + p / 1 % 10)] else [nI (48 + p / 10000 % 10), nI (48 + p / 1000 % 10), nI (48 + p / 100 % 10), nI (48 + p / 10 % 10), nI (48 + p / 1 % 10)]
def mpt (L : List Int32) (c t : Nat) : Option (Option Nat) := if gx L c = 58 ∧ t - c ≤ 6 then (if alp (fun j => isDi (gx L j)) (c + 1) t = true then (if 65535 < dgs L (c + 1) (t - (c + 1)) then none else if c + 1 < t ∧ ¬ dgs L (c + 1) (t - (c + 1)) = 80 then some (some (dgs L (c + 1) (t - (c + 1)))) else some none) else none) else none
/-- what a port adds to the host -/
def ptx (o : Option (Option Nat)) : List Int32 := match o with
  | some (some p) => 58 :: pdg p
  | _ => []
theorem pdg_len (p : Nat) : (pdg p).length ≤ 5 := by
  unfold pdg
  split
  · exact Nat.le_of_ble_eq_true rfl
  · split
    · exact Nat.le_of_ble_eq_true rfl
    · split
      · exact Nat.le_of_ble_eq_true rfl
      · split
        · exact Nat.le_of_ble_eq_true rfl
        · exact Nat.le_of_ble_eq_true rfl
section MHO
variable {X : am_X} {d s c t ca n f : Nat} {A B : List va_E} {S : MS} {L : List Int32}
theorem u_M_readPort (hA : A.length = 84) (hn : S.hostLength = n) (hn60 : n ≤ 60) (hx : tt (mput A S B) ca s L) (hct : c < t) (ht : t ≤ L.length) (h58 : gx L c = 58) (h6 : t - c ≤ 6) (hd : ∀ j, c + 1 ≤ j → j < t → isDi (gx L j) = true) : am_G X mt_M_readPort d 65 [some (.ref 84), some (.ref ca), some (.int (nI (s + c))), some (.int (nI (s + t))), some (.int (nI (dgs L (c + 1) (t - (c + 1))))), some (.int (nI (s + t)))] [] (mput A S B) (fun r h1 => r = some (.int (b1 (mpt L c t).isSome)) ∧ h1 = mput A ((S.s_host (wrt S.host n (ptx (mpt L c t)))).s_hostLength (n + (ptx (mpt L c t)).length)) B) := by
  have hlt := dgs_l5 (L := L) (f := c + 1) (n := t - (c + 1)) (by omega) (fun j h1 h2 => hd j h1 (by omega))
  have hal : alp (fun j => isDi (gx L j)) (c + 1) t = true := alp_iff.mpr hd
  have hx0 := hx
  obtain ⟨cap, g, ha, hT, hs, hc⟩ := hx
  refine g_iload (pc := 65) dc_M_readPort_65 rfl ?_
  refine g_ldc (pc := 67) dc_M_readPort_67 cs_M_74 ?_
  refine q_icmp_le (pc := 69) (tgt := 74) (dgs L (c + 1) (t - (c + 1))) 65535 dc_M_readPort_69 (by omega) (by omega) rfl (fun hc69 => ?_) (fun hc69 => ?_)
  · refine g_iload_n (pc := 74) dc_M_readPort_74 rfl ?_
    refine g_iload_n (pc := 75) dc_M_readPort_75 rfl ?_
    refine g_iconst (pc := 76) (v := 1) dc_M_readPort_76 rfl ?_
    refine g_iadd (pc := 77) (v := (nI (s + (c + 1)))) dc_M_readPort_77 (q_as s c 1) ?_
    refine q_icmp_le (pc := 78) (tgt := 178) (s + t) (s + (c + 1)) dc_M_readPort_78 (by omega) (by omega) rfl (fun hc78 => ?_) (fun hc78 => ?_)
    · refine g_iconst (pc := 178) (v := 1) dc_M_readPort_178 rfl ?_
      have e9 : mpt L c t = some none := by unfold mpt; rw [if_pos ⟨h58, h6⟩, if_pos hal, if_neg (by omega), if_neg (by omega)]
      exact g_zreturn dc_M_readPort_179 rfl rfl ⟨by rw [e9]; rfl, by rw [e9]; show mput A S B = mput A ((S.s_host (wrt S.host n [])).s_hostLength n) B; rw [wrt_nil, ← hn]; rfl⟩
    · refine g_iload (pc := 81) dc_M_readPort_81 rfl ?_
      refine g_bipush (pc := 83) (v := 80) dc_M_readPort_83 rfl ?_
      refine q_icmp_eq (pc := 85) (tgt := 178) (dgs L (c + 1) (t - (c + 1))) 80 dc_M_readPort_85 (by omega) (by omega) rfl (fun hc85 => ?_) (fun hc85 => ?_)
      · refine g_iconst (pc := 178) (v := 1) dc_M_readPort_178 rfl ?_
        have e9 : mpt L c t = some none := by unfold mpt; rw [if_pos ⟨h58, h6⟩, if_pos hal, if_neg (by omega), if_neg (by omega)]
        exact g_zreturn dc_M_readPort_179 rfl rfl ⟨by rw [e9]; rfl, by rw [e9]; show mput A S B = mput A ((S.s_host (wrt S.host n [])).s_hostLength n) B; rw [wrt_nil, ← hn]; rfl⟩
      · refine g_aload_n (pc := 88) dc_M_readPort_88 rfl ?_
        refine g_getfield (pc := 89) dc_M_readPort_89 fl_M_67 (mp_o hA) rfl ?_
        refine g_aload_n (pc := 92) dc_M_readPort_92 rfl ?_
        refine g_getfield (pc := 93) (v := .int (nI n)) dc_M_readPort_93 fl_M_64 (mp_o hA) (congrArg (fun z => some (Value.int (nI z))) hn) ?_
        refine g_bipush (pc := 96) (v := 58) dc_M_readPort_96 rfl ?_
        refine asE_host (pc := 98) n (g := wrt S.host n [58]) hA dc_M_readPort_98 (by omega) (by have h9 := wrt_put (g := S.host) (n := n) (i := n) (D := []) (x := 58) (v := 58) rfl rfl; rw [wrt_nil] at h9; exact h9) ?_
        refine g_aload_n (pc := 99) dc_M_readPort_99 rfl ?_
        refine g_dup (pc := 100) dc_M_readPort_100 rfl ?_
        refine g_getfield (pc := 101) (v := .int (nI n)) dc_M_readPort_101 fl_M_64 (mp_o hA) (congrArg (fun z => some (Value.int (nI z))) hn) ?_
        refine g_iconst (pc := 104) (v := 1) dc_M_readPort_104 rfl ?_
        refine g_iadd (pc := 105) (v := (nI (n + 1))) dc_M_readPort_105 (nI_add n 1) ?_
        refine pf_hostLength (pc := 106) (v := n + 1) hA dc_M_readPort_106 fp_M_readPort_64 ?_
        refine g_iconst (pc := 109) (v := 1) dc_M_readPort_109 rfl ?_
        refine g_istore (pc := 110) dc_M_readPort_110 (by decide) ?_
        show am_G X mt_M_readPort _ 112 [some (.ref 84), some (.ref ca), some (.int (nI (s + c))), some (.int (nI (s + t))), some (.int (nI (dgs L (c + 1) (t - (c + 1))))), some (.int 1)] [] _ _
        refine g_iload (pc := 112) dc_M_readPort_112 rfl ?_
        refine g_iload (pc := 114) dc_M_readPort_114 rfl ?_
        refine g_idiv (pc := 116) (v := (nI ((dgs L (c + 1) (t - (c + 1))) / 1))) dc_M_readPort_116 (by decide) (pk_div (a := dgs L (c + 1) (t - (c + 1))) (d := 1) (by omega) (by omega) (by omega)) ?_
        refine g_bipush (pc := 117) (v := 9) dc_M_readPort_117 rfl ?_
        refine q_icmp_le (pc := 119) (tgt := 132) ((dgs L (c + 1) (t - (c + 1))) / 1) 9 dc_M_readPort_119 (by omega) (by omega) rfl (fun hc119 => ?_) (fun hc119 => ?_)
        · refine g_iload (pc := 132) dc_M_readPort_132 rfl ?_
          refine g_if_le (pc := 134) (tgt := 178) dc_M_readPort_134 rfl (fun hc => absurd hc (by decide)) (fun _ => ?_)
          refine g_aload_n (pc := 137) dc_M_readPort_137 rfl ?_
          refine g_getfield (pc := 138) dc_M_readPort_138 fl_M_67 (mp_o hA) rfl ?_
          refine g_aload_n (pc := 141) dc_M_readPort_141 rfl ?_
          refine g_getfield (pc := 142) dc_M_readPort_142 fl_M_64 (mp_o hA) rfl ?_
          refine g_bipush (pc := 145) (v := 48) dc_M_readPort_145 rfl ?_
          refine g_iload (pc := 147) dc_M_readPort_147 rfl ?_
          refine g_iload (pc := 149) dc_M_readPort_149 rfl ?_
          refine g_idiv (pc := 151) (v := (nI ((dgs L (c + 1) (t - (c + 1))) / 1))) dc_M_readPort_151 (by decide) (pk_div (a := dgs L (c + 1) (t - (c + 1))) (d := 1) (by omega) (by omega) (by omega)) ?_
          refine g_bipush (pc := 152) (v := 10) dc_M_readPort_152 rfl ?_
          refine g_irem (pc := 154) (v := (nI (((dgs L (c + 1) (t - (c + 1))) / 1) % 10))) dc_M_readPort_154 (by decide) (q_rem (a := (dgs L (c + 1) (t - (c + 1))) / 1) (d := 10) (by omega) (by omega) (by omega)) ?_
          refine g_iadd (pc := 155) (v := (nI (48 + (((dgs L (c + 1) (t - (c + 1))) / 1) % 10)))) dc_M_readPort_155 (nI_add 48 (((dgs L (c + 1) (t - (c + 1))) / 1) % 10)) ?_
          refine g_i2b (pc := 156) dc_M_readPort_156 (i8_bt (bt_nI (by omega))) ?_
          refine asE_host (pc := 157) (n + 1) (g := wrt S.host n [58, nI (48 + (((dgs L (c + 1) (t - (c + 1))) / 1) % 10))]) hA dc_M_readPort_157 (by omega) (wrt_put (D := [58]) (nar_bt (bt_nI (by omega))) (by show _ = n + 1; omega)) ?_
          refine g_aload_n (pc := 158) dc_M_readPort_158 rfl ?_
          refine g_dup (pc := 159) dc_M_readPort_159 rfl ?_
          refine g_getfield (pc := 160) dc_M_readPort_160 fl_M_64 (mp_o hA) rfl ?_
          refine g_iconst (pc := 163) (v := 1) dc_M_readPort_163 rfl ?_
          refine g_iadd (pc := 164) (v := (nI (n + 2))) dc_M_readPort_164 ((nI_add (n + 1) 1).trans (congrArg nI (by omega))) ?_
          refine pf_hostLength (pc := 165) (v := n + 2) hA dc_M_readPort_165 fp_M_readPort_64 ?_
          refine g_iload (pc := 168) dc_M_readPort_168 rfl ?_
          refine g_bipush (pc := 170) (v := 10) dc_M_readPort_170 rfl ?_
          refine g_idiv (pc := 172) (v := 0) dc_M_readPort_172 (by decide) (by decide) ?_
          refine g_istore (pc := 173) dc_M_readPort_173 (by decide) ?_
          show am_G X mt_M_readPort _ 175 [some (.ref 84), some (.ref ca), some (.int (nI (s + c))), some (.int (nI (s + t))), some (.int (nI (dgs L (c + 1) (t - (c + 1))))), some (.int 0)] [] _ _
          refine g_goto (pc := 175) (tgt := 132) dc_M_readPort_175 rfl ?_
          refine g_iload (pc := 132) dc_M_readPort_132 rfl ?_
          refine g_if_le (pc := 134) (tgt := 178) dc_M_readPort_134 rfl (fun _ => ?_) (fun hc => absurd hc (by decide))
          refine g_iconst (pc := 178) (v := 1) dc_M_readPort_178 rfl ?_
          have e9 : mpt L c t = some (some (dgs L (c + 1) (t - (c + 1)))) := by unfold mpt; rw [if_pos ⟨h58, h6⟩, if_pos hal, if_neg (by omega), if_pos (by omega)]
          have e8 : ptx (some (some (dgs L (c + 1) (t - (c + 1))))) = 58 :: [nI (48 + dgs L (c + 1) (t - (c + 1)) / 1 % 10)] := by show 58 :: pdg _ = _; unfold pdg; rw [if_pos (by omega)]
          exact g_zreturn dc_M_readPort_179 rfl rfl ⟨by rw [e9]; rfl, by rw [e9, e8]; rfl⟩
        · refine g_iload (pc := 122) dc_M_readPort_122 rfl ?_
          refine g_bipush (pc := 124) (v := 10) dc_M_readPort_124 rfl ?_
          refine g_imul (pc := 126) (v := 10) dc_M_readPort_126 (by decide) ?_
          refine g_istore (pc := 127) dc_M_readPort_127 (by decide) ?_
          show am_G X mt_M_readPort _ 129 [some (.ref 84), some (.ref ca), some (.int (nI (s + c))), some (.int (nI (s + t))), some (.int (nI (dgs L (c + 1) (t - (c + 1))))), some (.int 10)] [] _ _
          refine g_goto (pc := 129) (tgt := 112) dc_M_readPort_129 rfl ?_
          refine g_iload (pc := 112) dc_M_readPort_112 rfl ?_
          refine g_iload (pc := 114) dc_M_readPort_114 rfl ?_
          refine g_idiv (pc := 116) (v := (nI ((dgs L (c + 1) (t - (c + 1))) / 10))) dc_M_readPort_116 (by decide) (pk_div (a := dgs L (c + 1) (t - (c + 1))) (d := 10) (by omega) (by omega) (by omega)) ?_
          refine g_bipush (pc := 117) (v := 9) dc_M_readPort_117 rfl ?_
          refine q_icmp_le (pc := 119) (tgt := 132) ((dgs L (c + 1) (t - (c + 1))) / 10) 9 dc_M_readPort_119 (by omega) (by omega) rfl (fun hc119z => ?_) (fun hc119z => ?_)
          · refine g_iload (pc := 132) dc_M_readPort_132 rfl ?_
            refine g_if_le (pc := 134) (tgt := 178) dc_M_readPort_134 rfl (fun hc => absurd hc (by decide)) (fun _ => ?_)
            refine g_aload_n (pc := 137) dc_M_readPort_137 rfl ?_
            refine g_getfield (pc := 138) dc_M_readPort_138 fl_M_67 (mp_o hA) rfl ?_
            refine g_aload_n (pc := 141) dc_M_readPort_141 rfl ?_
            refine g_getfield (pc := 142) dc_M_readPort_142 fl_M_64 (mp_o hA) rfl ?_
            refine g_bipush (pc := 145) (v := 48) dc_M_readPort_145 rfl ?_
            refine g_iload (pc := 147) dc_M_readPort_147 rfl ?_
            refine g_iload (pc := 149) dc_M_readPort_149 rfl ?_
            refine g_idiv (pc := 151) (v := (nI ((dgs L (c + 1) (t - (c + 1))) / 10))) dc_M_readPort_151 (by decide) (pk_div (a := dgs L (c + 1) (t - (c + 1))) (d := 10) (by omega) (by omega) (by omega)) ?_
            refine g_bipush (pc := 152) (v := 10) dc_M_readPort_152 rfl ?_
            refine g_irem (pc := 154) (v := (nI (((dgs L (c + 1) (t - (c + 1))) / 10) % 10))) dc_M_readPort_154 (by decide) (q_rem (a := (dgs L (c + 1) (t - (c + 1))) / 10) (d := 10) (by omega) (by omega) (by omega)) ?_
            refine g_iadd (pc := 155) (v := (nI (48 + (((dgs L (c + 1) (t - (c + 1))) / 10) % 10)))) dc_M_readPort_155 (nI_add 48 (((dgs L (c + 1) (t - (c + 1))) / 10) % 10)) ?_
            refine g_i2b (pc := 156) dc_M_readPort_156 (i8_bt (bt_nI (by omega))) ?_
            refine asE_host (pc := 157) (n + 1) (g := wrt S.host n [58, nI (48 + (((dgs L (c + 1) (t - (c + 1))) / 10) % 10))]) hA dc_M_readPort_157 (by omega) (wrt_put (D := [58]) (nar_bt (bt_nI (by omega))) (by show _ = n + 1; omega)) ?_
            refine g_aload_n (pc := 158) dc_M_readPort_158 rfl ?_
            refine g_dup (pc := 159) dc_M_readPort_159 rfl ?_
            refine g_getfield (pc := 160) dc_M_readPort_160 fl_M_64 (mp_o hA) rfl ?_
            refine g_iconst (pc := 163) (v := 1) dc_M_readPort_163 rfl ?_
            refine g_iadd (pc := 164) (v := (nI (n + 2))) dc_M_readPort_164 ((nI_add (n + 1) 1).trans (congrArg nI (by omega))) ?_
            refine pf_hostLength (pc := 165) (v := n + 2) hA dc_M_readPort_165 fp_M_readPort_64 ?_
            refine g_iload (pc := 168) dc_M_readPort_168 rfl ?_
            refine g_bipush (pc := 170) (v := 10) dc_M_readPort_170 rfl ?_
            refine g_idiv (pc := 172) (v := 1) dc_M_readPort_172 (by decide) (by decide) ?_
            refine g_istore (pc := 173) dc_M_readPort_173 (by decide) ?_
            show am_G X mt_M_readPort _ 175 [some (.ref 84), some (.ref ca), some (.int (nI (s + c))), some (.int (nI (s + t))), some (.int (nI (dgs L (c + 1) (t - (c + 1))))), some (.int 1)] [] _ _
            refine g_goto (pc := 175) (tgt := 132) dc_M_readPort_175 rfl ?_
            refine g_iload (pc := 132) dc_M_readPort_132 rfl ?_
            refine g_if_le (pc := 134) (tgt := 178) dc_M_readPort_134 rfl (fun hc => absurd hc (by decide)) (fun _ => ?_)
            refine g_aload_n (pc := 137) dc_M_readPort_137 rfl ?_
            refine g_getfield (pc := 138) dc_M_readPort_138 fl_M_67 (mp_o hA) rfl ?_
            refine g_aload_n (pc := 141) dc_M_readPort_141 rfl ?_
            refine g_getfield (pc := 142) dc_M_readPort_142 fl_M_64 (mp_o hA) rfl ?_
            refine g_bipush (pc := 145) (v := 48) dc_M_readPort_145 rfl ?_
            refine g_iload (pc := 147) dc_M_readPort_147 rfl ?_
            refine g_iload (pc := 149) dc_M_readPort_149 rfl ?_
            refine g_idiv (pc := 151) (v := (nI ((dgs L (c + 1) (t - (c + 1))) / 1))) dc_M_readPort_151 (by decide) (pk_div (a := dgs L (c + 1) (t - (c + 1))) (d := 1) (by omega) (by omega) (by omega)) ?_
            refine g_bipush (pc := 152) (v := 10) dc_M_readPort_152 rfl ?_
            refine g_irem (pc := 154) (v := (nI (((dgs L (c + 1) (t - (c + 1))) / 1) % 10))) dc_M_readPort_154 (by decide) (q_rem (a := (dgs L (c + 1) (t - (c + 1))) / 1) (d := 10) (by omega) (by omega) (by omega)) ?_
            refine g_iadd (pc := 155) (v := (nI (48 + (((dgs L (c + 1) (t - (c + 1))) / 1) % 10)))) dc_M_readPort_155 (nI_add 48 (((dgs L (c + 1) (t - (c + 1))) / 1) % 10)) ?_
            refine g_i2b (pc := 156) dc_M_readPort_156 (i8_bt (bt_nI (by omega))) ?_
            refine asE_host (pc := 157) (n + 2) (g := wrt S.host n [58, nI (48 + (((dgs L (c + 1) (t - (c + 1))) / 10) % 10)), nI (48 + (((dgs L (c + 1) (t - (c + 1))) / 1) % 10))]) hA dc_M_readPort_157 (by omega) (wrt_put (D := [58, nI (48 + (((dgs L (c + 1) (t - (c + 1))) / 10) % 10))]) (nar_bt (bt_nI (by omega))) (by show _ = n + 2; omega)) ?_
            refine g_aload_n (pc := 158) dc_M_readPort_158 rfl ?_
            refine g_dup (pc := 159) dc_M_readPort_159 rfl ?_
            refine g_getfield (pc := 160) dc_M_readPort_160 fl_M_64 (mp_o hA) rfl ?_
            refine g_iconst (pc := 163) (v := 1) dc_M_readPort_163 rfl ?_
            refine g_iadd (pc := 164) (v := (nI (n + 3))) dc_M_readPort_164 ((nI_add (n + 2) 1).trans (congrArg nI (by omega))) ?_
            refine pf_hostLength (pc := 165) (v := n + 3) hA dc_M_readPort_165 fp_M_readPort_64 ?_
            refine g_iload (pc := 168) dc_M_readPort_168 rfl ?_
            refine g_bipush (pc := 170) (v := 10) dc_M_readPort_170 rfl ?_
            refine g_idiv (pc := 172) (v := 0) dc_M_readPort_172 (by decide) (by decide) ?_
            refine g_istore (pc := 173) dc_M_readPort_173 (by decide) ?_
            show am_G X mt_M_readPort _ 175 [some (.ref 84), some (.ref ca), some (.int (nI (s + c))), some (.int (nI (s + t))), some (.int (nI (dgs L (c + 1) (t - (c + 1))))), some (.int 0)] [] _ _
            refine g_goto (pc := 175) (tgt := 132) dc_M_readPort_175 rfl ?_
            refine g_iload (pc := 132) dc_M_readPort_132 rfl ?_
            refine g_if_le (pc := 134) (tgt := 178) dc_M_readPort_134 rfl (fun _ => ?_) (fun hc => absurd hc (by decide))
            refine g_iconst (pc := 178) (v := 1) dc_M_readPort_178 rfl ?_
            have e9 : mpt L c t = some (some (dgs L (c + 1) (t - (c + 1)))) := by unfold mpt; rw [if_pos ⟨h58, h6⟩, if_pos hal, if_neg (by omega), if_pos (by omega)]
            have e8 : ptx (some (some (dgs L (c + 1) (t - (c + 1))))) = 58 :: [nI (48 + dgs L (c + 1) (t - (c + 1)) / 10 % 10), nI (48 + dgs L (c + 1) (t - (c + 1)) / 1 % 10)] := by show 58 :: pdg _ = _; unfold pdg; rw [if_neg (by omega), if_pos (by omega)]
            exact g_zreturn dc_M_readPort_179 rfl rfl ⟨by rw [e9]; rfl, by rw [e9, e8]; rfl⟩
          · refine g_iload (pc := 122) dc_M_readPort_122 rfl ?_
            refine g_bipush (pc := 124) (v := 10) dc_M_readPort_124 rfl ?_
            refine g_imul (pc := 126) (v := 100) dc_M_readPort_126 (by decide) ?_
            refine g_istore (pc := 127) dc_M_readPort_127 (by decide) ?_
            show am_G X mt_M_readPort _ 129 [some (.ref 84), some (.ref ca), some (.int (nI (s + c))), some (.int (nI (s + t))), some (.int (nI (dgs L (c + 1) (t - (c + 1))))), some (.int 100)] [] _ _
            refine g_goto (pc := 129) (tgt := 112) dc_M_readPort_129 rfl ?_
            refine g_iload (pc := 112) dc_M_readPort_112 rfl ?_
            refine g_iload (pc := 114) dc_M_readPort_114 rfl ?_
            refine g_idiv (pc := 116) (v := (nI ((dgs L (c + 1) (t - (c + 1))) / 100))) dc_M_readPort_116 (by decide) (pk_div (a := dgs L (c + 1) (t - (c + 1))) (d := 100) (by omega) (by omega) (by omega)) ?_
            refine g_bipush (pc := 117) (v := 9) dc_M_readPort_117 rfl ?_
            refine q_icmp_le (pc := 119) (tgt := 132) ((dgs L (c + 1) (t - (c + 1))) / 100) 9 dc_M_readPort_119 (by omega) (by omega) rfl (fun hc119zz => ?_) (fun hc119zz => ?_)
            · refine g_iload (pc := 132) dc_M_readPort_132 rfl ?_
              refine g_if_le (pc := 134) (tgt := 178) dc_M_readPort_134 rfl (fun hc => absurd hc (by decide)) (fun _ => ?_)
              refine g_aload_n (pc := 137) dc_M_readPort_137 rfl ?_
              refine g_getfield (pc := 138) dc_M_readPort_138 fl_M_67 (mp_o hA) rfl ?_
              refine g_aload_n (pc := 141) dc_M_readPort_141 rfl ?_
              refine g_getfield (pc := 142) dc_M_readPort_142 fl_M_64 (mp_o hA) rfl ?_
              refine g_bipush (pc := 145) (v := 48) dc_M_readPort_145 rfl ?_
              refine g_iload (pc := 147) dc_M_readPort_147 rfl ?_
              refine g_iload (pc := 149) dc_M_readPort_149 rfl ?_
              refine g_idiv (pc := 151) (v := (nI ((dgs L (c + 1) (t - (c + 1))) / 100))) dc_M_readPort_151 (by decide) (pk_div (a := dgs L (c + 1) (t - (c + 1))) (d := 100) (by omega) (by omega) (by omega)) ?_
              refine g_bipush (pc := 152) (v := 10) dc_M_readPort_152 rfl ?_
              refine g_irem (pc := 154) (v := (nI (((dgs L (c + 1) (t - (c + 1))) / 100) % 10))) dc_M_readPort_154 (by decide) (q_rem (a := (dgs L (c + 1) (t - (c + 1))) / 100) (d := 10) (by omega) (by omega) (by omega)) ?_
              refine g_iadd (pc := 155) (v := (nI (48 + (((dgs L (c + 1) (t - (c + 1))) / 100) % 10)))) dc_M_readPort_155 (nI_add 48 (((dgs L (c + 1) (t - (c + 1))) / 100) % 10)) ?_
              refine g_i2b (pc := 156) dc_M_readPort_156 (i8_bt (bt_nI (by omega))) ?_
              refine asE_host (pc := 157) (n + 1) (g := wrt S.host n [58, nI (48 + (((dgs L (c + 1) (t - (c + 1))) / 100) % 10))]) hA dc_M_readPort_157 (by omega) (wrt_put (D := [58]) (nar_bt (bt_nI (by omega))) (by show _ = n + 1; omega)) ?_
              refine g_aload_n (pc := 158) dc_M_readPort_158 rfl ?_
              refine g_dup (pc := 159) dc_M_readPort_159 rfl ?_
              refine g_getfield (pc := 160) dc_M_readPort_160 fl_M_64 (mp_o hA) rfl ?_
              refine g_iconst (pc := 163) (v := 1) dc_M_readPort_163 rfl ?_
              refine g_iadd (pc := 164) (v := (nI (n + 2))) dc_M_readPort_164 ((nI_add (n + 1) 1).trans (congrArg nI (by omega))) ?_
              refine pf_hostLength (pc := 165) (v := n + 2) hA dc_M_readPort_165 fp_M_readPort_64 ?_
              refine g_iload (pc := 168) dc_M_readPort_168 rfl ?_
              refine g_bipush (pc := 170) (v := 10) dc_M_readPort_170 rfl ?_
              refine g_idiv (pc := 172) (v := 10) dc_M_readPort_172 (by decide) (by decide) ?_
              refine g_istore (pc := 173) dc_M_readPort_173 (by decide) ?_
              show am_G X mt_M_readPort _ 175 [some (.ref 84), some (.ref ca), some (.int (nI (s + c))), some (.int (nI (s + t))), some (.int (nI (dgs L (c + 1) (t - (c + 1))))), some (.int 10)] [] _ _
              refine g_goto (pc := 175) (tgt := 132) dc_M_readPort_175 rfl ?_
              refine g_iload (pc := 132) dc_M_readPort_132 rfl ?_
              refine g_if_le (pc := 134) (tgt := 178) dc_M_readPort_134 rfl (fun hc => absurd hc (by decide)) (fun _ => ?_)
              refine g_aload_n (pc := 137) dc_M_readPort_137 rfl ?_
              refine g_getfield (pc := 138) dc_M_readPort_138 fl_M_67 (mp_o hA) rfl ?_
              refine g_aload_n (pc := 141) dc_M_readPort_141 rfl ?_
              refine g_getfield (pc := 142) dc_M_readPort_142 fl_M_64 (mp_o hA) rfl ?_
              refine g_bipush (pc := 145) (v := 48) dc_M_readPort_145 rfl ?_
              refine g_iload (pc := 147) dc_M_readPort_147 rfl ?_
              refine g_iload (pc := 149) dc_M_readPort_149 rfl ?_
              refine g_idiv (pc := 151) (v := (nI ((dgs L (c + 1) (t - (c + 1))) / 10))) dc_M_readPort_151 (by decide) (pk_div (a := dgs L (c + 1) (t - (c + 1))) (d := 10) (by omega) (by omega) (by omega)) ?_
              refine g_bipush (pc := 152) (v := 10) dc_M_readPort_152 rfl ?_
              refine g_irem (pc := 154) (v := (nI (((dgs L (c + 1) (t - (c + 1))) / 10) % 10))) dc_M_readPort_154 (by decide) (q_rem (a := (dgs L (c + 1) (t - (c + 1))) / 10) (d := 10) (by omega) (by omega) (by omega)) ?_
              refine g_iadd (pc := 155) (v := (nI (48 + (((dgs L (c + 1) (t - (c + 1))) / 10) % 10)))) dc_M_readPort_155 (nI_add 48 (((dgs L (c + 1) (t - (c + 1))) / 10) % 10)) ?_
              refine g_i2b (pc := 156) dc_M_readPort_156 (i8_bt (bt_nI (by omega))) ?_
              refine asE_host (pc := 157) (n + 2) (g := wrt S.host n [58, nI (48 + (((dgs L (c + 1) (t - (c + 1))) / 100) % 10)), nI (48 + (((dgs L (c + 1) (t - (c + 1))) / 10) % 10))]) hA dc_M_readPort_157 (by omega) (wrt_put (D := [58, nI (48 + (((dgs L (c + 1) (t - (c + 1))) / 100) % 10))]) (nar_bt (bt_nI (by omega))) (by show _ = n + 2; omega)) ?_
              refine g_aload_n (pc := 158) dc_M_readPort_158 rfl ?_
              refine g_dup (pc := 159) dc_M_readPort_159 rfl ?_
              refine g_getfield (pc := 160) dc_M_readPort_160 fl_M_64 (mp_o hA) rfl ?_
              refine g_iconst (pc := 163) (v := 1) dc_M_readPort_163 rfl ?_
              refine g_iadd (pc := 164) (v := (nI (n + 3))) dc_M_readPort_164 ((nI_add (n + 2) 1).trans (congrArg nI (by omega))) ?_
              refine pf_hostLength (pc := 165) (v := n + 3) hA dc_M_readPort_165 fp_M_readPort_64 ?_
              refine g_iload (pc := 168) dc_M_readPort_168 rfl ?_
              refine g_bipush (pc := 170) (v := 10) dc_M_readPort_170 rfl ?_
              refine g_idiv (pc := 172) (v := 1) dc_M_readPort_172 (by decide) (by decide) ?_
              refine g_istore (pc := 173) dc_M_readPort_173 (by decide) ?_
              show am_G X mt_M_readPort _ 175 [some (.ref 84), some (.ref ca), some (.int (nI (s + c))), some (.int (nI (s + t))), some (.int (nI (dgs L (c + 1) (t - (c + 1))))), some (.int 1)] [] _ _
              refine g_goto (pc := 175) (tgt := 132) dc_M_readPort_175 rfl ?_
              refine g_iload (pc := 132) dc_M_readPort_132 rfl ?_
              refine g_if_le (pc := 134) (tgt := 178) dc_M_readPort_134 rfl (fun hc => absurd hc (by decide)) (fun _ => ?_)
              refine g_aload_n (pc := 137) dc_M_readPort_137 rfl ?_
              refine g_getfield (pc := 138) dc_M_readPort_138 fl_M_67 (mp_o hA) rfl ?_
              refine g_aload_n (pc := 141) dc_M_readPort_141 rfl ?_
              refine g_getfield (pc := 142) dc_M_readPort_142 fl_M_64 (mp_o hA) rfl ?_
              refine g_bipush (pc := 145) (v := 48) dc_M_readPort_145 rfl ?_
              refine g_iload (pc := 147) dc_M_readPort_147 rfl ?_
              refine g_iload (pc := 149) dc_M_readPort_149 rfl ?_
              refine g_idiv (pc := 151) (v := (nI ((dgs L (c + 1) (t - (c + 1))) / 1))) dc_M_readPort_151 (by decide) (pk_div (a := dgs L (c + 1) (t - (c + 1))) (d := 1) (by omega) (by omega) (by omega)) ?_
              refine g_bipush (pc := 152) (v := 10) dc_M_readPort_152 rfl ?_
              refine g_irem (pc := 154) (v := (nI (((dgs L (c + 1) (t - (c + 1))) / 1) % 10))) dc_M_readPort_154 (by decide) (q_rem (a := (dgs L (c + 1) (t - (c + 1))) / 1) (d := 10) (by omega) (by omega) (by omega)) ?_
              refine g_iadd (pc := 155) (v := (nI (48 + (((dgs L (c + 1) (t - (c + 1))) / 1) % 10)))) dc_M_readPort_155 (nI_add 48 (((dgs L (c + 1) (t - (c + 1))) / 1) % 10)) ?_
              refine g_i2b (pc := 156) dc_M_readPort_156 (i8_bt (bt_nI (by omega))) ?_
              refine asE_host (pc := 157) (n + 3) (g := wrt S.host n [58, nI (48 + (((dgs L (c + 1) (t - (c + 1))) / 100) % 10)), nI (48 + (((dgs L (c + 1) (t - (c + 1))) / 10) % 10)), nI (48 + (((dgs L (c + 1) (t - (c + 1))) / 1) % 10))]) hA dc_M_readPort_157 (by omega) (wrt_put (D := [58, nI (48 + (((dgs L (c + 1) (t - (c + 1))) / 100) % 10)), nI (48 + (((dgs L (c + 1) (t - (c + 1))) / 10) % 10))]) (nar_bt (bt_nI (by omega))) (by show _ = n + 3; omega)) ?_
              refine g_aload_n (pc := 158) dc_M_readPort_158 rfl ?_
              refine g_dup (pc := 159) dc_M_readPort_159 rfl ?_
              refine g_getfield (pc := 160) dc_M_readPort_160 fl_M_64 (mp_o hA) rfl ?_
              refine g_iconst (pc := 163) (v := 1) dc_M_readPort_163 rfl ?_
              refine g_iadd (pc := 164) (v := (nI (n + 4))) dc_M_readPort_164 ((nI_add (n + 3) 1).trans (congrArg nI (by omega))) ?_
              refine pf_hostLength (pc := 165) (v := n + 4) hA dc_M_readPort_165 fp_M_readPort_64 ?_
              refine g_iload (pc := 168) dc_M_readPort_168 rfl ?_
              refine g_bipush (pc := 170) (v := 10) dc_M_readPort_170 rfl ?_
              refine g_idiv (pc := 172) (v := 0) dc_M_readPort_172 (by decide) (by decide) ?_
              refine g_istore (pc := 173) dc_M_readPort_173 (by decide) ?_
              show am_G X mt_M_readPort _ 175 [some (.ref 84), some (.ref ca), some (.int (nI (s + c))), some (.int (nI (s + t))), some (.int (nI (dgs L (c + 1) (t - (c + 1))))), some (.int 0)] [] _ _
              refine g_goto (pc := 175) (tgt := 132) dc_M_readPort_175 rfl ?_
              refine g_iload (pc := 132) dc_M_readPort_132 rfl ?_
              refine g_if_le (pc := 134) (tgt := 178) dc_M_readPort_134 rfl (fun _ => ?_) (fun hc => absurd hc (by decide))
              refine g_iconst (pc := 178) (v := 1) dc_M_readPort_178 rfl ?_
              have e9 : mpt L c t = some (some (dgs L (c + 1) (t - (c + 1)))) := by unfold mpt; rw [if_pos ⟨h58, h6⟩, if_pos hal, if_neg (by omega), if_pos (by omega)]
              have e8 : ptx (some (some (dgs L (c + 1) (t - (c + 1))))) = 58 :: [nI (48 + dgs L (c + 1) (t - (c + 1)) / 100 % 10), nI (48 + dgs L (c + 1) (t - (c + 1)) / 10 % 10), nI (48 + dgs L (c + 1) (t - (c + 1)) / 1 % 10)] := by show 58 :: pdg _ = _; unfold pdg; rw [if_neg (by omega), if_neg (by omega), if_pos (by omega)]
              exact g_zreturn dc_M_readPort_179 rfl rfl ⟨by rw [e9]; rfl, by rw [e9, e8]; rfl⟩
            · refine g_iload (pc := 122) dc_M_readPort_122 rfl ?_
              refine g_bipush (pc := 124) (v := 10) dc_M_readPort_124 rfl ?_
              refine g_imul (pc := 126) (v := 1000) dc_M_readPort_126 (by decide) ?_
              refine g_istore (pc := 127) dc_M_readPort_127 (by decide) ?_
              show am_G X mt_M_readPort _ 129 [some (.ref 84), some (.ref ca), some (.int (nI (s + c))), some (.int (nI (s + t))), some (.int (nI (dgs L (c + 1) (t - (c + 1))))), some (.int 1000)] [] _ _
              refine g_goto (pc := 129) (tgt := 112) dc_M_readPort_129 rfl ?_
              refine g_iload (pc := 112) dc_M_readPort_112 rfl ?_
              refine g_iload (pc := 114) dc_M_readPort_114 rfl ?_
              refine g_idiv (pc := 116) (v := (nI ((dgs L (c + 1) (t - (c + 1))) / 1000))) dc_M_readPort_116 (by decide) (pk_div (a := dgs L (c + 1) (t - (c + 1))) (d := 1000) (by omega) (by omega) (by omega)) ?_
              refine g_bipush (pc := 117) (v := 9) dc_M_readPort_117 rfl ?_
              refine q_icmp_le (pc := 119) (tgt := 132) ((dgs L (c + 1) (t - (c + 1))) / 1000) 9 dc_M_readPort_119 (by omega) (by omega) rfl (fun hc119zzz => ?_) (fun hc119zzz => ?_)
              · refine g_iload (pc := 132) dc_M_readPort_132 rfl ?_
                refine g_if_le (pc := 134) (tgt := 178) dc_M_readPort_134 rfl (fun hc => absurd hc (by decide)) (fun _ => ?_)
                refine g_aload_n (pc := 137) dc_M_readPort_137 rfl ?_
                refine g_getfield (pc := 138) dc_M_readPort_138 fl_M_67 (mp_o hA) rfl ?_
                refine g_aload_n (pc := 141) dc_M_readPort_141 rfl ?_
                refine g_getfield (pc := 142) dc_M_readPort_142 fl_M_64 (mp_o hA) rfl ?_
                refine g_bipush (pc := 145) (v := 48) dc_M_readPort_145 rfl ?_
                refine g_iload (pc := 147) dc_M_readPort_147 rfl ?_
                refine g_iload (pc := 149) dc_M_readPort_149 rfl ?_
                refine g_idiv (pc := 151) (v := (nI ((dgs L (c + 1) (t - (c + 1))) / 1000))) dc_M_readPort_151 (by decide) (pk_div (a := dgs L (c + 1) (t - (c + 1))) (d := 1000) (by omega) (by omega) (by omega)) ?_
                refine g_bipush (pc := 152) (v := 10) dc_M_readPort_152 rfl ?_
                refine g_irem (pc := 154) (v := (nI (((dgs L (c + 1) (t - (c + 1))) / 1000) % 10))) dc_M_readPort_154 (by decide) (q_rem (a := (dgs L (c + 1) (t - (c + 1))) / 1000) (d := 10) (by omega) (by omega) (by omega)) ?_
                refine g_iadd (pc := 155) (v := (nI (48 + (((dgs L (c + 1) (t - (c + 1))) / 1000) % 10)))) dc_M_readPort_155 (nI_add 48 (((dgs L (c + 1) (t - (c + 1))) / 1000) % 10)) ?_
                refine g_i2b (pc := 156) dc_M_readPort_156 (i8_bt (bt_nI (by omega))) ?_
                refine asE_host (pc := 157) (n + 1) (g := wrt S.host n [58, nI (48 + (((dgs L (c + 1) (t - (c + 1))) / 1000) % 10))]) hA dc_M_readPort_157 (by omega) (wrt_put (D := [58]) (nar_bt (bt_nI (by omega))) (by show _ = n + 1; omega)) ?_
                refine g_aload_n (pc := 158) dc_M_readPort_158 rfl ?_
                refine g_dup (pc := 159) dc_M_readPort_159 rfl ?_
                refine g_getfield (pc := 160) dc_M_readPort_160 fl_M_64 (mp_o hA) rfl ?_
                refine g_iconst (pc := 163) (v := 1) dc_M_readPort_163 rfl ?_
                refine g_iadd (pc := 164) (v := (nI (n + 2))) dc_M_readPort_164 ((nI_add (n + 1) 1).trans (congrArg nI (by omega))) ?_
                refine pf_hostLength (pc := 165) (v := n + 2) hA dc_M_readPort_165 fp_M_readPort_64 ?_
                refine g_iload (pc := 168) dc_M_readPort_168 rfl ?_
                refine g_bipush (pc := 170) (v := 10) dc_M_readPort_170 rfl ?_
                refine g_idiv (pc := 172) (v := 100) dc_M_readPort_172 (by decide) (by decide) ?_
                refine g_istore (pc := 173) dc_M_readPort_173 (by decide) ?_
                show am_G X mt_M_readPort _ 175 [some (.ref 84), some (.ref ca), some (.int (nI (s + c))), some (.int (nI (s + t))), some (.int (nI (dgs L (c + 1) (t - (c + 1))))), some (.int 100)] [] _ _
                refine g_goto (pc := 175) (tgt := 132) dc_M_readPort_175 rfl ?_
                refine g_iload (pc := 132) dc_M_readPort_132 rfl ?_
                refine g_if_le (pc := 134) (tgt := 178) dc_M_readPort_134 rfl (fun hc => absurd hc (by decide)) (fun _ => ?_)
                refine g_aload_n (pc := 137) dc_M_readPort_137 rfl ?_
                refine g_getfield (pc := 138) dc_M_readPort_138 fl_M_67 (mp_o hA) rfl ?_
                refine g_aload_n (pc := 141) dc_M_readPort_141 rfl ?_
                refine g_getfield (pc := 142) dc_M_readPort_142 fl_M_64 (mp_o hA) rfl ?_
                refine g_bipush (pc := 145) (v := 48) dc_M_readPort_145 rfl ?_
                refine g_iload (pc := 147) dc_M_readPort_147 rfl ?_
                refine g_iload (pc := 149) dc_M_readPort_149 rfl ?_
                refine g_idiv (pc := 151) (v := (nI ((dgs L (c + 1) (t - (c + 1))) / 100))) dc_M_readPort_151 (by decide) (pk_div (a := dgs L (c + 1) (t - (c + 1))) (d := 100) (by omega) (by omega) (by omega)) ?_
                refine g_bipush (pc := 152) (v := 10) dc_M_readPort_152 rfl ?_
                refine g_irem (pc := 154) (v := (nI (((dgs L (c + 1) (t - (c + 1))) / 100) % 10))) dc_M_readPort_154 (by decide) (q_rem (a := (dgs L (c + 1) (t - (c + 1))) / 100) (d := 10) (by omega) (by omega) (by omega)) ?_
                refine g_iadd (pc := 155) (v := (nI (48 + (((dgs L (c + 1) (t - (c + 1))) / 100) % 10)))) dc_M_readPort_155 (nI_add 48 (((dgs L (c + 1) (t - (c + 1))) / 100) % 10)) ?_
                refine g_i2b (pc := 156) dc_M_readPort_156 (i8_bt (bt_nI (by omega))) ?_
                refine asE_host (pc := 157) (n + 2) (g := wrt S.host n [58, nI (48 + (((dgs L (c + 1) (t - (c + 1))) / 1000) % 10)), nI (48 + (((dgs L (c + 1) (t - (c + 1))) / 100) % 10))]) hA dc_M_readPort_157 (by omega) (wrt_put (D := [58, nI (48 + (((dgs L (c + 1) (t - (c + 1))) / 1000) % 10))]) (nar_bt (bt_nI (by omega))) (by show _ = n + 2; omega)) ?_
                refine g_aload_n (pc := 158) dc_M_readPort_158 rfl ?_
                refine g_dup (pc := 159) dc_M_readPort_159 rfl ?_
                refine g_getfield (pc := 160) dc_M_readPort_160 fl_M_64 (mp_o hA) rfl ?_
                refine g_iconst (pc := 163) (v := 1) dc_M_readPort_163 rfl ?_
                refine g_iadd (pc := 164) (v := (nI (n + 3))) dc_M_readPort_164 ((nI_add (n + 2) 1).trans (congrArg nI (by omega))) ?_
                refine pf_hostLength (pc := 165) (v := n + 3) hA dc_M_readPort_165 fp_M_readPort_64 ?_
                refine g_iload (pc := 168) dc_M_readPort_168 rfl ?_
                refine g_bipush (pc := 170) (v := 10) dc_M_readPort_170 rfl ?_
                refine g_idiv (pc := 172) (v := 10) dc_M_readPort_172 (by decide) (by decide) ?_
                refine g_istore (pc := 173) dc_M_readPort_173 (by decide) ?_
                show am_G X mt_M_readPort _ 175 [some (.ref 84), some (.ref ca), some (.int (nI (s + c))), some (.int (nI (s + t))), some (.int (nI (dgs L (c + 1) (t - (c + 1))))), some (.int 10)] [] _ _
                refine g_goto (pc := 175) (tgt := 132) dc_M_readPort_175 rfl ?_
                refine g_iload (pc := 132) dc_M_readPort_132 rfl ?_
                refine g_if_le (pc := 134) (tgt := 178) dc_M_readPort_134 rfl (fun hc => absurd hc (by decide)) (fun _ => ?_)
                refine g_aload_n (pc := 137) dc_M_readPort_137 rfl ?_
                refine g_getfield (pc := 138) dc_M_readPort_138 fl_M_67 (mp_o hA) rfl ?_
                refine g_aload_n (pc := 141) dc_M_readPort_141 rfl ?_
                refine g_getfield (pc := 142) dc_M_readPort_142 fl_M_64 (mp_o hA) rfl ?_
                refine g_bipush (pc := 145) (v := 48) dc_M_readPort_145 rfl ?_
                refine g_iload (pc := 147) dc_M_readPort_147 rfl ?_
                refine g_iload (pc := 149) dc_M_readPort_149 rfl ?_
                refine g_idiv (pc := 151) (v := (nI ((dgs L (c + 1) (t - (c + 1))) / 10))) dc_M_readPort_151 (by decide) (pk_div (a := dgs L (c + 1) (t - (c + 1))) (d := 10) (by omega) (by omega) (by omega)) ?_
                refine g_bipush (pc := 152) (v := 10) dc_M_readPort_152 rfl ?_
                refine g_irem (pc := 154) (v := (nI (((dgs L (c + 1) (t - (c + 1))) / 10) % 10))) dc_M_readPort_154 (by decide) (q_rem (a := (dgs L (c + 1) (t - (c + 1))) / 10) (d := 10) (by omega) (by omega) (by omega)) ?_
                refine g_iadd (pc := 155) (v := (nI (48 + (((dgs L (c + 1) (t - (c + 1))) / 10) % 10)))) dc_M_readPort_155 (nI_add 48 (((dgs L (c + 1) (t - (c + 1))) / 10) % 10)) ?_
                refine g_i2b (pc := 156) dc_M_readPort_156 (i8_bt (bt_nI (by omega))) ?_
                refine asE_host (pc := 157) (n + 3) (g := wrt S.host n [58, nI (48 + (((dgs L (c + 1) (t - (c + 1))) / 1000) % 10)), nI (48 + (((dgs L (c + 1) (t - (c + 1))) / 100) % 10)), nI (48 + (((dgs L (c + 1) (t - (c + 1))) / 10) % 10))]) hA dc_M_readPort_157 (by omega) (wrt_put (D := [58, nI (48 + (((dgs L (c + 1) (t - (c + 1))) / 1000) % 10)), nI (48 + (((dgs L (c + 1) (t - (c + 1))) / 100) % 10))]) (nar_bt (bt_nI (by omega))) (by show _ = n + 3; omega)) ?_
                refine g_aload_n (pc := 158) dc_M_readPort_158 rfl ?_
                refine g_dup (pc := 159) dc_M_readPort_159 rfl ?_
                refine g_getfield (pc := 160) dc_M_readPort_160 fl_M_64 (mp_o hA) rfl ?_
                refine g_iconst (pc := 163) (v := 1) dc_M_readPort_163 rfl ?_
                refine g_iadd (pc := 164) (v := (nI (n + 4))) dc_M_readPort_164 ((nI_add (n + 3) 1).trans (congrArg nI (by omega))) ?_
                refine pf_hostLength (pc := 165) (v := n + 4) hA dc_M_readPort_165 fp_M_readPort_64 ?_
                refine g_iload (pc := 168) dc_M_readPort_168 rfl ?_
                refine g_bipush (pc := 170) (v := 10) dc_M_readPort_170 rfl ?_
                refine g_idiv (pc := 172) (v := 1) dc_M_readPort_172 (by decide) (by decide) ?_
                refine g_istore (pc := 173) dc_M_readPort_173 (by decide) ?_
                show am_G X mt_M_readPort _ 175 [some (.ref 84), some (.ref ca), some (.int (nI (s + c))), some (.int (nI (s + t))), some (.int (nI (dgs L (c + 1) (t - (c + 1))))), some (.int 1)] [] _ _
                refine g_goto (pc := 175) (tgt := 132) dc_M_readPort_175 rfl ?_
                refine g_iload (pc := 132) dc_M_readPort_132 rfl ?_
                refine g_if_le (pc := 134) (tgt := 178) dc_M_readPort_134 rfl (fun hc => absurd hc (by decide)) (fun _ => ?_)
                refine g_aload_n (pc := 137) dc_M_readPort_137 rfl ?_
                refine g_getfield (pc := 138) dc_M_readPort_138 fl_M_67 (mp_o hA) rfl ?_
                refine g_aload_n (pc := 141) dc_M_readPort_141 rfl ?_
                refine g_getfield (pc := 142) dc_M_readPort_142 fl_M_64 (mp_o hA) rfl ?_
                refine g_bipush (pc := 145) (v := 48) dc_M_readPort_145 rfl ?_
                refine g_iload (pc := 147) dc_M_readPort_147 rfl ?_
                refine g_iload (pc := 149) dc_M_readPort_149 rfl ?_
                refine g_idiv (pc := 151) (v := (nI ((dgs L (c + 1) (t - (c + 1))) / 1))) dc_M_readPort_151 (by decide) (pk_div (a := dgs L (c + 1) (t - (c + 1))) (d := 1) (by omega) (by omega) (by omega)) ?_
                refine g_bipush (pc := 152) (v := 10) dc_M_readPort_152 rfl ?_
                refine g_irem (pc := 154) (v := (nI (((dgs L (c + 1) (t - (c + 1))) / 1) % 10))) dc_M_readPort_154 (by decide) (q_rem (a := (dgs L (c + 1) (t - (c + 1))) / 1) (d := 10) (by omega) (by omega) (by omega)) ?_
                refine g_iadd (pc := 155) (v := (nI (48 + (((dgs L (c + 1) (t - (c + 1))) / 1) % 10)))) dc_M_readPort_155 (nI_add 48 (((dgs L (c + 1) (t - (c + 1))) / 1) % 10)) ?_
                refine g_i2b (pc := 156) dc_M_readPort_156 (i8_bt (bt_nI (by omega))) ?_
                refine asE_host (pc := 157) (n + 4) (g := wrt S.host n [58, nI (48 + (((dgs L (c + 1) (t - (c + 1))) / 1000) % 10)), nI (48 + (((dgs L (c + 1) (t - (c + 1))) / 100) % 10)), nI (48 + (((dgs L (c + 1) (t - (c + 1))) / 10) % 10)), nI (48 + (((dgs L (c + 1) (t - (c + 1))) / 1) % 10))]) hA dc_M_readPort_157 (by omega) (wrt_put (D := [58, nI (48 + (((dgs L (c + 1) (t - (c + 1))) / 1000) % 10)), nI (48 + (((dgs L (c + 1) (t - (c + 1))) / 100) % 10)), nI (48 + (((dgs L (c + 1) (t - (c + 1))) / 10) % 10))]) (nar_bt (bt_nI (by omega))) (by show _ = n + 4; omega)) ?_
                refine g_aload_n (pc := 158) dc_M_readPort_158 rfl ?_
                refine g_dup (pc := 159) dc_M_readPort_159 rfl ?_
                refine g_getfield (pc := 160) dc_M_readPort_160 fl_M_64 (mp_o hA) rfl ?_
                refine g_iconst (pc := 163) (v := 1) dc_M_readPort_163 rfl ?_
                refine g_iadd (pc := 164) (v := (nI (n + 5))) dc_M_readPort_164 ((nI_add (n + 4) 1).trans (congrArg nI (by omega))) ?_
                refine pf_hostLength (pc := 165) (v := n + 5) hA dc_M_readPort_165 fp_M_readPort_64 ?_
                refine g_iload (pc := 168) dc_M_readPort_168 rfl ?_
                refine g_bipush (pc := 170) (v := 10) dc_M_readPort_170 rfl ?_
                refine g_idiv (pc := 172) (v := 0) dc_M_readPort_172 (by decide) (by decide) ?_
                refine g_istore (pc := 173) dc_M_readPort_173 (by decide) ?_
                show am_G X mt_M_readPort _ 175 [some (.ref 84), some (.ref ca), some (.int (nI (s + c))), some (.int (nI (s + t))), some (.int (nI (dgs L (c + 1) (t - (c + 1))))), some (.int 0)] [] _ _
                refine g_goto (pc := 175) (tgt := 132) dc_M_readPort_175 rfl ?_
                refine g_iload (pc := 132) dc_M_readPort_132 rfl ?_
                refine g_if_le (pc := 134) (tgt := 178) dc_M_readPort_134 rfl (fun _ => ?_) (fun hc => absurd hc (by decide))
                refine g_iconst (pc := 178) (v := 1) dc_M_readPort_178 rfl ?_
                have e9 : mpt L c t = some (some (dgs L (c + 1) (t - (c + 1)))) := by unfold mpt; rw [if_pos ⟨h58, h6⟩, if_pos hal, if_neg (by omega), if_pos (by omega)]
                have e8 : ptx (some (some (dgs L (c + 1) (t - (c + 1))))) = 58 :: [nI (48 + dgs L (c + 1) (t - (c + 1)) / 1000 % 10), nI (48 + dgs L (c + 1) (t - (c + 1)) / 100 % 10), nI (48 + dgs L (c + 1) (t - (c + 1)) / 10 % 10), nI (48 + dgs L (c + 1) (t - (c + 1)) / 1 % 10)] := by show 58 :: pdg _ = _; unfold pdg; rw [if_neg (by omega), if_neg (by omega), if_neg (by omega), if_pos (by omega)]
                exact g_zreturn dc_M_readPort_179 rfl rfl ⟨by rw [e9]; rfl, by rw [e9, e8]; rfl⟩
              · refine g_iload (pc := 122) dc_M_readPort_122 rfl ?_
                refine g_bipush (pc := 124) (v := 10) dc_M_readPort_124 rfl ?_
                refine g_imul (pc := 126) (v := 10000) dc_M_readPort_126 (by decide) ?_
                refine g_istore (pc := 127) dc_M_readPort_127 (by decide) ?_
                show am_G X mt_M_readPort _ 129 [some (.ref 84), some (.ref ca), some (.int (nI (s + c))), some (.int (nI (s + t))), some (.int (nI (dgs L (c + 1) (t - (c + 1))))), some (.int 10000)] [] _ _
                refine g_goto (pc := 129) (tgt := 112) dc_M_readPort_129 rfl ?_
                refine g_iload (pc := 112) dc_M_readPort_112 rfl ?_
                refine g_iload (pc := 114) dc_M_readPort_114 rfl ?_
                refine g_idiv (pc := 116) (v := (nI ((dgs L (c + 1) (t - (c + 1))) / 10000))) dc_M_readPort_116 (by decide) (pk_div (a := dgs L (c + 1) (t - (c + 1))) (d := 10000) (by omega) (by omega) (by omega)) ?_
                refine g_bipush (pc := 117) (v := 9) dc_M_readPort_117 rfl ?_
                refine q_icmp_le (pc := 119) (tgt := 132) ((dgs L (c + 1) (t - (c + 1))) / 10000) 9 dc_M_readPort_119 (by omega) (by omega) rfl (fun hc119zzzz => ?_) (fun hc => absurd hc (by omega))
                refine g_iload (pc := 132) dc_M_readPort_132 rfl ?_
                refine g_if_le (pc := 134) (tgt := 178) dc_M_readPort_134 rfl (fun hc => absurd hc (by decide)) (fun _ => ?_)
                refine g_aload_n (pc := 137) dc_M_readPort_137 rfl ?_
                refine g_getfield (pc := 138) dc_M_readPort_138 fl_M_67 (mp_o hA) rfl ?_
                refine g_aload_n (pc := 141) dc_M_readPort_141 rfl ?_
                refine g_getfield (pc := 142) dc_M_readPort_142 fl_M_64 (mp_o hA) rfl ?_
                refine g_bipush (pc := 145) (v := 48) dc_M_readPort_145 rfl ?_
                refine g_iload (pc := 147) dc_M_readPort_147 rfl ?_
                refine g_iload (pc := 149) dc_M_readPort_149 rfl ?_
                refine g_idiv (pc := 151) (v := (nI ((dgs L (c + 1) (t - (c + 1))) / 10000))) dc_M_readPort_151 (by decide) (pk_div (a := dgs L (c + 1) (t - (c + 1))) (d := 10000) (by omega) (by omega) (by omega)) ?_
                refine g_bipush (pc := 152) (v := 10) dc_M_readPort_152 rfl ?_
                refine g_irem (pc := 154) (v := (nI (((dgs L (c + 1) (t - (c + 1))) / 10000) % 10))) dc_M_readPort_154 (by decide) (q_rem (a := (dgs L (c + 1) (t - (c + 1))) / 10000) (d := 10) (by omega) (by omega) (by omega)) ?_
                refine g_iadd (pc := 155) (v := (nI (48 + (((dgs L (c + 1) (t - (c + 1))) / 10000) % 10)))) dc_M_readPort_155 (nI_add 48 (((dgs L (c + 1) (t - (c + 1))) / 10000) % 10)) ?_
                refine g_i2b (pc := 156) dc_M_readPort_156 (i8_bt (bt_nI (by omega))) ?_
                refine asE_host (pc := 157) (n + 1) (g := wrt S.host n [58, nI (48 + (((dgs L (c + 1) (t - (c + 1))) / 10000) % 10))]) hA dc_M_readPort_157 (by omega) (wrt_put (D := [58]) (nar_bt (bt_nI (by omega))) (by show _ = n + 1; omega)) ?_
                refine g_aload_n (pc := 158) dc_M_readPort_158 rfl ?_
                refine g_dup (pc := 159) dc_M_readPort_159 rfl ?_
                refine g_getfield (pc := 160) dc_M_readPort_160 fl_M_64 (mp_o hA) rfl ?_
                refine g_iconst (pc := 163) (v := 1) dc_M_readPort_163 rfl ?_
                refine g_iadd (pc := 164) (v := (nI (n + 2))) dc_M_readPort_164 ((nI_add (n + 1) 1).trans (congrArg nI (by omega))) ?_
                refine pf_hostLength (pc := 165) (v := n + 2) hA dc_M_readPort_165 fp_M_readPort_64 ?_
                refine g_iload (pc := 168) dc_M_readPort_168 rfl ?_
                refine g_bipush (pc := 170) (v := 10) dc_M_readPort_170 rfl ?_
                refine g_idiv (pc := 172) (v := 1000) dc_M_readPort_172 (by decide) (by decide) ?_
                refine g_istore (pc := 173) dc_M_readPort_173 (by decide) ?_
                show am_G X mt_M_readPort _ 175 [some (.ref 84), some (.ref ca), some (.int (nI (s + c))), some (.int (nI (s + t))), some (.int (nI (dgs L (c + 1) (t - (c + 1))))), some (.int 1000)] [] _ _
                refine g_goto (pc := 175) (tgt := 132) dc_M_readPort_175 rfl ?_
                refine g_iload (pc := 132) dc_M_readPort_132 rfl ?_
                refine g_if_le (pc := 134) (tgt := 178) dc_M_readPort_134 rfl (fun hc => absurd hc (by decide)) (fun _ => ?_)
                refine g_aload_n (pc := 137) dc_M_readPort_137 rfl ?_
                refine g_getfield (pc := 138) dc_M_readPort_138 fl_M_67 (mp_o hA) rfl ?_
                refine g_aload_n (pc := 141) dc_M_readPort_141 rfl ?_
                refine g_getfield (pc := 142) dc_M_readPort_142 fl_M_64 (mp_o hA) rfl ?_
                refine g_bipush (pc := 145) (v := 48) dc_M_readPort_145 rfl ?_
                refine g_iload (pc := 147) dc_M_readPort_147 rfl ?_
                refine g_iload (pc := 149) dc_M_readPort_149 rfl ?_
                refine g_idiv (pc := 151) (v := (nI ((dgs L (c + 1) (t - (c + 1))) / 1000))) dc_M_readPort_151 (by decide) (pk_div (a := dgs L (c + 1) (t - (c + 1))) (d := 1000) (by omega) (by omega) (by omega)) ?_
                refine g_bipush (pc := 152) (v := 10) dc_M_readPort_152 rfl ?_
                refine g_irem (pc := 154) (v := (nI (((dgs L (c + 1) (t - (c + 1))) / 1000) % 10))) dc_M_readPort_154 (by decide) (q_rem (a := (dgs L (c + 1) (t - (c + 1))) / 1000) (d := 10) (by omega) (by omega) (by omega)) ?_
                refine g_iadd (pc := 155) (v := (nI (48 + (((dgs L (c + 1) (t - (c + 1))) / 1000) % 10)))) dc_M_readPort_155 (nI_add 48 (((dgs L (c + 1) (t - (c + 1))) / 1000) % 10)) ?_
                refine g_i2b (pc := 156) dc_M_readPort_156 (i8_bt (bt_nI (by omega))) ?_
                refine asE_host (pc := 157) (n + 2) (g := wrt S.host n [58, nI (48 + (((dgs L (c + 1) (t - (c + 1))) / 10000) % 10)), nI (48 + (((dgs L (c + 1) (t - (c + 1))) / 1000) % 10))]) hA dc_M_readPort_157 (by omega) (wrt_put (D := [58, nI (48 + (((dgs L (c + 1) (t - (c + 1))) / 10000) % 10))]) (nar_bt (bt_nI (by omega))) (by show _ = n + 2; omega)) ?_
                refine g_aload_n (pc := 158) dc_M_readPort_158 rfl ?_
                refine g_dup (pc := 159) dc_M_readPort_159 rfl ?_
                refine g_getfield (pc := 160) dc_M_readPort_160 fl_M_64 (mp_o hA) rfl ?_
                refine g_iconst (pc := 163) (v := 1) dc_M_readPort_163 rfl ?_
                refine g_iadd (pc := 164) (v := (nI (n + 3))) dc_M_readPort_164 ((nI_add (n + 2) 1).trans (congrArg nI (by omega))) ?_
                refine pf_hostLength (pc := 165) (v := n + 3) hA dc_M_readPort_165 fp_M_readPort_64 ?_
                refine g_iload (pc := 168) dc_M_readPort_168 rfl ?_
                refine g_bipush (pc := 170) (v := 10) dc_M_readPort_170 rfl ?_
                refine g_idiv (pc := 172) (v := 100) dc_M_readPort_172 (by decide) (by decide) ?_
                refine g_istore (pc := 173) dc_M_readPort_173 (by decide) ?_
                show am_G X mt_M_readPort _ 175 [some (.ref 84), some (.ref ca), some (.int (nI (s + c))), some (.int (nI (s + t))), some (.int (nI (dgs L (c + 1) (t - (c + 1))))), some (.int 100)] [] _ _
                refine g_goto (pc := 175) (tgt := 132) dc_M_readPort_175 rfl ?_
                refine g_iload (pc := 132) dc_M_readPort_132 rfl ?_
                refine g_if_le (pc := 134) (tgt := 178) dc_M_readPort_134 rfl (fun hc => absurd hc (by decide)) (fun _ => ?_)
                refine g_aload_n (pc := 137) dc_M_readPort_137 rfl ?_
                refine g_getfield (pc := 138) dc_M_readPort_138 fl_M_67 (mp_o hA) rfl ?_
                refine g_aload_n (pc := 141) dc_M_readPort_141 rfl ?_
                refine g_getfield (pc := 142) dc_M_readPort_142 fl_M_64 (mp_o hA) rfl ?_
                refine g_bipush (pc := 145) (v := 48) dc_M_readPort_145 rfl ?_
                refine g_iload (pc := 147) dc_M_readPort_147 rfl ?_
                refine g_iload (pc := 149) dc_M_readPort_149 rfl ?_
                refine g_idiv (pc := 151) (v := (nI ((dgs L (c + 1) (t - (c + 1))) / 100))) dc_M_readPort_151 (by decide) (pk_div (a := dgs L (c + 1) (t - (c + 1))) (d := 100) (by omega) (by omega) (by omega)) ?_
                refine g_bipush (pc := 152) (v := 10) dc_M_readPort_152 rfl ?_
                refine g_irem (pc := 154) (v := (nI (((dgs L (c + 1) (t - (c + 1))) / 100) % 10))) dc_M_readPort_154 (by decide) (q_rem (a := (dgs L (c + 1) (t - (c + 1))) / 100) (d := 10) (by omega) (by omega) (by omega)) ?_
                refine g_iadd (pc := 155) (v := (nI (48 + (((dgs L (c + 1) (t - (c + 1))) / 100) % 10)))) dc_M_readPort_155 (nI_add 48 (((dgs L (c + 1) (t - (c + 1))) / 100) % 10)) ?_
                refine g_i2b (pc := 156) dc_M_readPort_156 (i8_bt (bt_nI (by omega))) ?_
                refine asE_host (pc := 157) (n + 3) (g := wrt S.host n [58, nI (48 + (((dgs L (c + 1) (t - (c + 1))) / 10000) % 10)), nI (48 + (((dgs L (c + 1) (t - (c + 1))) / 1000) % 10)), nI (48 + (((dgs L (c + 1) (t - (c + 1))) / 100) % 10))]) hA dc_M_readPort_157 (by omega) (wrt_put (D := [58, nI (48 + (((dgs L (c + 1) (t - (c + 1))) / 10000) % 10)), nI (48 + (((dgs L (c + 1) (t - (c + 1))) / 1000) % 10))]) (nar_bt (bt_nI (by omega))) (by show _ = n + 3; omega)) ?_
                refine g_aload_n (pc := 158) dc_M_readPort_158 rfl ?_
                refine g_dup (pc := 159) dc_M_readPort_159 rfl ?_
                refine g_getfield (pc := 160) dc_M_readPort_160 fl_M_64 (mp_o hA) rfl ?_
                refine g_iconst (pc := 163) (v := 1) dc_M_readPort_163 rfl ?_
                refine g_iadd (pc := 164) (v := (nI (n + 4))) dc_M_readPort_164 ((nI_add (n + 3) 1).trans (congrArg nI (by omega))) ?_
                refine pf_hostLength (pc := 165) (v := n + 4) hA dc_M_readPort_165 fp_M_readPort_64 ?_
                refine g_iload (pc := 168) dc_M_readPort_168 rfl ?_
                refine g_bipush (pc := 170) (v := 10) dc_M_readPort_170 rfl ?_
                refine g_idiv (pc := 172) (v := 10) dc_M_readPort_172 (by decide) (by decide) ?_
                refine g_istore (pc := 173) dc_M_readPort_173 (by decide) ?_
                show am_G X mt_M_readPort _ 175 [some (.ref 84), some (.ref ca), some (.int (nI (s + c))), some (.int (nI (s + t))), some (.int (nI (dgs L (c + 1) (t - (c + 1))))), some (.int 10)] [] _ _
                refine g_goto (pc := 175) (tgt := 132) dc_M_readPort_175 rfl ?_
                refine g_iload (pc := 132) dc_M_readPort_132 rfl ?_
                refine g_if_le (pc := 134) (tgt := 178) dc_M_readPort_134 rfl (fun hc => absurd hc (by decide)) (fun _ => ?_)
                refine g_aload_n (pc := 137) dc_M_readPort_137 rfl ?_
                refine g_getfield (pc := 138) dc_M_readPort_138 fl_M_67 (mp_o hA) rfl ?_
                refine g_aload_n (pc := 141) dc_M_readPort_141 rfl ?_
                refine g_getfield (pc := 142) dc_M_readPort_142 fl_M_64 (mp_o hA) rfl ?_
                refine g_bipush (pc := 145) (v := 48) dc_M_readPort_145 rfl ?_
                refine g_iload (pc := 147) dc_M_readPort_147 rfl ?_
                refine g_iload (pc := 149) dc_M_readPort_149 rfl ?_
                refine g_idiv (pc := 151) (v := (nI ((dgs L (c + 1) (t - (c + 1))) / 10))) dc_M_readPort_151 (by decide) (pk_div (a := dgs L (c + 1) (t - (c + 1))) (d := 10) (by omega) (by omega) (by omega)) ?_
                refine g_bipush (pc := 152) (v := 10) dc_M_readPort_152 rfl ?_
                refine g_irem (pc := 154) (v := (nI (((dgs L (c + 1) (t - (c + 1))) / 10) % 10))) dc_M_readPort_154 (by decide) (q_rem (a := (dgs L (c + 1) (t - (c + 1))) / 10) (d := 10) (by omega) (by omega) (by omega)) ?_
                refine g_iadd (pc := 155) (v := (nI (48 + (((dgs L (c + 1) (t - (c + 1))) / 10) % 10)))) dc_M_readPort_155 (nI_add 48 (((dgs L (c + 1) (t - (c + 1))) / 10) % 10)) ?_
                refine g_i2b (pc := 156) dc_M_readPort_156 (i8_bt (bt_nI (by omega))) ?_
                refine asE_host (pc := 157) (n + 4) (g := wrt S.host n [58, nI (48 + (((dgs L (c + 1) (t - (c + 1))) / 10000) % 10)), nI (48 + (((dgs L (c + 1) (t - (c + 1))) / 1000) % 10)), nI (48 + (((dgs L (c + 1) (t - (c + 1))) / 100) % 10)), nI (48 + (((dgs L (c + 1) (t - (c + 1))) / 10) % 10))]) hA dc_M_readPort_157 (by omega) (wrt_put (D := [58, nI (48 + (((dgs L (c + 1) (t - (c + 1))) / 10000) % 10)), nI (48 + (((dgs L (c + 1) (t - (c + 1))) / 1000) % 10)), nI (48 + (((dgs L (c + 1) (t - (c + 1))) / 100) % 10))]) (nar_bt (bt_nI (by omega))) (by show _ = n + 4; omega)) ?_
                refine g_aload_n (pc := 158) dc_M_readPort_158 rfl ?_
                refine g_dup (pc := 159) dc_M_readPort_159 rfl ?_
                refine g_getfield (pc := 160) dc_M_readPort_160 fl_M_64 (mp_o hA) rfl ?_
                refine g_iconst (pc := 163) (v := 1) dc_M_readPort_163 rfl ?_
                refine g_iadd (pc := 164) (v := (nI (n + 5))) dc_M_readPort_164 ((nI_add (n + 4) 1).trans (congrArg nI (by omega))) ?_
                refine pf_hostLength (pc := 165) (v := n + 5) hA dc_M_readPort_165 fp_M_readPort_64 ?_
                refine g_iload (pc := 168) dc_M_readPort_168 rfl ?_
                refine g_bipush (pc := 170) (v := 10) dc_M_readPort_170 rfl ?_
                refine g_idiv (pc := 172) (v := 1) dc_M_readPort_172 (by decide) (by decide) ?_
                refine g_istore (pc := 173) dc_M_readPort_173 (by decide) ?_
                show am_G X mt_M_readPort _ 175 [some (.ref 84), some (.ref ca), some (.int (nI (s + c))), some (.int (nI (s + t))), some (.int (nI (dgs L (c + 1) (t - (c + 1))))), some (.int 1)] [] _ _
                refine g_goto (pc := 175) (tgt := 132) dc_M_readPort_175 rfl ?_
                refine g_iload (pc := 132) dc_M_readPort_132 rfl ?_
                refine g_if_le (pc := 134) (tgt := 178) dc_M_readPort_134 rfl (fun hc => absurd hc (by decide)) (fun _ => ?_)
                refine g_aload_n (pc := 137) dc_M_readPort_137 rfl ?_
                refine g_getfield (pc := 138) dc_M_readPort_138 fl_M_67 (mp_o hA) rfl ?_
                refine g_aload_n (pc := 141) dc_M_readPort_141 rfl ?_
                refine g_getfield (pc := 142) dc_M_readPort_142 fl_M_64 (mp_o hA) rfl ?_
                refine g_bipush (pc := 145) (v := 48) dc_M_readPort_145 rfl ?_
                refine g_iload (pc := 147) dc_M_readPort_147 rfl ?_
                refine g_iload (pc := 149) dc_M_readPort_149 rfl ?_
                refine g_idiv (pc := 151) (v := (nI ((dgs L (c + 1) (t - (c + 1))) / 1))) dc_M_readPort_151 (by decide) (pk_div (a := dgs L (c + 1) (t - (c + 1))) (d := 1) (by omega) (by omega) (by omega)) ?_
                refine g_bipush (pc := 152) (v := 10) dc_M_readPort_152 rfl ?_
                refine g_irem (pc := 154) (v := (nI (((dgs L (c + 1) (t - (c + 1))) / 1) % 10))) dc_M_readPort_154 (by decide) (q_rem (a := (dgs L (c + 1) (t - (c + 1))) / 1) (d := 10) (by omega) (by omega) (by omega)) ?_
                refine g_iadd (pc := 155) (v := (nI (48 + (((dgs L (c + 1) (t - (c + 1))) / 1) % 10)))) dc_M_readPort_155 (nI_add 48 (((dgs L (c + 1) (t - (c + 1))) / 1) % 10)) ?_
                refine g_i2b (pc := 156) dc_M_readPort_156 (i8_bt (bt_nI (by omega))) ?_
                refine asE_host (pc := 157) (n + 5) (g := wrt S.host n [58, nI (48 + (((dgs L (c + 1) (t - (c + 1))) / 10000) % 10)), nI (48 + (((dgs L (c + 1) (t - (c + 1))) / 1000) % 10)), nI (48 + (((dgs L (c + 1) (t - (c + 1))) / 100) % 10)), nI (48 + (((dgs L (c + 1) (t - (c + 1))) / 10) % 10)), nI (48 + (((dgs L (c + 1) (t - (c + 1))) / 1) % 10))]) hA dc_M_readPort_157 (by omega) (wrt_put (D := [58, nI (48 + (((dgs L (c + 1) (t - (c + 1))) / 10000) % 10)), nI (48 + (((dgs L (c + 1) (t - (c + 1))) / 1000) % 10)), nI (48 + (((dgs L (c + 1) (t - (c + 1))) / 100) % 10)), nI (48 + (((dgs L (c + 1) (t - (c + 1))) / 10) % 10))]) (nar_bt (bt_nI (by omega))) (by show _ = n + 5; omega)) ?_
                refine g_aload_n (pc := 158) dc_M_readPort_158 rfl ?_
                refine g_dup (pc := 159) dc_M_readPort_159 rfl ?_
                refine g_getfield (pc := 160) dc_M_readPort_160 fl_M_64 (mp_o hA) rfl ?_
                refine g_iconst (pc := 163) (v := 1) dc_M_readPort_163 rfl ?_
                refine g_iadd (pc := 164) (v := (nI (n + 6))) dc_M_readPort_164 ((nI_add (n + 5) 1).trans (congrArg nI (by omega))) ?_
                refine pf_hostLength (pc := 165) (v := n + 6) hA dc_M_readPort_165 fp_M_readPort_64 ?_
                refine g_iload (pc := 168) dc_M_readPort_168 rfl ?_
                refine g_bipush (pc := 170) (v := 10) dc_M_readPort_170 rfl ?_
                refine g_idiv (pc := 172) (v := 0) dc_M_readPort_172 (by decide) (by decide) ?_
                refine g_istore (pc := 173) dc_M_readPort_173 (by decide) ?_
                show am_G X mt_M_readPort _ 175 [some (.ref 84), some (.ref ca), some (.int (nI (s + c))), some (.int (nI (s + t))), some (.int (nI (dgs L (c + 1) (t - (c + 1))))), some (.int 0)] [] _ _
                refine g_goto (pc := 175) (tgt := 132) dc_M_readPort_175 rfl ?_
                refine g_iload (pc := 132) dc_M_readPort_132 rfl ?_
                refine g_if_le (pc := 134) (tgt := 178) dc_M_readPort_134 rfl (fun _ => ?_) (fun hc => absurd hc (by decide))
                refine g_iconst (pc := 178) (v := 1) dc_M_readPort_178 rfl ?_
                have e9 : mpt L c t = some (some (dgs L (c + 1) (t - (c + 1)))) := by unfold mpt; rw [if_pos ⟨h58, h6⟩, if_pos hal, if_neg (by omega), if_pos (by omega)]
                have e8 : ptx (some (some (dgs L (c + 1) (t - (c + 1))))) = 58 :: [nI (48 + dgs L (c + 1) (t - (c + 1)) / 10000 % 10), nI (48 + dgs L (c + 1) (t - (c + 1)) / 1000 % 10), nI (48 + dgs L (c + 1) (t - (c + 1)) / 100 % 10), nI (48 + dgs L (c + 1) (t - (c + 1)) / 10 % 10), nI (48 + dgs L (c + 1) (t - (c + 1)) / 1 % 10)] := by show 58 :: pdg _ = _; unfold pdg; rw [if_neg (by omega), if_neg (by omega), if_neg (by omega), if_neg (by omega)]
                exact g_zreturn dc_M_readPort_179 rfl rfl ⟨by rw [e9]; rfl, by rw [e9, e8]; rfl⟩
  · refine g_iconst (pc := 72) (v := 0) dc_M_readPort_72 rfl ?_
    have e9 : mpt L c t = none := by unfold mpt; rw [if_pos ⟨h58, h6⟩, if_pos hal, if_pos (by omega)]
    exact g_zreturn dc_M_readPort_73 rfl rfl ⟨by rw [e9]; rfl, by rw [e9]; show mput A S B = mput A ((S.s_host (wrt S.host n [])).s_hostLength n) B; rw [wrt_nil, ← hn]; rfl⟩
theorem l_M_readPort (hA : A.length = 84) (hn : S.hostLength = n) (hn60 : n ≤ 60) (hx : tt (mput A S B) ca s L) (hct : c < t) (ht : t ≤ L.length) (h58 : gx L c = 58) (h6 : t - c ≤ 6) : ∀ q i : Nat, i + q = t → c + 1 ≤ i → (∀ j, c + 1 ≤ j → j < i → isDi (gx L j) = true) → am_G X mt_M_readPort (d + 1) 26 [some (.ref 84), some (.ref ca), some (.int (nI (s + c))), some (.int (nI (s + t))), some (.int (nI (dgs L (c + 1) (i - (c + 1))))), some (.int (nI (s + i)))] [] (mput A S B) (fun r h1 => r = some (.int (b1 (mpt L c t).isSome)) ∧ h1 = mput A ((S.s_host (wrt S.host n (ptx (mpt L c t)))).s_hostLength (n + (ptx (mpt L c t)).length)) B)
  | 0, i, e, hfi, hp => by
    obtain rfl : i = t := by omega
    have hx0 := hx
    obtain ⟨cap, g, ha, hT, hs, hc⟩ := hx
    refine g_iload (pc := 26) dc_M_readPort_26 rfl ?_
    refine g_iload_n (pc := 28) dc_M_readPort_28 rfl ?_
    refine q_icmp_ge (pc := 29) (tgt := 65) (s + i) (s + i) dc_M_readPort_29 (by omega) (by omega) rfl (fun hc29 => ?_) (fun hc => absurd hc (by omega))
    exact u_M_readPort hA hn hn60 hx0 hct ht h58 h6 hp
  | q + 1, i, e, hfi, hp => by
    have hlt := dgs_l5 (L := L) (f := c + 1) (n := i - (c + 1)) (by omega) (fun j h1 h2 => hp j h1 (by omega))
    have hx0 := hx
    obtain ⟨cap, g, ha, hT, hs, hc⟩ := hx
    refine g_iload (pc := 26) dc_M_readPort_26 rfl ?_
    refine g_iload_n (pc := 28) dc_M_readPort_28 rfl ?_
    refine q_icmp_ge (pc := 29) (tgt := 65) (s + i) (s + t) dc_M_readPort_29 (by omega) (by omega) rfl (fun hc => absurd hc (by omega)) (fun hc29 => ?_)
    refine g_aload_n (pc := 32) dc_M_readPort_32 rfl ?_
    refine g_iload (pc := 33) dc_M_readPort_33 rfl ?_
    refine q_tx (pc := 35) i dc_M_readPort_35 ha hT hs (by omega) hc ?_
    refine g_s1 (pc := 36) (M' := mt_M_isDigit) dc_M_readPort_36 mo_M_isDigit st_M_isDigit ln_M_11 (Nat.le_of_ble_eq_true rfl) (Nat.le_of_ble_eq_true rfl) (am_G.mono (c_M_isDigit (v := (gx L i))) ?_)
    intro r h1 hq
    rw [hq.1, hq.2]
    clear hq h1 r
    refine ⟨am_nti _, ?_⟩
    refine q_ifb_ne (pc := 39) (tgt := 44) dc_M_readPort_39 rfl (fun hc39 => ?_) (fun hc39 => ?_)
    · refine g_bipush (pc := 44) (v := 10) dc_M_readPort_44 rfl ?_
      refine g_iload (pc := 46) dc_M_readPort_46 rfl ?_
      refine g_imul (pc := 48) (v := (nI (10 * (dgs L (c + 1) (i - (c + 1)))))) dc_M_readPort_48 (pk_mul 10 (dgs L (c + 1) (i - (c + 1)))) ?_
      refine g_aload_n (pc := 49) dc_M_readPort_49 rfl ?_
      refine g_iload (pc := 50) dc_M_readPort_50 rfl ?_
      refine q_tx (pc := 52) i dc_M_readPort_52 ha hT hs (by omega) hc ?_
      refine g_iadd (pc := 53) (v := (nI (10 * dgs L (c + 1) (i - (c + 1)) + (dg (gx L i) + 48)))) dc_M_readPort_53 (dg_add hc39) ?_
      refine g_bipush (pc := 54) (v := 48) dc_M_readPort_54 rfl ?_
      refine g_isub (pc := 56) (v := (nI (dgs L (c + 1) (i + 1 - (c + 1))))) dc_M_readPort_56 (by rw [show (48 : Int32) = nI 48 from rfl, pk_sub (by omega), show i + 1 - (c + 1) = (i - (c + 1)) + 1 by omega]; show _ = nI (10 * dgs L (c + 1) (i - (c + 1)) + dg (gx L (c + 1 + (i - (c + 1))))); rw [show c + 1 + (i - (c + 1)) = i by omega]; exact congrArg nI (by omega)) ?_
      refine g_istore (pc := 57) dc_M_readPort_57 (by decide) ?_
      show am_G X mt_M_readPort _ 59 [some (.ref 84), some (.ref ca), some (.int (nI (s + c))), some (.int (nI (s + t))), some (.int (nI (dgs L (c + 1) (i + 1 - (c + 1))))), some (.int (nI (s + i)))] [] _ _
      refine g_iinc (pc := 59) (v := (nI (s + (i + 1)))) dc_M_readPort_59 rfl (q_as s i 1) (by decide) ?_
      show am_G X mt_M_readPort _ 62 [some (.ref 84), some (.ref ca), some (.int (nI (s + c))), some (.int (nI (s + t))), some (.int (nI (dgs L (c + 1) (i + 1 - (c + 1))))), some (.int (nI (s + (i + 1))))] [] _ _
      refine g_goto (pc := 62) (tgt := 26) dc_M_readPort_62 rfl ?_
      exact l_M_readPort hA hn hn60 hx0 hct ht h58 h6 q (i + 1) (by omega) (by omega) (fun j h1 h2 => by
        rcases Nat.eq_or_lt_of_le (Nat.le_of_lt_succ h2) with e9 | e9
        · rw [e9]; exact hc39
        · exact hp j h1 e9)
    · refine g_iconst (pc := 42) (v := 0) dc_M_readPort_42 rfl ?_
      have e9 : mpt L c t = none := by unfold mpt; rw [if_pos ⟨h58, h6⟩, if_neg (fun h9 => by rw [alp_iff.mp h9 i hfi (by omega)] at hc39; cases hc39)]
      exact g_zreturn dc_M_readPort_43 rfl rfl ⟨by rw [e9]; rfl, by rw [e9]; show mput A S B = mput A ((S.s_host (wrt S.host n [])).s_hostLength n) B; rw [wrt_nil, ← hn]; rfl⟩
theorem c_M_readPort (hA : A.length = 84) (hn : S.hostLength = n) (hn60 : n ≤ 60) (hx : tt (mput A S B) ca s L) (hct : c < t) (ht : t ≤ L.length) : am_C X mt_M_readPort (d + 1) [.ref 84, .ref ca, .int (nI (s + c)), .int (nI (s + t))] (mput A S B) (fun r h1 => r = some (.int (b1 (mpt L c t).isSome)) ∧ h1 = mput A ((S.s_host (wrt S.host n (ptx (mpt L c t)))).s_hostLength (n + (ptx (mpt L c t)).length)) B) := by
  show am_G X mt_M_readPort (d + 1) 0 [some (.ref 84), some (.ref ca), some (.int (nI (s + c))), some (.int (nI (s + t))), none, none] [] (mput A S B) _
  have hx0 := hx
  obtain ⟨cap, g, ha, hT, hs, hc⟩ := hx
  refine g_aload_n (pc := 0) dc_M_readPort_0 rfl ?_
  refine g_iload_n (pc := 1) dc_M_readPort_1 rfl ?_
  refine q_tx (pc := 2) c dc_M_readPort_2 ha hT hs (by omega) hc ?_
  refine g_bipush (pc := 3) (v := 58) dc_M_readPort_3 rfl ?_
  refine g_icmp_ne (pc := 5) (tgt := 16) dc_M_readPort_5 rfl (fun hc5 => ?_) (fun hc5 => ?_)
  · refine g_iconst (pc := 16) (v := 0) dc_M_readPort_16 rfl ?_
    have e9 : mpt L c t = none := by unfold mpt; rw [if_neg (fun h9 => by first | exact hc5 h9.1 | omega)]
    exact g_zreturn dc_M_readPort_17 rfl rfl ⟨by rw [e9]; rfl, by rw [e9]; show mput A S B = mput A ((S.s_host (wrt S.host n [])).s_hostLength n) B; rw [wrt_nil, ← hn]; rfl⟩
  · refine g_iload_n (pc := 8) dc_M_readPort_8 rfl ?_
    refine g_iload_n (pc := 9) dc_M_readPort_9 rfl ?_
    refine g_isub (pc := 10) (v := (nI (t - c))) dc_M_readPort_10 (q_ss (s := s) (a := t) (b := c) (by omega)) ?_
    refine g_bipush (pc := 11) (v := 6) dc_M_readPort_11 rfl ?_
    refine q_icmp_le (pc := 13) (tgt := 18) (t - c) 6 dc_M_readPort_13 (by omega) (by omega) rfl (fun hc13 => ?_) (fun hc13 => ?_)
    · refine g_iconst (pc := 18) (v := 0) dc_M_readPort_18 rfl ?_
      refine g_istore (pc := 19) dc_M_readPort_19 (by decide) ?_
      show am_G X mt_M_readPort _ 21 [some (.ref 84), some (.ref ca), some (.int (nI (s + c))), some (.int (nI (s + t))), some (.int 0), none] [] _ _
      refine g_iload_n (pc := 21) dc_M_readPort_21 rfl ?_
      refine g_iconst (pc := 22) (v := 1) dc_M_readPort_22 rfl ?_
      refine g_iadd (pc := 23) (v := (nI (s + (c + 1)))) dc_M_readPort_23 (q_as s c 1) ?_
      refine g_istore (pc := 24) dc_M_readPort_24 (by decide) ?_
      show am_G X mt_M_readPort _ 26 [some (.ref 84), some (.ref ca), some (.int (nI (s + c))), some (.int (nI (s + t))), some (.int 0), some (.int (nI (s + (c + 1))))] [] _ _
      have h9 := l_M_readPort (X := X) (d := d) hA hn hn60 hx0 hct ht hc5 (by omega) (t - (c + 1)) (c + 1) (by omega) (Nat.le_refl _) (fun j h1 h2 => absurd h2 (by omega))
      rw [Nat.sub_self] at h9
      exact h9
    · refine g_iconst (pc := 16) (v := 0) dc_M_readPort_16 rfl ?_
      have e9 : mpt L c t = none := by unfold mpt; rw [if_neg (fun h9 => by first | exact hc5 h9.1 | omega)]
      exact g_zreturn dc_M_readPort_17 rfl rfl ⟨by rw [e9]; rfl, by rw [e9]; show mput A S B = mput A ((S.s_host (wrt S.host n [])).s_hostLength n) B; rw [wrt_nil, ← hn]; rfl⟩
end MHO
