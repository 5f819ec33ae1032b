/-! ===== the class's scanner: script, style; href ===== -/
/-- no closing tag of that name begins at j -/
def rwP (i : Nat) (L : List Int32) (j : Nat) : Bool := !((isBl (gx L (j + cln i)) || (decide (gx L (j + cln i) = 47) || decide (gx L (j + cln i) = 62))) && isw i L j (j + cln i))
def rwE (i : Nat) (L : List Int32) (f : Nat) : Nat := if fx (rwP i L) f (L.length - cln i) + cln i < L.length then fx (rwP i L) f (L.length - cln i) else L.length
def rwT (L : List Int32) (nf nt : Nat) (cl : Bool) (f : Nat) : Nat := if cl = true ∨ ¬ (isw 16 L nf nt = true ∨ isw 17 L nf nt = true) then f else rwE (if nt - nf = 6 then 18 else 19) L f
section SCO
variable {X : am_X} {d a c s p f i k nf nt : Nat} {h : List va_E} {L : List Int32} {w0 w1 w2 : Int32} {cl : Bool}
theorem v_S_rawTo {Q : Option Value → List va_E → Prop}  (hS : h[a]? = some (.inr (5, [.int w0, .int w1, .int w2, .int (nI (s + p)), .ref c, .int (nI (s + L.length)), .int (nI (s + nf)), .int (nI (s + nt)), .int (b1 cl)]))) (hx : tt h c s L) {nm : Nat} (hi : nm < 42) : ∀ n i : Nat, i + n = (L.length - cln nm) → am_G X mt_S_rawTo (d + 5) 84 [some (.ref a), some (.int (nI (s + f))), some (.int 1), some (.retAddr nm), some (.int (nI (s + (fx (rwP nm L) i (L.length - cln nm))))), none] [] h Q → am_G X mt_S_rawTo (d + 5) 84 [some (.ref a), some (.int (nI (s + f))), some (.int 1), some (.retAddr nm), some (.int (nI (s + i))), none] [] h Q
  | 0, i, e, K => by
    have e1 : fx (rwP nm L) i (L.length - cln nm) = i := fx_0 (by omega)
    rw [e1] at K
    exact K
  | n + 1, i, e, K => by
    by_cases hp : (rwP nm L) i = true
    · rw [fx_t (P := rwP nm L) (f := i) (t := (L.length - cln nm)) (by omega) hp] at K
      have hx0 := hx
      obtain ⟨cap, g, ha, hT, hs, hc⟩ := hx
      have hcl := ch_len hi
      refine g_iload (pc := 84) dc_S_rawTo_84 rfl ?_
      refine g_xload_n (pc := 86) dc_S_rawTo_86 rfl ?_
      refine g_x0 (pc := 87) (M' := mt_JString_length) dc_S_rawTo_87 mo_JString_length im_JString_length se_JString_length (am_t5 181 rfl rfl) hi (Nat.le_of_ble_eq_true rfl) (Nat.le_of_ble_eq_true rfl) (am_G.mono (c_strLen hi) ?_)
      intro r h1 hq
      rw [hq.1, hq.2]
      clear hq h1 r
      refine ⟨am_nti _, ?_⟩
      refine g_iadd (pc := 90) (v := (nI (s + (i + (cln nm))))) dc_S_rawTo_90 (q_as s i (cln nm)) ?_
      refine g_aload_n (pc := 91) dc_S_rawTo_91 rfl ?_
      refine g_getfield (pc := 92) dc_S_rawTo_92 fl_S_19 hS rfl ?_
      refine q_icmp_ge (pc := 95) (tgt := 163) (s + (i + (cln nm))) (s + L.length) dc_S_rawTo_95 (by omega) (by omega) rfl (fun hc => absurd hc (by omega)) (fun hc95 => ?_)
      refine g_aload_n (pc := 98) dc_S_rawTo_98 rfl ?_
      refine g_getfield (pc := 99) dc_S_rawTo_99 fl_S_9 hS rfl ?_
      refine g_iload (pc := 102) dc_S_rawTo_102 rfl ?_
      refine g_xload_n (pc := 104) dc_S_rawTo_104 rfl ?_
      refine g_x0 (pc := 105) (M' := mt_JString_length) dc_S_rawTo_105 mo_JString_length im_JString_length se_JString_length (am_t5 181 rfl rfl) hi (Nat.le_of_ble_eq_true rfl) (Nat.le_of_ble_eq_true rfl) (am_G.mono (c_strLen hi) ?_)
      intro r h1 hq
      rw [hq.1, hq.2]
      clear hq h1 r
      refine ⟨am_nti _, ?_⟩
      refine g_iadd (pc := 108) (v := (nI (s + (i + (cln nm))))) dc_S_rawTo_108 (q_as s i (cln nm)) ?_
      refine q_tx (pc := 109) (i + (cln nm)) dc_S_rawTo_109 ha hT hs (by omega) hc ?_
      refine g_istore (pc := 110) dc_S_rawTo_110 (by decide) ?_
      refine g_iload (pc := 112) dc_S_rawTo_112 rfl ?_
      refine g_s1 (pc := 114) (M' := mt_W_isBlank) dc_S_rawTo_114 mo_W_isBlank st_W_isBlank ln_S_78 (Nat.le_of_ble_eq_true rfl) (Nat.le_of_ble_eq_true rfl) (am_G.mono (c_W_isBlank (v := (gx L (i + (cln nm))))) ?_)
      intro r h1 hq
      rw [hq.1, hq.2]
      clear hq h1 r
      refine ⟨am_nti _, ?_⟩
      refine q_ifb_ne (pc := 117) (tgt := 134) dc_S_rawTo_117 rfl (fun hc117 => ?_) (fun hc117 => ?_)
      · refine g_aload_n (pc := 134) dc_S_rawTo_134 rfl ?_
        refine g_getfield (pc := 135) dc_S_rawTo_135 fl_S_9 hS rfl ?_
        refine g_iload (pc := 138) dc_S_rawTo_138 rfl ?_
        refine g_iload (pc := 140) dc_S_rawTo_140 rfl ?_
        refine g_xload_n (pc := 142) dc_S_rawTo_142 rfl ?_
        refine g_x0 (pc := 143) (M' := mt_JString_length) dc_S_rawTo_143 mo_JString_length im_JString_length se_JString_length (am_t5 181 rfl rfl) hi (Nat.le_of_ble_eq_true rfl) (Nat.le_of_ble_eq_true rfl) (am_G.mono (c_strLen hi) ?_)
        intro r h1 hq
        rw [hq.1, hq.2]
        clear hq h1 r
        refine ⟨am_nti _, ?_⟩
        refine g_iadd (pc := 146) (v := (nI (s + (i + (cln nm))))) dc_S_rawTo_146 (q_as s i (cln nm)) ?_
        refine g_xload_n (pc := 147) dc_S_rawTo_147 rfl ?_
        refine g_s4 (pc := 148) (M' := mt_W_isLower) dc_S_rawTo_148 mo_W_isLower st_W_isLower ln_S_49 (Nat.le_of_ble_eq_true rfl) (Nat.le_of_ble_eq_true rfl) (am_G.mono (t_W_isLower (f := i) (t := i + (cln nm)) (i := nm) hx0 hi (by omega) (by omega)) ?_)
        intro r h1 hq
        rw [hq.1, hq.2]
        clear hq h1 r
        refine ⟨am_nti _, ?_⟩
        refine q_ifb_eq (pc := 151) (tgt := 157) dc_S_rawTo_151 rfl (fun hc151 => ?_) (fun hc151 => ?_)
        · refine g_iinc (pc := 157) (v := (nI (s + (i + 1)))) dc_S_rawTo_157 rfl (q_as s i 1) (by decide) ?_
          refine g_goto (pc := 160) (tgt := 84) dc_S_rawTo_160 rfl ?_
          refine am_wk (am_le_s (am_le_s (am_le_s (am_le_s (am_le_s (am_le_n am_le_0)))))) ?_
          exact v_S_rawTo hS hx0 hi n (i + 1) (by omega) K
        · exact absurd hp (by simp [rwP, hc117, hc151])
      · refine g_iload (pc := 120) dc_S_rawTo_120 rfl ?_
        refine g_bipush (pc := 122) (v := 47) dc_S_rawTo_122 rfl ?_
        refine g_icmp_eq (pc := 124) (tgt := 134) dc_S_rawTo_124 rfl (fun hc124 => ?_) (fun hc124 => ?_)
        · refine g_aload_n (pc := 134) dc_S_rawTo_134 rfl ?_
          refine g_getfield (pc := 135) dc_S_rawTo_135 fl_S_9 hS rfl ?_
          refine g_iload (pc := 138) dc_S_rawTo_138 rfl ?_
          refine g_iload (pc := 140) dc_S_rawTo_140 rfl ?_
          refine g_xload_n (pc := 142) dc_S_rawTo_142 rfl ?_
          refine g_x0 (pc := 143) (M' := mt_JString_length) dc_S_rawTo_143 mo_JString_length im_JString_length se_JString_length (am_t5 181 rfl rfl) hi (Nat.le_of_ble_eq_true rfl) (Nat.le_of_ble_eq_true rfl) (am_G.mono (c_strLen hi) ?_)
          intro r h1 hq
          rw [hq.1, hq.2]
          clear hq h1 r
          refine ⟨am_nti _, ?_⟩
          refine g_iadd (pc := 146) (v := (nI (s + (i + (cln nm))))) dc_S_rawTo_146 (q_as s i (cln nm)) ?_
          refine g_xload_n (pc := 147) dc_S_rawTo_147 rfl ?_
          refine g_s4 (pc := 148) (M' := mt_W_isLower) dc_S_rawTo_148 mo_W_isLower st_W_isLower ln_S_49 (Nat.le_of_ble_eq_true rfl) (Nat.le_of_ble_eq_true rfl) (am_G.mono (t_W_isLower (f := i) (t := i + (cln nm)) (i := nm) hx0 hi (by omega) (by omega)) ?_)
          intro r h1 hq
          rw [hq.1, hq.2]
          clear hq h1 r
          refine ⟨am_nti _, ?_⟩
          refine q_ifb_eq (pc := 151) (tgt := 157) dc_S_rawTo_151 rfl (fun hc151 => ?_) (fun hc151 => ?_)
          · refine g_iinc (pc := 157) (v := (nI (s + (i + 1)))) dc_S_rawTo_157 rfl (q_as s i 1) (by decide) ?_
            refine g_goto (pc := 160) (tgt := 84) dc_S_rawTo_160 rfl ?_
            refine am_wk (am_le_s (am_le_s (am_le_s (am_le_s (am_le_s (am_le_n am_le_0)))))) ?_
            exact v_S_rawTo hS hx0 hi n (i + 1) (by omega) K
          · exact absurd hp (by simp [rwP, hc117, hc124, hc151])
        · refine g_iload (pc := 127) dc_S_rawTo_127 rfl ?_
          refine g_bipush (pc := 129) (v := 62) dc_S_rawTo_129 rfl ?_
          refine g_icmp_ne (pc := 131) (tgt := 157) dc_S_rawTo_131 rfl (fun hc131 => ?_) (fun hc131 => ?_)
          · refine g_iinc (pc := 157) (v := (nI (s + (i + 1)))) dc_S_rawTo_157 rfl (q_as s i 1) (by decide) ?_
            refine g_goto (pc := 160) (tgt := 84) dc_S_rawTo_160 rfl ?_
            refine am_wk (am_le_s (am_le_s (am_le_s (am_le_s (am_le_s (am_le_n am_le_0)))))) ?_
            exact v_S_rawTo hS hx0 hi n (i + 1) (by omega) K
          · refine g_aload_n (pc := 134) dc_S_rawTo_134 rfl ?_
            refine g_getfield (pc := 135) dc_S_rawTo_135 fl_S_9 hS rfl ?_
            refine g_iload (pc := 138) dc_S_rawTo_138 rfl ?_
            refine g_iload (pc := 140) dc_S_rawTo_140 rfl ?_
            refine g_xload_n (pc := 142) dc_S_rawTo_142 rfl ?_
            refine g_x0 (pc := 143) (M' := mt_JString_length) dc_S_rawTo_143 mo_JString_length im_JString_length se_JString_length (am_t5 181 rfl rfl) hi (Nat.le_of_ble_eq_true rfl) (Nat.le_of_ble_eq_true rfl) (am_G.mono (c_strLen hi) ?_)
            intro r h1 hq
            rw [hq.1, hq.2]
            clear hq h1 r
            refine ⟨am_nti _, ?_⟩
            refine g_iadd (pc := 146) (v := (nI (s + (i + (cln nm))))) dc_S_rawTo_146 (q_as s i (cln nm)) ?_
            refine g_xload_n (pc := 147) dc_S_rawTo_147 rfl ?_
            refine g_s4 (pc := 148) (M' := mt_W_isLower) dc_S_rawTo_148 mo_W_isLower st_W_isLower ln_S_49 (Nat.le_of_ble_eq_true rfl) (Nat.le_of_ble_eq_true rfl) (am_G.mono (t_W_isLower (f := i) (t := i + (cln nm)) (i := nm) hx0 hi (by omega) (by omega)) ?_)
            intro r h1 hq
            rw [hq.1, hq.2]
            clear hq h1 r
            refine ⟨am_nti _, ?_⟩
            refine q_ifb_eq (pc := 151) (tgt := 157) dc_S_rawTo_151 rfl (fun hc151 => ?_) (fun hc151 => ?_)
            · refine g_iinc (pc := 157) (v := (nI (s + (i + 1)))) dc_S_rawTo_157 rfl (q_as s i 1) (by decide) ?_
              refine g_goto (pc := 160) (tgt := 84) dc_S_rawTo_160 rfl ?_
              refine am_wk (am_le_s (am_le_s (am_le_s (am_le_s (am_le_s (am_le_n am_le_0)))))) ?_
              exact v_S_rawTo hS hx0 hi n (i + 1) (by omega) K
            · exact absurd hp (by simp [rwP, hc117, hc124, hc131, hc151])
    · rw [fx_f (P := rwP nm L) (f := i) (t := (L.length - cln nm)) hp] at K
      exact K
theorem u_S_rawTo (hS : h[a]? = some (.inr (5, [.int w0, .int w1, .int w2, .int (nI (s + p)), .ref c, .int (nI (s + L.length)), .int (nI (s + nf)), .int (nI (s + nt)), .int (b1 cl)]))) (hx : tt h c s L) {nm : Nat} (hi : nm < 42) (hf : f ≤ L.length) : am_G X mt_S_rawTo (d + 5) 84 [some (.ref a), some (.int (nI (s + f))), some (.int 1), some (.retAddr nm), some (.int (nI (s + f))), none] [] h (fun r h1 => r = some (.int (nI (s + rwE nm L f))) ∧ h1 = h) := by
  have hcl := ch_len hi
  have hb : f ≤ fx (rwP nm L) f (L.length - cln nm) := fx_ge f _
  have hb2 : f ≤ L.length - cln nm → fx (rwP nm L) f (L.length - cln nm) ≤ L.length - cln nm := fun h9 => fx_le h9
  have hb3 : L.length - cln nm ≤ f → fx (rwP nm L) f (L.length - cln nm) = f := fun h9 => fx_0 h9
  have ho := fx_out (P := rwP nm L) (f := f) (t := L.length - cln nm)
  have hK : am_G X mt_S_rawTo (d + 5) 84 [some (.ref a), some (.int (nI (s + f))), some (.int 1), some (.retAddr nm), some (.int (nI (s + (fx (rwP nm L) f (L.length - cln nm))))), none] [] h (fun r h1 => r = some (.int (nI (s + rwE nm L f))) ∧ h1 = h) := by
    unfold rwE
    generalize fx (rwP nm L) f (L.length - cln nm) = i at *
    have hx0 := hx
    obtain ⟨cap, g, ha, hT, hs, hc⟩ := hx
    refine g_iload (pc := 84) dc_S_rawTo_84 rfl ?_
    refine g_xload_n (pc := 86) dc_S_rawTo_86 rfl ?_
    refine g_x0 (pc := 87) (M' := mt_JString_length) dc_S_rawTo_87 mo_JString_length im_JString_length se_JString_length (am_t5 181 rfl rfl) hi (Nat.le_of_ble_eq_true rfl) (Nat.le_of_ble_eq_true rfl) (am_G.mono (c_strLen hi) ?_)
    intro r h1 hq
    rw [hq.1, hq.2]
    clear hq h1 r
    refine ⟨am_nti _, ?_⟩
    refine g_iadd (pc := 90) (v := (nI (s + (i + (cln nm))))) dc_S_rawTo_90 (q_as s i (cln nm)) ?_
    refine g_aload_n (pc := 91) dc_S_rawTo_91 rfl ?_
    refine g_getfield (pc := 92) dc_S_rawTo_92 fl_S_19 hS rfl ?_
    refine q_icmp_ge (pc := 95) (tgt := 163) (s + (i + (cln nm))) (s + L.length) dc_S_rawTo_95 (by omega) (by omega) rfl (fun hc95 => ?_) (fun hc95 => ?_)
    · refine g_aload_n (pc := 163) dc_S_rawTo_163 rfl ?_
      refine g_getfield (pc := 164) dc_S_rawTo_164 fl_S_19 hS rfl ?_
      exact g_ireturn dc_S_rawTo_167 rfl ⟨by rw [if_neg (by omega)], rfl⟩
    · refine g_aload_n (pc := 98) dc_S_rawTo_98 rfl ?_
      refine g_getfield (pc := 99) dc_S_rawTo_99 fl_S_9 hS rfl ?_
      refine g_iload (pc := 102) dc_S_rawTo_102 rfl ?_
      refine g_xload_n (pc := 104) dc_S_rawTo_104 rfl ?_
      refine g_x0 (pc := 105) (M' := mt_JString_length) dc_S_rawTo_105 mo_JString_length im_JString_length se_JString_length (am_t5 181 rfl rfl) hi (Nat.le_of_ble_eq_true rfl) (Nat.le_of_ble_eq_true rfl) (am_G.mono (c_strLen hi) ?_)
      intro r h1 hq
      rw [hq.1, hq.2]
      clear hq h1 r
      refine ⟨am_nti _, ?_⟩
      refine g_iadd (pc := 108) (v := (nI (s + (i + (cln nm))))) dc_S_rawTo_108 (q_as s i (cln nm)) ?_
      refine q_tx (pc := 109) (i + (cln nm)) dc_S_rawTo_109 ha hT hs (by omega) hc ?_
      refine g_istore (pc := 110) dc_S_rawTo_110 (by decide) ?_
      refine g_iload (pc := 112) dc_S_rawTo_112 rfl ?_
      refine g_s1 (pc := 114) (M' := mt_W_isBlank) dc_S_rawTo_114 mo_W_isBlank st_W_isBlank ln_S_78 (Nat.le_of_ble_eq_true rfl) (Nat.le_of_ble_eq_true rfl) (am_G.mono (c_W_isBlank (v := (gx L (i + (cln nm))))) ?_)
      intro r h1 hq
      rw [hq.1, hq.2]
      clear hq h1 r
      refine ⟨am_nti _, ?_⟩
      refine q_ifb_ne (pc := 117) (tgt := 134) dc_S_rawTo_117 rfl (fun hc117 => ?_) (fun hc117 => ?_)
      · refine g_aload_n (pc := 134) dc_S_rawTo_134 rfl ?_
        refine g_getfield (pc := 135) dc_S_rawTo_135 fl_S_9 hS rfl ?_
        refine g_iload (pc := 138) dc_S_rawTo_138 rfl ?_
        refine g_iload (pc := 140) dc_S_rawTo_140 rfl ?_
        refine g_xload_n (pc := 142) dc_S_rawTo_142 rfl ?_
        refine g_x0 (pc := 143) (M' := mt_JString_length) dc_S_rawTo_143 mo_JString_length im_JString_length se_JString_length (am_t5 181 rfl rfl) hi (Nat.le_of_ble_eq_true rfl) (Nat.le_of_ble_eq_true rfl) (am_G.mono (c_strLen hi) ?_)
        intro r h1 hq
        rw [hq.1, hq.2]
        clear hq h1 r
        refine ⟨am_nti _, ?_⟩
        refine g_iadd (pc := 146) (v := (nI (s + (i + (cln nm))))) dc_S_rawTo_146 (q_as s i (cln nm)) ?_
        refine g_xload_n (pc := 147) dc_S_rawTo_147 rfl ?_
        refine g_s4 (pc := 148) (M' := mt_W_isLower) dc_S_rawTo_148 mo_W_isLower st_W_isLower ln_S_49 (Nat.le_of_ble_eq_true rfl) (Nat.le_of_ble_eq_true rfl) (am_G.mono (t_W_isLower (f := i) (t := i + (cln nm)) (i := nm) hx0 hi (by omega) (by omega)) ?_)
        intro r h1 hq
        rw [hq.1, hq.2]
        clear hq h1 r
        refine ⟨am_nti _, ?_⟩
        refine q_ifb_eq (pc := 151) (tgt := 157) dc_S_rawTo_151 rfl (fun hc151 => ?_) (fun hc151 => ?_)
        · exact absurd (ho (by omega)) (by simp [rwP, hc117, hc151])
        · refine g_iload (pc := 154) dc_S_rawTo_154 rfl ?_
          exact g_ireturn dc_S_rawTo_156 rfl ⟨by rw [if_pos (by omega)], rfl⟩
      · refine g_iload (pc := 120) dc_S_rawTo_120 rfl ?_
        refine g_bipush (pc := 122) (v := 47) dc_S_rawTo_122 rfl ?_
        refine g_icmp_eq (pc := 124) (tgt := 134) dc_S_rawTo_124 rfl (fun hc124 => ?_) (fun hc124 => ?_)
        · refine g_aload_n (pc := 134) dc_S_rawTo_134 rfl ?_
          refine g_getfield (pc := 135) dc_S_rawTo_135 fl_S_9 hS rfl ?_
          refine g_iload (pc := 138) dc_S_rawTo_138 rfl ?_
          refine g_iload (pc := 140) dc_S_rawTo_140 rfl ?_
          refine g_xload_n (pc := 142) dc_S_rawTo_142 rfl ?_
          refine g_x0 (pc := 143) (M' := mt_JString_length) dc_S_rawTo_143 mo_JString_length im_JString_length se_JString_length (am_t5 181 rfl rfl) hi (Nat.le_of_ble_eq_true rfl) (Nat.le_of_ble_eq_true rfl) (am_G.mono (c_strLen hi) ?_)
          intro r h1 hq
          rw [hq.1, hq.2]
          clear hq h1 r
          refine ⟨am_nti _, ?_⟩
          refine g_iadd (pc := 146) (v := (nI (s + (i + (cln nm))))) dc_S_rawTo_146 (q_as s i (cln nm)) ?_
          refine g_xload_n (pc := 147) dc_S_rawTo_147 rfl ?_
          refine g_s4 (pc := 148) (M' := mt_W_isLower) dc_S_rawTo_148 mo_W_isLower st_W_isLower ln_S_49 (Nat.le_of_ble_eq_true rfl) (Nat.le_of_ble_eq_true rfl) (am_G.mono (t_W_isLower (f := i) (t := i + (cln nm)) (i := nm) hx0 hi (by omega) (by omega)) ?_)
          intro r h1 hq
          rw [hq.1, hq.2]
          clear hq h1 r
          refine ⟨am_nti _, ?_⟩
          refine q_ifb_eq (pc := 151) (tgt := 157) dc_S_rawTo_151 rfl (fun hc151 => ?_) (fun hc151 => ?_)
          · exact absurd (ho (by omega)) (by simp [rwP, hc117, hc124, hc151])
          · refine g_iload (pc := 154) dc_S_rawTo_154 rfl ?_
            exact g_ireturn dc_S_rawTo_156 rfl ⟨by rw [if_pos (by omega)], rfl⟩
        · refine g_iload (pc := 127) dc_S_rawTo_127 rfl ?_
          refine g_bipush (pc := 129) (v := 62) dc_S_rawTo_129 rfl ?_
          refine g_icmp_ne (pc := 131) (tgt := 157) dc_S_rawTo_131 rfl (fun hc131 => ?_) (fun hc131 => ?_)
          · exact absurd (ho (by omega)) (by simp [rwP, hc117, hc124, hc131])
          · refine g_aload_n (pc := 134) dc_S_rawTo_134 rfl ?_
            refine g_getfield (pc := 135) dc_S_rawTo_135 fl_S_9 hS rfl ?_
            refine g_iload (pc := 138) dc_S_rawTo_138 rfl ?_
            refine g_iload (pc := 140) dc_S_rawTo_140 rfl ?_
            refine g_xload_n (pc := 142) dc_S_rawTo_142 rfl ?_
            refine g_x0 (pc := 143) (M' := mt_JString_length) dc_S_rawTo_143 mo_JString_length im_JString_length se_JString_length (am_t5 181 rfl rfl) hi (Nat.le_of_ble_eq_true rfl) (Nat.le_of_ble_eq_true rfl) (am_G.mono (c_strLen hi) ?_)
            intro r h1 hq
            rw [hq.1, hq.2]
            clear hq h1 r
            refine ⟨am_nti _, ?_⟩
            refine g_iadd (pc := 146) (v := (nI (s + (i + (cln nm))))) dc_S_rawTo_146 (q_as s i (cln nm)) ?_
            refine g_xload_n (pc := 147) dc_S_rawTo_147 rfl ?_
            refine g_s4 (pc := 148) (M' := mt_W_isLower) dc_S_rawTo_148 mo_W_isLower st_W_isLower ln_S_49 (Nat.le_of_ble_eq_true rfl) (Nat.le_of_ble_eq_true rfl) (am_G.mono (t_W_isLower (f := i) (t := i + (cln nm)) (i := nm) hx0 hi (by omega) (by omega)) ?_)
            intro r h1 hq
            rw [hq.1, hq.2]
            clear hq h1 r
            refine ⟨am_nti _, ?_⟩
            refine q_ifb_eq (pc := 151) (tgt := 157) dc_S_rawTo_151 rfl (fun hc151 => ?_) (fun hc151 => ?_)
            · exact absurd (ho (by omega)) (by simp [rwP, hc117, hc124, hc131, hc151])
            · refine g_iload (pc := 154) dc_S_rawTo_154 rfl ?_
              exact g_ireturn dc_S_rawTo_156 rfl ⟨by rw [if_pos (by omega)], rfl⟩
  by_cases hle : f ≤ L.length - cln nm
  · exact v_S_rawTo hS hx hi (L.length - cln nm - f) f (by omega) hK
  · have e9 : fx (rwP nm L) f (L.length - cln nm) = f := fx_0 (by omega)
    rw [e9] at hK
    exact hK
theorem t_S_rawTo (hS : h[a]? = some (.inr (5, [.int w0, .int w1, .int w2, .int (nI (s + p)), .ref c, .int (nI (s + L.length)), .int (nI (s + nf)), .int (nI (s + nt)), .int (b1 cl)]))) (hx : tt h c s L) (hf : f ≤ L.length) (hn : nf ≤ nt) (hnt : nt ≤ L.length) : am_C X mt_S_rawTo (d + 5) [.ref a, .int (nI (s + f))] h (fun r h1 => r = some (.int (nI (s + rwT L nf nt cl f))) ∧ h1 = h) := by
  show am_G X mt_S_rawTo (d + 5) 0 [some (.ref a), some (.int (nI (s + f))), none, none, none, none] [] h _
  have hx0 := hx
  obtain ⟨cap, g, ha, hT, hs, hc⟩ := hx
  refine g_aload_n (pc := 0) dc_S_rawTo_0 rfl ?_
  refine g_getfield (pc := 1) dc_S_rawTo_1 fl_S_9 hS rfl ?_
  refine g_aload_n (pc := 4) dc_S_rawTo_4 rfl ?_
  refine g_getfield (pc := 5) dc_S_rawTo_5 fl_S_43 hS rfl ?_
  refine g_aload_n (pc := 8) dc_S_rawTo_8 rfl ?_
  refine g_getfield (pc := 9) dc_S_rawTo_9 fl_S_46 hS rfl ?_
  refine g_ldcS (pc := 12) 16 dc_S_rawTo_12 (by decide) rfl rfl ?_
  refine g_s4 (pc := 14) (M' := mt_W_isLower) dc_S_rawTo_14 mo_W_isLower st_W_isLower ln_S_49 (Nat.le_of_ble_eq_true rfl) (Nat.le_of_ble_eq_true rfl) (am_G.mono (t_W_isLower (f := nf) (t := nt) (i := 16) hx0 (by decide) (by omega) (by omega)) ?_)
  intro r h1 hq
  rw [hq.1, hq.2]
  clear hq h1 r
  refine ⟨am_nti _, ?_⟩
  refine q_ifb_ne (pc := 17) (tgt := 40) dc_S_rawTo_17 rfl (fun hc17 => ?_) (fun hc17 => ?_)
  · refine g_iconst (pc := 40) (v := 1) dc_S_rawTo_40 rfl ?_
    refine g_goto (pc := 41) (tgt := 45) dc_S_rawTo_41 rfl ?_
    refine g_istore_n (pc := 45) dc_S_rawTo_45 (by decide) ?_
    refine g_aload_n (pc := 46) dc_S_rawTo_46 rfl ?_
    refine g_getfield (pc := 47) dc_S_rawTo_47 fl_S_39 hS rfl ?_
    refine q_ifb_ne (pc := 50) (tgt := 57) dc_S_rawTo_50 rfl (fun hc50 => ?_) (fun hc50 => ?_)
    · refine g_iload_n (pc := 57) dc_S_rawTo_57 rfl ?_
      exact g_ireturn dc_S_rawTo_58 rfl ⟨by rw [show rwT L nf nt cl f = f from if_pos (Or.inl hc50)], rfl⟩
    · refine g_iload_n (pc := 53) dc_S_rawTo_53 rfl ?_
      refine g_if_ne (pc := 54) (tgt := 59) dc_S_rawTo_54 rfl (fun _ => ?_) (fun hc => absurd hc (by decide))
      refine g_aload_n (pc := 59) dc_S_rawTo_59 rfl ?_
      refine g_getfield (pc := 60) dc_S_rawTo_60 fl_S_46 hS rfl ?_
      refine g_aload_n (pc := 63) dc_S_rawTo_63 rfl ?_
      refine g_getfield (pc := 64) dc_S_rawTo_64 fl_S_43 hS rfl ?_
      refine g_isub (pc := 67) (v := (nI (nt - nf))) dc_S_rawTo_67 (q_ss (s := s) (a := nt) (b := nf) (by omega)) ?_
      refine g_bipush (pc := 68) (v := 6) dc_S_rawTo_68 rfl ?_
      refine q_icmp_ne (pc := 70) (tgt := 78) (nt - nf) 6 dc_S_rawTo_70 (by omega) (by omega) rfl (fun hc70 => ?_) (fun hc70 => ?_)
      · refine g_ldcS (pc := 78) 19 dc_S_rawTo_78 (by decide) rfl rfl ?_
        refine g_xstore_n (pc := 80) dc_S_rawTo_80 (by decide) ?_
        refine g_iload_n (pc := 81) dc_S_rawTo_81 rfl ?_
        refine g_istore (pc := 82) dc_S_rawTo_82 (by decide) ?_
        have e9 : rwT L nf nt cl f = rwE 19 L f := by unfold rwT; rw [if_neg (by rw [hc50, hc17]; simp), if_neg hc70]
        rw [e9]
        exact u_S_rawTo hS hx0 (nm := 19) (by decide) hf
      · refine g_ldcS (pc := 73) 18 dc_S_rawTo_73 (by decide) rfl rfl ?_
        refine g_goto (pc := 75) (tgt := 80) dc_S_rawTo_75 rfl ?_
        refine g_xstore_n (pc := 80) dc_S_rawTo_80 (by decide) ?_
        refine g_iload_n (pc := 81) dc_S_rawTo_81 rfl ?_
        refine g_istore (pc := 82) dc_S_rawTo_82 (by decide) ?_
        have e9 : rwT L nf nt cl f = rwE 18 L f := by unfold rwT; rw [if_neg (by rw [hc50, hc17]; simp), if_pos hc70]
        rw [e9]
        exact u_S_rawTo hS hx0 (nm := 18) (by decide) hf
  · refine g_aload_n (pc := 20) dc_S_rawTo_20 rfl ?_
    refine g_getfield (pc := 21) dc_S_rawTo_21 fl_S_9 hS rfl ?_
    refine g_aload_n (pc := 24) dc_S_rawTo_24 rfl ?_
    refine g_getfield (pc := 25) dc_S_rawTo_25 fl_S_43 hS rfl ?_
    refine g_aload_n (pc := 28) dc_S_rawTo_28 rfl ?_
    refine g_getfield (pc := 29) dc_S_rawTo_29 fl_S_46 hS rfl ?_
    refine g_ldcS (pc := 32) 17 dc_S_rawTo_32 (by decide) rfl rfl ?_
    refine g_s4 (pc := 34) (M' := mt_W_isLower) dc_S_rawTo_34 mo_W_isLower st_W_isLower ln_S_49 (Nat.le_of_ble_eq_true rfl) (Nat.le_of_ble_eq_true rfl) (am_G.mono (t_W_isLower (f := nf) (t := nt) (i := 17) hx0 (by decide) (by omega) (by omega)) ?_)
    intro r h1 hq
    rw [hq.1, hq.2]
    clear hq h1 r
    refine ⟨am_nti _, ?_⟩
    refine q_ifb_eq (pc := 37) (tgt := 44) dc_S_rawTo_37 rfl (fun hc37 => ?_) (fun hc37 => ?_)
    · refine g_iconst (pc := 44) (v := 0) dc_S_rawTo_44 rfl ?_
      refine g_istore_n (pc := 45) dc_S_rawTo_45 (by decide) ?_
      refine g_aload_n (pc := 46) dc_S_rawTo_46 rfl ?_
      refine g_getfield (pc := 47) dc_S_rawTo_47 fl_S_39 hS rfl ?_
      refine q_ifb_ne (pc := 50) (tgt := 57) dc_S_rawTo_50 rfl (fun hc50 => ?_) (fun hc50 => ?_)
      · refine g_iload_n (pc := 57) dc_S_rawTo_57 rfl ?_
        exact g_ireturn dc_S_rawTo_58 rfl ⟨by rw [show rwT L nf nt cl f = f from if_pos (Or.inr (fun h9 => by rw [hc17, hc37] at h9; exact absurd h9 (by decide)))], rfl⟩
      · refine g_iload_n (pc := 53) dc_S_rawTo_53 rfl ?_
        refine g_if_ne (pc := 54) (tgt := 59) dc_S_rawTo_54 rfl (fun hc => absurd hc (by decide)) (fun _ => ?_)
        refine g_iload_n (pc := 57) dc_S_rawTo_57 rfl ?_
        exact g_ireturn dc_S_rawTo_58 rfl ⟨by rw [show rwT L nf nt cl f = f from if_pos (Or.inr (fun h9 => by rw [hc17, hc37] at h9; exact absurd h9 (by decide)))], rfl⟩
    · refine g_iconst (pc := 40) (v := 1) dc_S_rawTo_40 rfl ?_
      refine g_goto (pc := 41) (tgt := 45) dc_S_rawTo_41 rfl ?_
      refine g_istore_n (pc := 45) dc_S_rawTo_45 (by decide) ?_
      refine g_aload_n (pc := 46) dc_S_rawTo_46 rfl ?_
      refine g_getfield (pc := 47) dc_S_rawTo_47 fl_S_39 hS rfl ?_
      refine q_ifb_ne (pc := 50) (tgt := 57) dc_S_rawTo_50 rfl (fun hc50 => ?_) (fun hc50 => ?_)
      · refine g_iload_n (pc := 57) dc_S_rawTo_57 rfl ?_
        exact g_ireturn dc_S_rawTo_58 rfl ⟨by rw [show rwT L nf nt cl f = f from if_pos (Or.inl hc50)], rfl⟩
      · refine g_iload_n (pc := 53) dc_S_rawTo_53 rfl ?_
        refine g_if_ne (pc := 54) (tgt := 59) dc_S_rawTo_54 rfl (fun _ => ?_) (fun hc => absurd hc (by decide))
        refine g_aload_n (pc := 59) dc_S_rawTo_59 rfl ?_
        refine g_getfield (pc := 60) dc_S_rawTo_60 fl_S_46 hS rfl ?_
        refine g_aload_n (pc := 63) dc_S_rawTo_63 rfl ?_
        refine g_getfield (pc := 64) dc_S_rawTo_64 fl_S_43 hS rfl ?_
        refine g_isub (pc := 67) (v := (nI (nt - nf))) dc_S_rawTo_67 (q_ss (s := s) (a := nt) (b := nf) (by omega)) ?_
        refine g_bipush (pc := 68) (v := 6) dc_S_rawTo_68 rfl ?_
        refine q_icmp_ne (pc := 70) (tgt := 78) (nt - nf) 6 dc_S_rawTo_70 (by omega) (by omega) rfl (fun hc70 => ?_) (fun hc70 => ?_)
        · refine g_ldcS (pc := 78) 19 dc_S_rawTo_78 (by decide) rfl rfl ?_
          refine g_xstore_n (pc := 80) dc_S_rawTo_80 (by decide) ?_
          refine g_iload_n (pc := 81) dc_S_rawTo_81 rfl ?_
          refine g_istore (pc := 82) dc_S_rawTo_82 (by decide) ?_
          have e9 : rwT L nf nt cl f = rwE 19 L f := by unfold rwT; rw [if_neg (by rw [hc50, hc17, hc37]; simp), if_neg hc70]
          rw [e9]
          exact u_S_rawTo hS hx0 (nm := 19) (by decide) hf
        · refine g_ldcS (pc := 73) 18 dc_S_rawTo_73 (by decide) rfl rfl ?_
          refine g_goto (pc := 75) (tgt := 80) dc_S_rawTo_75 rfl ?_
          refine g_xstore_n (pc := 80) dc_S_rawTo_80 (by decide) ?_
          refine g_iload_n (pc := 81) dc_S_rawTo_81 rfl ?_
          refine g_istore (pc := 82) dc_S_rawTo_82 (by decide) ?_
          have e9 : rwT L nf nt cl f = rwE 18 L f := by unfold rwT; rw [if_neg (by rw [hc50, hc17, hc37]; simp), if_pos hc70]
          rw [e9]
          exact u_S_rawTo hS hx0 (nm := 18) (by decide) hf
theorem t_S_hasHref {ho : Option Nat} {nm : Nat} (hi : nm < 42) (hob : ∀ k, ho = some k → k < 2 ^ 31) (hS : h[a]? = some (.inr (5, [.int w0, .int (er ho), .int w2, .int (nI (s + p)), .ref c, .int (nI (s + L.length)), .int (nI (s + nf)), .int (nI (s + nt)), .int (b1 cl)]))) (hx : tt h c s L) (hn : nf ≤ nt) (hnt : nt ≤ L.length) : am_C X mt_S_hasHref (d + 5) [.ref a, .retAddr nm] h (fun r h1 => r = some (.int (b1 (!cl && (ho.isSome && isw nm L nf nt)))) ∧ h1 = h) := by
  show am_G X mt_S_hasHref (d + 5) 0 [some (.ref a), some (.retAddr nm)] [] h _
  refine g_aload_n (pc := 0) dc_S_hasHref_0 rfl ?_
  refine g_getfield (pc := 1) dc_S_hasHref_1 fl_S_39 hS rfl ?_
  refine q_ifb_ne (pc := 4) (tgt := 38) dc_S_hasHref_4 rfl (fun hc4 => ?_) (fun hc4 => ?_)
  · refine g_iconst (pc := 38) (v := 0) dc_S_hasHref_38 rfl ?_
    exact g_zreturn dc_S_hasHref_39 rfl rfl ⟨by simp [b1, hc4], rfl⟩
  · refine g_aload_n (pc := 7) dc_S_hasHref_7 rfl ?_
    refine g_getfield (pc := 8) dc_S_hasHref_8 fl_S_25 hS rfl ?_
    refine g_iconst (pc := 11) (v := (-1)) dc_S_hasHref_11 rfl ?_
    refine q_o_eq (pc := 12) (tgt := 38) dc_S_hasHref_12 hob rfl (fun hc12 => ?_) (fun k12 hc12 => ?_)
    · refine g_iconst (pc := 38) (v := 0) dc_S_hasHref_38 rfl ?_
      exact g_zreturn dc_S_hasHref_39 rfl rfl ⟨by simp [b1, hc4, hc12], rfl⟩
    · have hk12 := hob k12 hc12
      refine g_aload_n (pc := 15) dc_S_hasHref_15 rfl ?_
      refine g_getfield (pc := 16) dc_S_hasHref_16 fl_S_9 hS rfl ?_
      refine g_aload_n (pc := 19) dc_S_hasHref_19 rfl ?_
      refine g_getfield (pc := 20) dc_S_hasHref_20 fl_S_43 hS rfl ?_
      refine g_aload_n (pc := 23) dc_S_hasHref_23 rfl ?_
      refine g_getfield (pc := 24) dc_S_hasHref_24 fl_S_46 hS rfl ?_
      refine g_xload_n (pc := 27) dc_S_hasHref_27 rfl ?_
      refine g_s4 (pc := 28) (M' := mt_W_isLower) dc_S_hasHref_28 mo_W_isLower st_W_isLower ln_S_49 (Nat.le_of_ble_eq_true rfl) (Nat.le_of_ble_eq_true rfl) (am_G.mono (t_W_isLower (f := nf) (t := nt) (i := nm) hx hi (by omega) (by omega)) ?_)
      intro r h1 hq
      rw [hq.1, hq.2]
      clear hq h1 r
      refine ⟨am_nti _, ?_⟩
      refine q_ifb_eq (pc := 31) (tgt := 38) dc_S_hasHref_31 rfl (fun hc31 => ?_) (fun hc31 => ?_)
      · refine g_iconst (pc := 38) (v := 0) dc_S_hasHref_38 rfl ?_
        exact g_zreturn dc_S_hasHref_39 rfl rfl ⟨by simp [b1, hc4, hc12, hc31], rfl⟩
      · refine g_iconst (pc := 34) (v := 1) dc_S_hasHref_34 rfl ?_
        refine g_goto (pc := 35) (tgt := 39) dc_S_hasHref_35 rfl ?_
        exact g_zreturn dc_S_hasHref_39 rfl rfl ⟨by simp [b1, hc4, hc12, hc31], rfl⟩
end SCO
