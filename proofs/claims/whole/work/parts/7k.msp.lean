/-! ===== the model's split: the words of a plain text ===== -/
theorem wdB_n {v : Int32} (h1 : isLe v = false) (h2 : isDi v = false) : ¬ wdB v = true := by unfold wdB; rw [h1, h2]; decide
theorem wdB_l {v : Int32} (h1 : isLe v = true) : wdB v = true := by unfold wdB; rw [h1]; rfl
theorem wdB_d {v : Int32} (h1 : isDi v = true) : wdB v = true := by unfold wdB; rw [h1, Bool.or_true]
section MSP
variable {X : am_X} {d ca k p e n : Nat} {A B : List va_E} {M : List Int32} {Wd : List (List Int32)}
theorem v13_M_split {Q : Option Value → List va_E → Prop} {S : MS} (hX : txO A B S ca 0 M) : ∀ n i : Nat, i + n = M.length → am_G X mt_M_split (d + 1) 13 [some (.ref 84), some (.ref ca), none, some (.int (nI M.length)), some (.int (nI k)), some (.int (nI (fw wdB M i M.length))), none, none, none] [] (mput A S B) Q → am_G X mt_M_split (d + 1) 13 [some (.ref 84), some (.ref ca), none, some (.int (nI M.length)), some (.int (nI k)), some (.int (nI i)), none, none, none] [] (mput A S B) Q
  | 0, i, e, K => by
    have e1 : fw wdB M i M.length = i := fw_0 (by omega)
    rw [e1] at K
    exact K
  | n + 1, i, e, K => by
    by_cases hp : wdB (gx M i) = true
    · rw [fw_t (by omega) hp] at K
      have hX0 := hX
      obtain ⟨cap, g, ha, hT, hs, hc⟩ := hX S rfl rfl rfl rfl rfl
      refine g_iload (pc := 13) dc_M_split_13 rfl ?_
      refine g_iload_n (pc := 15) dc_M_split_15 rfl ?_
      refine q_icmp_ge (pc := 16) (tgt := 45) i M.length dc_M_split_16 (by omega) (by omega) rfl (fun hc => absurd hc (by omega)) (fun hc16 => ?_)
      refine g_aload_n (pc := 19) dc_M_split_19 rfl ?_
      refine g_iload (pc := 20) dc_M_split_20 rfl ?_
      refine q_tx0 (pc := 22) i dc_M_split_22 ha hT (by omega) (by omega) (by omega) ?_
      refine g_s1 (pc := 23) (M' := mt_M_isLetter) dc_M_split_23 mo_M_isLetter st_M_isLetter ln_M_58 (Nat.le_of_ble_eq_true rfl) (Nat.le_of_ble_eq_true rfl) (am_G.mono (c_M_isLetter (v := (gx M i))) ?_)
      intro r h1 hq
      rw [hq.1, hq.2]
      clear hq h1 r
      refine ⟨am_nti _, ?_⟩
      refine q_ifb_ne (pc := 26) (tgt := 39) dc_M_split_26 rfl (fun hc26 => ?_) (fun hc26 => ?_)
      · refine g_iinc (pc := 39) (v := (nI (i + 1))) dc_M_split_39 rfl (nI_add i 1) (by decide) ?_
        show am_G X mt_M_split _ 42 [some (.ref 84), some (.ref ca), none, some (.int (nI M.length)), some (.int (nI k)), some (.int (nI (i + 1))), none, none, none] [] _ _
        refine g_goto (pc := 42) (tgt := 13) dc_M_split_42 rfl ?_
        exact v13_M_split hX0 n (i + 1) (by omega) K
      · refine g_aload_n (pc := 29) dc_M_split_29 rfl ?_
        refine g_iload (pc := 30) dc_M_split_30 rfl ?_
        refine q_tx0 (pc := 32) i dc_M_split_32 ha hT (by omega) (by omega) (by omega) ?_
        refine g_s1 (pc := 33) (M' := mt_M_isDigit) dc_M_split_33 mo_M_isDigit st_M_isDigit ln_M_11 (Nat.le_of_ble_eq_true rfl) (Nat.le_of_ble_eq_true rfl) (am_G.mono (c_M_isDigit (v := (gx M i))) ?_)
        intro r h1 hq
        rw [hq.1, hq.2]
        clear hq h1 r
        refine ⟨am_nti _, ?_⟩
        refine q_ifb_eq (pc := 36) (tgt := 45) dc_M_split_36 rfl (fun hc36 => ?_) (fun hc36 => ?_)
        · exact absurd hp (wdB_n hc26 hc36)
        · refine g_iinc (pc := 39) (v := (nI (i + 1))) dc_M_split_39 rfl (nI_add i 1) (by decide) ?_
          show am_G X mt_M_split _ 42 [some (.ref 84), some (.ref ca), none, some (.int (nI M.length)), some (.int (nI k)), some (.int (nI (i + 1))), none, none, none] [] _ _
          refine g_goto (pc := 42) (tgt := 13) dc_M_split_42 rfl ?_
          exact v13_M_split hX0 n (i + 1) (by omega) K
    · rw [fw_f hp] at K
      exact K
theorem v135_M_split {Q : Option Value → List va_E → Prop} {S : MS} {g0 : Nat → Int32} (hA : A.length = 84) (hX : txO A B S ca 0 M) (hb : btg M) (hp : p + n ≤ 8000) (hk : k + n ≤ M.length) (K : am_G X mt_M_split (d + 1) 169 [some (.ref 84), some (.ref ca), none, some (.int (nI M.length)), some (.int (nI k)), some (.int (nI e)), some (.int (nI p)), some (.int (nI n)), none] [] (mput A (S.s_words (wrt g0 p ((sub M k (k + n)).map toLo))) B) Q) : ∀ j i : Nat, i + j = n → am_G X mt_M_split (d + 1) 135 [some (.ref 84), some (.ref ca), none, some (.int (nI M.length)), some (.int (nI k)), some (.int (nI e)), some (.int (nI p)), some (.int (nI n)), some (.int (nI i))] [] (mput A (S.s_words (wrt g0 p ((sub M k (k + i)).map toLo))) B) Q
  | 0, i, e1 => by
    obtain rfl : i = n := by omega
    refine g_iload (pc := 135) dc_M_split_135 rfl ?_
    refine g_iload (pc := 137) dc_M_split_137 rfl ?_
    refine q_icmp_ge (pc := 139) (tgt := 169) i i dc_M_split_139 (by omega) (by omega) rfl (fun hc139 => ?_) (fun hc => absurd hc (by omega))
    refine am_wk (am_le_s (am_le_s (am_le_n (am_le_s (am_le_s (am_le_s (am_le_s (am_le_s (am_le_n am_le_0))))))))) ?_
    exact K
  | j + 1, i, e1 => by
    obtain ⟨cap, g, ha, hT, hs, hc⟩ := hX (S.s_words (wrt g0 p ((sub M k (k + i)).map toLo))) rfl rfl rfl rfl rfl
    refine g_iload (pc := 135) dc_M_split_135 rfl ?_
    refine g_iload (pc := 137) dc_M_split_137 rfl ?_
    refine q_icmp_ge (pc := 139) (tgt := 169) i n dc_M_split_139 (by omega) (by omega) rfl (fun hc => absurd hc (by omega)) (fun hc139 => ?_)
    refine g_aload_n (pc := 142) dc_M_split_142 rfl ?_
    refine g_getfield (pc := 143) dc_M_split_143 fl_M_232 (mp_o hA) rfl ?_
    refine g_iload (pc := 146) dc_M_split_146 rfl ?_
    refine g_iload (pc := 148) dc_M_split_148 rfl ?_
    refine g_iadd (pc := 150) (v := (nI (p + i))) dc_M_split_150 (nI_add p i) ?_
    refine g_aload_n (pc := 151) dc_M_split_151 rfl ?_
    refine g_iload (pc := 152) dc_M_split_152 rfl ?_
    refine g_iload (pc := 154) dc_M_split_154 rfl ?_
    refine g_iadd (pc := 156) (v := (nI (k + i))) dc_M_split_156 (nI_add k i) ?_
    refine q_tx0 (pc := 157) (k + i) dc_M_split_157 ha hT (by omega) (by omega) (by omega) ?_
    refine g_s1 (pc := 158) (M' := mt_M_lower) dc_M_split_158 mo_M_lower st_M_lower ln_M_7 (Nat.le_of_ble_eq_true rfl) (Nat.le_of_ble_eq_true rfl) (am_G.mono (c_M_lower (v := (gx M (k + i)))) ?_)
    intro r h1 hq
    rw [hq.1, hq.2]
    clear hq h1 r
    refine ⟨am_nti _, ?_⟩
    refine g_i2b (pc := 161) dc_M_split_161 (i8_bt (bt_toLo (hb _))) ?_
    refine asE_words (pc := 162) (p + i) (g := wrt g0 p ((sub M k (k + (i + 1))).map toLo)) hA dc_M_split_162 (by omega) (by show upd (wrt g0 p ((sub M k (k + i)).map toLo)) _ _ = _; have h9 := wrt_snoc g0 p ((sub M k (k + i)).map toLo) (toLo (gx M (k + i))); rw [List.length_map, sub_len (by omega), Nat.add_sub_cancel_left] at h9; rw [nar_bt (bt_toLo (hb _)), h9, ← Nat.add_assoc, sub_snoc (by omega) (by omega), List.map_append]; rfl) ?_
    rw [MS.ss_words]
    refine g_iinc (pc := 163) (v := (nI (i + 1))) dc_M_split_163 rfl (nI_add i 1) (by decide) ?_
    show am_G X mt_M_split _ 166 [some (.ref 84), some (.ref ca), none, some (.int (nI M.length)), some (.int (nI k)), some (.int (nI e)), some (.int (nI p)), some (.int (nI n)), some (.int (nI (i + 1)))] [] _ _
    refine g_goto (pc := 166) (tgt := 135) dc_M_split_166 rfl ?_
    exact v135_M_split hA hX hb hp hk K j (i + 1) (by omega)
theorem wdS.of {S : MS} {D : List Int32} {q : Nat} (h : wdS S Wd) (hq : q = D.length) : ∃ S9, S9 = (((S.s_wordAt (upd S.wordAt Wd.length (nI (ofs Wd Wd.length)))).s_wordLength (upd S.wordLength Wd.length (nI q))).s_words (wrt S.words (ofs Wd Wd.length) D)).s_wordCount (Wd.length + 1) ∧ wkA S S9 ∧ wdS S9 (Wd ++ [D]) := by
  subst hq
  refine ⟨_, rfl, (((wkA.s_wordAt _ _).tr (wkA.s_wordLength _ _)).tr (wkA.s_words _ _)).tr (wkA.s_wordCount _ _), ?_⟩
  exact ⟨by show Wd.length + 1 = _; rw [List.length_append]; rfl, rws_new h.2⟩
theorem l_M_split (hA : A.length = 84) (hb : btg M) : ∀ (j k : Nat) (S : MS) (Wd : List (List Int32)), M.length - k ≤ j → k ≤ M.length → M.length ≤ 8400 → txO A B S ca 0 M → wdS S Wd → Wd.length ≤ Wd.flatten.length → (Wd.flatten.length + Wd.length + (M.length - k) ≤ 8000 ∨ (Wd.flatten.length + Wd.length + (M.length - k) ≤ 8001 ∧ (k < M.length → ¬ wdB (gx M k) = true))) → am_G X mt_M_split (d + 1) 3 [some (.ref 84), some (.ref ca), none, some (.int (nI M.length)), some (.int (nI k)), none, none, none, none] [] (mput A S B) (fun r h1 => r = none ∧ ∃ S1, h1 = mput A S1 B ∧ wkA S S1 ∧ wdS S1 (Wd ++ spl M k))
  | 0, k, S, Wd, hj, hk, hM, hX, hw, hcw, hB => by
    have hw1 := hw.1
    rw [spl_e (by omega), List.append_nil]
    refine g_iload (pc := 3) dc_M_split_3 rfl ?_
    refine g_iload_n (pc := 5) dc_M_split_5 rfl ?_
    refine q_icmp_ge (pc := 6) (tgt := 192) k M.length dc_M_split_6 (by omega) (by omega) rfl (fun hc6 => ?_) (fun hc => absurd hc (by omega))
    exact g_return dc_M_split_192 rfl ⟨rfl, S, rfl, wkA.rf S, hw⟩
  | j + 1, k, S, Wd, hj, hk, hM, hX, hw, hcw, hB => by
    have hw1 := hw.1
    have hw2 := hw.2
    by_cases hl : k < M.length
    · have hfb := fw_bd (p := wdB) (L := M) (f := k) (t := M.length) hk
      have hfo := fw_out (p := wdB) (L := M) (f := k) (t := M.length)
      have hfi := fun h9 => fw_in (p := wdB) (L := M) (f := k) (t := M.length) (Nat.le_refl k) h9
      have hfl := flat_len Wd
      obtain ⟨cap, g, ha, hT, hs, hc⟩ := hX S rfl rfl rfl rfl rfl
      refine g_iload (pc := 3) dc_M_split_3 rfl ?_
      refine g_iload_n (pc := 5) dc_M_split_5 rfl ?_
      refine q_icmp_ge (pc := 6) (tgt := 192) k M.length dc_M_split_6 (by omega) (by omega) rfl (fun hc => absurd hc (by omega)) (fun hc6 => ?_)
      refine g_iload (pc := 9) dc_M_split_9 rfl ?_
      refine g_istore (pc := 11) dc_M_split_11 (by decide) ?_
      show am_G X mt_M_split _ 13 [some (.ref 84), some (.ref ca), none, some (.int (nI M.length)), some (.int (nI k)), some (.int (nI k)), none, none, none] [] _ _
      refine v13_M_split hX (M.length - k) k (by omega) ?_
      refine g_iload (pc := 13) dc_M_split_13 rfl ?_
      refine g_iload_n (pc := 15) dc_M_split_15 rfl ?_
      refine q_icmp_ge (pc := 16) (tgt := 45) (fw wdB M k M.length) M.length dc_M_split_16 (by omega) (by omega) rfl (fun hc16 => ?_) (fun hc16 => ?_)
      · refine g_iload (pc := 45) dc_M_split_45 rfl ?_
        refine g_iload (pc := 47) dc_M_split_47 rfl ?_
        refine q_icmp_le (pc := 49) (tgt := 186) (fw wdB M k M.length) k dc_M_split_49 (by omega) (by omega) rfl (fun hc49 => ?_) (fun hc49 => ?_)
        · refine g_iinc (pc := 186) (v := (nI (k + 1))) dc_M_split_186 rfl (nI_add k 1) (by decide) ?_
          show am_G X mt_M_split _ 189 [some (.ref 84), some (.ref ca), none, some (.int (nI M.length)), some (.int (nI (k + 1))), some (.int (nI (fw wdB M k M.length))), none, none, none] [] _ _
          refine g_goto (pc := 189) (tgt := 3) dc_M_split_189 rfl ?_
          have hwn : ¬ wdB (gx M k) = true := fun h9 => absurd (fw_gt hl h9) (by omega)
          rw [spl_n hl hwn]
          refine am_wk (am_le_s (am_le_s (am_le_n (am_le_s (am_le_s (am_le_n (am_le_n (am_le_n (am_le_n am_le_0))))))))) ?_
          exact l_M_split hA hb j (k + 1) S Wd (by omega) (by omega) hM hX hw hcw (Or.inl (by rcases hB with q | q <;> omega))
        · refine g_aload_n (pc := 52) dc_M_split_52 rfl ?_
          refine g_getfield (pc := 53) (v := .int (nI Wd.length)) dc_M_split_53 fl_M_223 (mp_o hA) (congrArg (fun z => some (Value.int (nI z))) hw1) ?_
          refine q_if_ne (pc := 56) (tgt := 63) Wd.length dc_M_split_56 (by omega) rfl (fun hc56 => ?_) (fun hc56 => ?_)
          · refine g_aload_n (pc := 63) dc_M_split_63 rfl ?_
            refine g_getfield (pc := 64) dc_M_split_64 fl_M_226 (mp_o hA) rfl ?_
            refine g_aload_n (pc := 67) dc_M_split_67 rfl ?_
            refine g_getfield (pc := 68) (v := .int (nI Wd.length)) dc_M_split_68 fl_M_223 (mp_o hA) (congrArg (fun z => some (Value.int (nI z))) hw1) ?_
            refine g_iconst (pc := 71) (v := 1) dc_M_split_71 rfl ?_
            refine g_isub (pc := 72) (v := (nI (Wd.length - 1))) dc_M_split_72 (q_sub (a := Wd.length) (b := 1) (by omega)) ?_
            refine q_ialoadV (pc := 73) (Wd.length - 1) dc_M_split_73 (mp_a hA 21 rfl) (by omega) (by omega) (v := (nI (ofs Wd (Wd.length - 1)))) (hw2 (Wd.length - 1) (by omega)).1 ?_
            refine g_aload_n (pc := 74) dc_M_split_74 rfl ?_
            refine g_getfield (pc := 75) dc_M_split_75 fl_M_229 (mp_o hA) rfl ?_
            refine g_aload_n (pc := 78) dc_M_split_78 rfl ?_
            refine g_getfield (pc := 79) (v := .int (nI Wd.length)) dc_M_split_79 fl_M_223 (mp_o hA) (congrArg (fun z => some (Value.int (nI z))) hw1) ?_
            refine g_iconst (pc := 82) (v := 1) dc_M_split_82 rfl ?_
            refine g_isub (pc := 83) (v := (nI (Wd.length - 1))) dc_M_split_83 (q_sub (a := Wd.length) (b := 1) (by omega)) ?_
            refine q_ialoadV (pc := 84) (Wd.length - 1) dc_M_split_84 (mp_a hA 22 rfl) (by omega) (by omega) (v := (nI ((gT Wd (Wd.length - 1)).length))) (hw2 (Wd.length - 1) (by omega)).2.1 ?_
            refine g_iadd (pc := 85) (v := (nI (ofs Wd (Wd.length - 1) + ((gT Wd (Wd.length - 1)).length)))) dc_M_split_85 (nI_add (ofs Wd (Wd.length - 1)) ((gT Wd (Wd.length - 1)).length)) ?_
            have hww : wdB (gx M k) = true := hfi (by omega)
            have hB2 : Wd.flatten.length + Wd.length + (M.length - k) ≤ 8000 := hB.resolve_right (fun h9 => h9.2 hl hww)
            have e9 := ofs_s (T := Wd) (k := Wd.length - 1) (by omega)
            rw [Nat.sub_add_cancel (by omega)] at e9
            rw [← e9]
            refine g_istore (pc := 86) dc_M_split_86 (by decide) ?_
            show am_G X mt_M_split _ 88 [some (.ref 84), some (.ref ca), none, some (.int (nI M.length)), some (.int (nI k)), some (.int (nI (fw wdB M k M.length))), some (.int (nI (ofs Wd Wd.length))), none, none] [] _ _
            refine g_iload (pc := 88) dc_M_split_88 rfl ?_
            refine g_iload (pc := 90) dc_M_split_90 rfl ?_
            refine g_isub (pc := 92) (v := (nI (fw wdB M k M.length - k))) dc_M_split_92 (q_sub (a := fw wdB M k M.length) (b := k) (by omega)) ?_
            refine g_bipush (pc := 93) (v := 20) dc_M_split_93 rfl ?_
            refine q_icmp_ge (pc := 95) (tgt := 106) (fw wdB M k M.length - k) 20 dc_M_split_95 (by omega) (by omega) rfl (fun hc95 => ?_) (fun hc95 => ?_)
            · refine g_bipush (pc := 106) (v := 20) dc_M_split_106 rfl ?_
              refine g_istore (pc := 108) dc_M_split_108 (by decide) ?_
              show am_G X mt_M_split _ 110 [some (.ref 84), some (.ref ca), none, some (.int (nI M.length)), some (.int (nI k)), some (.int (nI (fw wdB M k M.length))), some (.int (nI (ofs Wd Wd.length))), some (.int 20), none] [] _ _
              refine g_aload_n (pc := 110) dc_M_split_110 rfl ?_
              refine g_getfield (pc := 111) dc_M_split_111 fl_M_226 (mp_o hA) rfl ?_
              refine g_aload_n (pc := 114) dc_M_split_114 rfl ?_
              refine g_getfield (pc := 115) (v := .int (nI Wd.length)) dc_M_split_115 fl_M_223 (mp_o hA) (congrArg (fun z => some (Value.int (nI z))) hw1) ?_
              refine g_iload (pc := 118) dc_M_split_118 rfl ?_
              refine as_wordAt (pc := 120) Wd.length hA dc_M_split_120 (by omega) ?_
              refine g_aload_n (pc := 121) dc_M_split_121 rfl ?_
              refine g_getfield (pc := 122) dc_M_split_122 fl_M_229 (mp_o hA) rfl ?_
              refine g_aload_n (pc := 125) dc_M_split_125 rfl ?_
              refine g_getfield (pc := 126) (v := .int (nI Wd.length)) dc_M_split_126 fl_M_223 (mp_o hA) (congrArg (fun z => some (Value.int (nI z))) hw1) ?_
              refine g_iload (pc := 129) dc_M_split_129 rfl ?_
              refine as_wordLength (pc := 131) Wd.length hA dc_M_split_131 (by omega) ?_
              refine g_iconst (pc := 132) (v := 0) dc_M_split_132 rfl ?_
              refine g_istore (pc := 133) dc_M_split_133 (by decide) ?_
              show am_G X mt_M_split _ 135 [some (.ref 84), some (.ref ca), none, some (.int (nI M.length)), some (.int (nI k)), some (.int (nI (fw wdB M k M.length))), some (.int (nI (ofs Wd Wd.length))), some (.int 20), some (.int 0)] [] _ _
              have hnn : k + 20 = Nat.min (fw wdB M k M.length) (k + 20) := by show _ = min (fw wdB M k M.length) (k + 20); omega
              have hD : 20 = ((sub M k (k + 20)).map toLo).length := by rw [List.length_map, sub_len (by omega)]; omega
              have h169 : am_G X mt_M_split (d + 1) 169 [some (.ref 84), some (.ref ca), none, some (.int (nI M.length)), some (.int (nI k)), some (.int (nI (fw wdB M k M.length))), some (.int (nI (ofs Wd Wd.length))), some (.int (nI 20)), none] [] (mput A (((S.s_wordAt (upd S.wordAt Wd.length (nI (ofs Wd Wd.length)))).s_wordLength (upd S.wordLength Wd.length (nI 20))).s_words (wrt S.words (ofs Wd Wd.length) ((sub M k (k + 20)).map toLo))) B) (fun r h1 => r = none ∧ ∃ S1, h1 = mput A S1 B ∧ wkA S S1 ∧ wdS S1 (Wd ++ spl M k)) := by
                refine g_aload_n (pc := 169) dc_M_split_169 rfl ?_
                refine g_dup (pc := 170) dc_M_split_170 rfl ?_
                refine g_getfield (pc := 171) (v := .int (nI Wd.length)) dc_M_split_171 fl_M_223 (mp_o hA) (congrArg (fun z => some (Value.int (nI z))) hw1) ?_
                refine g_iconst (pc := 174) (v := 1) dc_M_split_174 rfl ?_
                refine g_iadd (pc := 175) (v := (nI (Wd.length + 1))) dc_M_split_175 (nI_add Wd.length 1) ?_
                refine pf_wordCount (pc := 176) (v := Wd.length + 1) hA dc_M_split_176 fp_M_split_223 ?_
                refine g_iload (pc := 179) dc_M_split_179 rfl ?_
                refine g_istore (pc := 181) dc_M_split_181 (by decide) ?_
                show am_G X mt_M_split _ 183 [some (.ref 84), some (.ref ca), none, some (.int (nI M.length)), some (.int (nI (fw wdB M k M.length))), some (.int (nI (fw wdB M k M.length))), some (.int (nI (ofs Wd Wd.length))), some (.int (nI 20)), none] [] _ _
                refine g_goto (pc := 183) (tgt := 189) dc_M_split_183 rfl ?_
                refine g_goto (pc := 189) (tgt := 3) dc_M_split_189 rfl ?_
                refine am_wk (am_le_s (am_le_s (am_le_n (am_le_s (am_le_s (am_le_n (am_le_n (am_le_n (am_le_n am_le_0))))))))) ?_
                obtain ⟨S9, e9, g1, g2⟩ := hw.of hD
                rw [← e9]
                refine am_G.mono (l_M_split hA hb j (fw wdB M k M.length) S9 (Wd ++ [(sub M k (k + 20)).map toLo]) (by omega) (by omega) hM (hX.wk g1) g2 ?_ ?_) ?_
                · rw [List.flatten_append, List.length_append, List.length_append]; show _ + 1 ≤ _ + ([_].flatten).length; rw [List.flatten_cons, List.flatten_nil, List.append_nil, ← hD]; omega
                · refine Or.inr ⟨?_, fun h9 => by rw [hfo h9]; decide⟩
                  rw [List.flatten_append, List.length_append, List.length_append]
                  show _ + ([_].flatten).length + (_ + 1) + _ ≤ _
                  rw [List.flatten_cons, List.flatten_nil, List.append_nil, ← hD]
                  omega
                · rintro r h1 ⟨q1, S1, q2, q3, q4⟩
                  rw [spl_w hl hww, ← hnn, List.append_cons]
                  exact ⟨q1, S1, q2, g1.tr q3, q4⟩
              have h135 := v135_M_split (X := X) (d := d) (Q := (fun r h1 => r = none ∧ ∃ S1, h1 = mput A S1 B ∧ wkA S S1 ∧ wdS S1 (Wd ++ spl M k))) (S := ((S.s_wordAt (upd S.wordAt Wd.length (nI (ofs Wd Wd.length)))).s_wordLength (upd S.wordLength Wd.length (nI 20)))) (g0 := S.words) (k := k) (p := ofs Wd Wd.length) (n := 20) (e := fw wdB M k M.length) hA (hX.wk ((wkA.s_wordAt _ _).tr (wkA.s_wordLength _ _))) hb (by omega) (by omega) h169 20 0 (by omega)
              have e0 : (sub M k (k + 0)).map toLo = [] := by rw [Nat.add_zero, sub_nil (Nat.le_refl k)]; rfl
              rw [e0, wrt_nil] at h135
              exact h135
            · refine g_iload (pc := 98) dc_M_split_98 rfl ?_
              refine g_iload (pc := 100) dc_M_split_100 rfl ?_
              refine g_isub (pc := 102) (v := (nI (fw wdB M k M.length - k))) dc_M_split_102 (q_sub (a := fw wdB M k M.length) (b := k) (by omega)) ?_
              refine g_goto (pc := 103) (tgt := 108) dc_M_split_103 rfl ?_
              refine g_istore (pc := 108) dc_M_split_108 (by decide) ?_
              show am_G X mt_M_split _ 110 [some (.ref 84), some (.ref ca), none, some (.int (nI M.length)), some (.int (nI k)), some (.int (nI (fw wdB M k M.length))), some (.int (nI (ofs Wd Wd.length))), some (.int (nI (fw wdB M k M.length - k))), none] [] _ _
              refine g_aload_n (pc := 110) dc_M_split_110 rfl ?_
              refine g_getfield (pc := 111) dc_M_split_111 fl_M_226 (mp_o hA) rfl ?_
              refine g_aload_n (pc := 114) dc_M_split_114 rfl ?_
              refine g_getfield (pc := 115) (v := .int (nI Wd.length)) dc_M_split_115 fl_M_223 (mp_o hA) (congrArg (fun z => some (Value.int (nI z))) hw1) ?_
              refine g_iload (pc := 118) dc_M_split_118 rfl ?_
              refine as_wordAt (pc := 120) Wd.length hA dc_M_split_120 (by omega) ?_
              refine g_aload_n (pc := 121) dc_M_split_121 rfl ?_
              refine g_getfield (pc := 122) dc_M_split_122 fl_M_229 (mp_o hA) rfl ?_
              refine g_aload_n (pc := 125) dc_M_split_125 rfl ?_
              refine g_getfield (pc := 126) (v := .int (nI Wd.length)) dc_M_split_126 fl_M_223 (mp_o hA) (congrArg (fun z => some (Value.int (nI z))) hw1) ?_
              refine g_iload (pc := 129) dc_M_split_129 rfl ?_
              refine as_wordLength (pc := 131) Wd.length hA dc_M_split_131 (by omega) ?_
              refine g_iconst (pc := 132) (v := 0) dc_M_split_132 rfl ?_
              refine g_istore (pc := 133) dc_M_split_133 (by decide) ?_
              show am_G X mt_M_split _ 135 [some (.ref 84), some (.ref ca), none, some (.int (nI M.length)), some (.int (nI k)), some (.int (nI (fw wdB M k M.length))), some (.int (nI (ofs Wd Wd.length))), some (.int (nI (fw wdB M k M.length - k))), some (.int 0)] [] _ _
              have hnn : k + (fw wdB M k M.length - k) = Nat.min (fw wdB M k M.length) (k + 20) := by show _ = min (fw wdB M k M.length) (k + 20); omega
              have hD : (fw wdB M k M.length - k) = ((sub M k (k + (fw wdB M k M.length - k))).map toLo).length := by rw [List.length_map, sub_len (by omega)]; omega
              have h169 : am_G X mt_M_split (d + 1) 169 [some (.ref 84), some (.ref ca), none, some (.int (nI M.length)), some (.int (nI k)), some (.int (nI (fw wdB M k M.length))), some (.int (nI (ofs Wd Wd.length))), some (.int (nI (fw wdB M k M.length - k))), none] [] (mput A (((S.s_wordAt (upd S.wordAt Wd.length (nI (ofs Wd Wd.length)))).s_wordLength (upd S.wordLength Wd.length (nI (fw wdB M k M.length - k)))).s_words (wrt S.words (ofs Wd Wd.length) ((sub M k (k + (fw wdB M k M.length - k))).map toLo))) B) (fun r h1 => r = none ∧ ∃ S1, h1 = mput A S1 B ∧ wkA S S1 ∧ wdS S1 (Wd ++ spl M k)) := by
                refine g_aload_n (pc := 169) dc_M_split_169 rfl ?_
                refine g_dup (pc := 170) dc_M_split_170 rfl ?_
                refine g_getfield (pc := 171) (v := .int (nI Wd.length)) dc_M_split_171 fl_M_223 (mp_o hA) (congrArg (fun z => some (Value.int (nI z))) hw1) ?_
                refine g_iconst (pc := 174) (v := 1) dc_M_split_174 rfl ?_
                refine g_iadd (pc := 175) (v := (nI (Wd.length + 1))) dc_M_split_175 (nI_add Wd.length 1) ?_
                refine pf_wordCount (pc := 176) (v := Wd.length + 1) hA dc_M_split_176 fp_M_split_223 ?_
                refine g_iload (pc := 179) dc_M_split_179 rfl ?_
                refine g_istore (pc := 181) dc_M_split_181 (by decide) ?_
                show am_G X mt_M_split _ 183 [some (.ref 84), some (.ref ca), none, some (.int (nI M.length)), some (.int (nI (fw wdB M k M.length))), some (.int (nI (fw wdB M k M.length))), some (.int (nI (ofs Wd Wd.length))), some (.int (nI (fw wdB M k M.length - k))), none] [] _ _
                refine g_goto (pc := 183) (tgt := 189) dc_M_split_183 rfl ?_
                refine g_goto (pc := 189) (tgt := 3) dc_M_split_189 rfl ?_
                refine am_wk (am_le_s (am_le_s (am_le_n (am_le_s (am_le_s (am_le_n (am_le_n (am_le_n (am_le_n am_le_0))))))))) ?_
                obtain ⟨S9, e9, g1, g2⟩ := hw.of hD
                rw [← e9]
                refine am_G.mono (l_M_split hA hb j (fw wdB M k M.length) S9 (Wd ++ [(sub M k (k + (fw wdB M k M.length - k))).map toLo]) (by omega) (by omega) hM (hX.wk g1) g2 ?_ ?_) ?_
                · rw [List.flatten_append, List.length_append, List.length_append]; show _ + 1 ≤ _ + ([_].flatten).length; rw [List.flatten_cons, List.flatten_nil, List.append_nil, ← hD]; omega
                · refine Or.inr ⟨?_, fun h9 => by rw [hfo h9]; decide⟩
                  rw [List.flatten_append, List.length_append, List.length_append]
                  show _ + ([_].flatten).length + (_ + 1) + _ ≤ _
                  rw [List.flatten_cons, List.flatten_nil, List.append_nil, ← hD]
                  omega
                · rintro r h1 ⟨q1, S1, q2, q3, q4⟩
                  rw [spl_w hl hww, ← hnn, List.append_cons]
                  exact ⟨q1, S1, q2, g1.tr q3, q4⟩
              have h135 := v135_M_split (X := X) (d := d) (Q := (fun r h1 => r = none ∧ ∃ S1, h1 = mput A S1 B ∧ wkA S S1 ∧ wdS S1 (Wd ++ spl M k))) (S := ((S.s_wordAt (upd S.wordAt Wd.length (nI (ofs Wd Wd.length)))).s_wordLength (upd S.wordLength Wd.length (nI (fw wdB M k M.length - k))))) (g0 := S.words) (k := k) (p := ofs Wd Wd.length) (n := (fw wdB M k M.length - k)) (e := fw wdB M k M.length) hA (hX.wk ((wkA.s_wordAt _ _).tr (wkA.s_wordLength _ _))) hb (by omega) (by omega) h169 (fw wdB M k M.length - k) 0 (by omega)
              have e0 : (sub M k (k + 0)).map toLo = [] := by rw [Nat.add_zero, sub_nil (Nat.le_refl k)]; rfl
              rw [e0, wrt_nil] at h135
              exact h135
          · refine g_iconst (pc := 59) (v := 0) dc_M_split_59 rfl ?_
            refine g_goto (pc := 60) (tgt := 86) dc_M_split_60 rfl ?_
            have hww : wdB (gx M k) = true := hfi (by omega)
            have hB2 : Wd.flatten.length + Wd.length + (M.length - k) ≤ 8000 := hB.resolve_right (fun h9 => h9.2 hl hww)
            have e9 : ofs Wd Wd.length = 0 := by rw [hc56]; rfl
            show am_G X mt_M_split _ 86 [some (.ref 84), some (.ref ca), none, some (.int (nI M.length)), some (.int (nI k)), some (.int (nI (fw wdB M k M.length))), none, none, none] [.int (nI 0)] _ _
            rw [← e9]
            refine g_istore (pc := 86) dc_M_split_86 (by decide) ?_
            show am_G X mt_M_split _ 88 [some (.ref 84), some (.ref ca), none, some (.int (nI M.length)), some (.int (nI k)), some (.int (nI (fw wdB M k M.length))), some (.int (nI (ofs Wd Wd.length))), none, none] [] _ _
            refine g_iload (pc := 88) dc_M_split_88 rfl ?_
            refine g_iload (pc := 90) dc_M_split_90 rfl ?_
            refine g_isub (pc := 92) (v := (nI (fw wdB M k M.length - k))) dc_M_split_92 (q_sub (a := fw wdB M k M.length) (b := k) (by omega)) ?_
            refine g_bipush (pc := 93) (v := 20) dc_M_split_93 rfl ?_
            refine q_icmp_ge (pc := 95) (tgt := 106) (fw wdB M k M.length - k) 20 dc_M_split_95 (by omega) (by omega) rfl (fun hc95 => ?_) (fun hc95 => ?_)
            · refine g_bipush (pc := 106) (v := 20) dc_M_split_106 rfl ?_
              refine g_istore (pc := 108) dc_M_split_108 (by decide) ?_
              show am_G X mt_M_split _ 110 [some (.ref 84), some (.ref ca), none, some (.int (nI M.length)), some (.int (nI k)), some (.int (nI (fw wdB M k M.length))), some (.int (nI (ofs Wd Wd.length))), some (.int 20), none] [] _ _
              refine g_aload_n (pc := 110) dc_M_split_110 rfl ?_
              refine g_getfield (pc := 111) dc_M_split_111 fl_M_226 (mp_o hA) rfl ?_
              refine g_aload_n (pc := 114) dc_M_split_114 rfl ?_
              refine g_getfield (pc := 115) (v := .int (nI Wd.length)) dc_M_split_115 fl_M_223 (mp_o hA) (congrArg (fun z => some (Value.int (nI z))) hw1) ?_
              refine g_iload (pc := 118) dc_M_split_118 rfl ?_
              refine as_wordAt (pc := 120) Wd.length hA dc_M_split_120 (by omega) ?_
              refine g_aload_n (pc := 121) dc_M_split_121 rfl ?_
              refine g_getfield (pc := 122) dc_M_split_122 fl_M_229 (mp_o hA) rfl ?_
              refine g_aload_n (pc := 125) dc_M_split_125 rfl ?_
              refine g_getfield (pc := 126) (v := .int (nI Wd.length)) dc_M_split_126 fl_M_223 (mp_o hA) (congrArg (fun z => some (Value.int (nI z))) hw1) ?_
              refine g_iload (pc := 129) dc_M_split_129 rfl ?_
              refine as_wordLength (pc := 131) Wd.length hA dc_M_split_131 (by omega) ?_
              refine g_iconst (pc := 132) (v := 0) dc_M_split_132 rfl ?_
              refine g_istore (pc := 133) dc_M_split_133 (by decide) ?_
              show am_G X mt_M_split _ 135 [some (.ref 84), some (.ref ca), none, some (.int (nI M.length)), some (.int (nI k)), some (.int (nI (fw wdB M k M.length))), some (.int (nI (ofs Wd Wd.length))), some (.int 20), some (.int 0)] [] _ _
              have hnn : k + 20 = Nat.min (fw wdB M k M.length) (k + 20) := by show _ = min (fw wdB M k M.length) (k + 20); omega
              have hD : 20 = ((sub M k (k + 20)).map toLo).length := by rw [List.length_map, sub_len (by omega)]; omega
              have h169 : am_G X mt_M_split (d + 1) 169 [some (.ref 84), some (.ref ca), none, some (.int (nI M.length)), some (.int (nI k)), some (.int (nI (fw wdB M k M.length))), some (.int (nI (ofs Wd Wd.length))), some (.int (nI 20)), none] [] (mput A (((S.s_wordAt (upd S.wordAt Wd.length (nI (ofs Wd Wd.length)))).s_wordLength (upd S.wordLength Wd.length (nI 20))).s_words (wrt S.words (ofs Wd Wd.length) ((sub M k (k + 20)).map toLo))) B) (fun r h1 => r = none ∧ ∃ S1, h1 = mput A S1 B ∧ wkA S S1 ∧ wdS S1 (Wd ++ spl M k)) := by
                refine g_aload_n (pc := 169) dc_M_split_169 rfl ?_
                refine g_dup (pc := 170) dc_M_split_170 rfl ?_
                refine g_getfield (pc := 171) (v := .int (nI Wd.length)) dc_M_split_171 fl_M_223 (mp_o hA) (congrArg (fun z => some (Value.int (nI z))) hw1) ?_
                refine g_iconst (pc := 174) (v := 1) dc_M_split_174 rfl ?_
                refine g_iadd (pc := 175) (v := (nI (Wd.length + 1))) dc_M_split_175 (nI_add Wd.length 1) ?_
                refine pf_wordCount (pc := 176) (v := Wd.length + 1) hA dc_M_split_176 fp_M_split_223 ?_
                refine g_iload (pc := 179) dc_M_split_179 rfl ?_
                refine g_istore (pc := 181) dc_M_split_181 (by decide) ?_
                show am_G X mt_M_split _ 183 [some (.ref 84), some (.ref ca), none, some (.int (nI M.length)), some (.int (nI (fw wdB M k M.length))), some (.int (nI (fw wdB M k M.length))), some (.int (nI (ofs Wd Wd.length))), some (.int (nI 20)), none] [] _ _
                refine g_goto (pc := 183) (tgt := 189) dc_M_split_183 rfl ?_
                refine g_goto (pc := 189) (tgt := 3) dc_M_split_189 rfl ?_
                refine am_wk (am_le_s (am_le_s (am_le_n (am_le_s (am_le_s (am_le_n (am_le_n (am_le_n (am_le_n am_le_0))))))))) ?_
                obtain ⟨S9, e9, g1, g2⟩ := hw.of hD
                rw [← e9]
                refine am_G.mono (l_M_split hA hb j (fw wdB M k M.length) S9 (Wd ++ [(sub M k (k + 20)).map toLo]) (by omega) (by omega) hM (hX.wk g1) g2 ?_ ?_) ?_
                · rw [List.flatten_append, List.length_append, List.length_append]; show _ + 1 ≤ _ + ([_].flatten).length; rw [List.flatten_cons, List.flatten_nil, List.append_nil, ← hD]; omega
                · refine Or.inr ⟨?_, fun h9 => by rw [hfo h9]; decide⟩
                  rw [List.flatten_append, List.length_append, List.length_append]
                  show _ + ([_].flatten).length + (_ + 1) + _ ≤ _
                  rw [List.flatten_cons, List.flatten_nil, List.append_nil, ← hD]
                  omega
                · rintro r h1 ⟨q1, S1, q2, q3, q4⟩
                  rw [spl_w hl hww, ← hnn, List.append_cons]
                  exact ⟨q1, S1, q2, g1.tr q3, q4⟩
              have h135 := v135_M_split (X := X) (d := d) (Q := (fun r h1 => r = none ∧ ∃ S1, h1 = mput A S1 B ∧ wkA S S1 ∧ wdS S1 (Wd ++ spl M k))) (S := ((S.s_wordAt (upd S.wordAt Wd.length (nI (ofs Wd Wd.length)))).s_wordLength (upd S.wordLength Wd.length (nI 20)))) (g0 := S.words) (k := k) (p := ofs Wd Wd.length) (n := 20) (e := fw wdB M k M.length) hA (hX.wk ((wkA.s_wordAt _ _).tr (wkA.s_wordLength _ _))) hb (by omega) (by omega) h169 20 0 (by omega)
              have e0 : (sub M k (k + 0)).map toLo = [] := by rw [Nat.add_zero, sub_nil (Nat.le_refl k)]; rfl
              rw [e0, wrt_nil] at h135
              exact h135
            · refine g_iload (pc := 98) dc_M_split_98 rfl ?_
              refine g_iload (pc := 100) dc_M_split_100 rfl ?_
              refine g_isub (pc := 102) (v := (nI (fw wdB M k M.length - k))) dc_M_split_102 (q_sub (a := fw wdB M k M.length) (b := k) (by omega)) ?_
              refine g_goto (pc := 103) (tgt := 108) dc_M_split_103 rfl ?_
              refine g_istore (pc := 108) dc_M_split_108 (by decide) ?_
              show am_G X mt_M_split _ 110 [some (.ref 84), some (.ref ca), none, some (.int (nI M.length)), some (.int (nI k)), some (.int (nI (fw wdB M k M.length))), some (.int (nI (ofs Wd Wd.length))), some (.int (nI (fw wdB M k M.length - k))), none] [] _ _
              refine g_aload_n (pc := 110) dc_M_split_110 rfl ?_
              refine g_getfield (pc := 111) dc_M_split_111 fl_M_226 (mp_o hA) rfl ?_
              refine g_aload_n (pc := 114) dc_M_split_114 rfl ?_
              refine g_getfield (pc := 115) (v := .int (nI Wd.length)) dc_M_split_115 fl_M_223 (mp_o hA) (congrArg (fun z => some (Value.int (nI z))) hw1) ?_
              refine g_iload (pc := 118) dc_M_split_118 rfl ?_
              refine as_wordAt (pc := 120) Wd.length hA dc_M_split_120 (by omega) ?_
              refine g_aload_n (pc := 121) dc_M_split_121 rfl ?_
              refine g_getfield (pc := 122) dc_M_split_122 fl_M_229 (mp_o hA) rfl ?_
              refine g_aload_n (pc := 125) dc_M_split_125 rfl ?_
              refine g_getfield (pc := 126) (v := .int (nI Wd.length)) dc_M_split_126 fl_M_223 (mp_o hA) (congrArg (fun z => some (Value.int (nI z))) hw1) ?_
              refine g_iload (pc := 129) dc_M_split_129 rfl ?_
              refine as_wordLength (pc := 131) Wd.length hA dc_M_split_131 (by omega) ?_
              refine g_iconst (pc := 132) (v := 0) dc_M_split_132 rfl ?_
              refine g_istore (pc := 133) dc_M_split_133 (by decide) ?_
              show am_G X mt_M_split _ 135 [some (.ref 84), some (.ref ca), none, some (.int (nI M.length)), some (.int (nI k)), some (.int (nI (fw wdB M k M.length))), some (.int (nI (ofs Wd Wd.length))), some (.int (nI (fw wdB M k M.length - k))), some (.int 0)] [] _ _
              have hnn : k + (fw wdB M k M.length - k) = Nat.min (fw wdB M k M.length) (k + 20) := by show _ = min (fw wdB M k M.length) (k + 20); omega
              have hD : (fw wdB M k M.length - k) = ((sub M k (k + (fw wdB M k M.length - k))).map toLo).length := by rw [List.length_map, sub_len (by omega)]; omega
              have h169 : am_G X mt_M_split (d + 1) 169 [some (.ref 84), some (.ref ca), none, some (.int (nI M.length)), some (.int (nI k)), some (.int (nI (fw wdB M k M.length))), some (.int (nI (ofs Wd Wd.length))), some (.int (nI (fw wdB M k M.length - k))), none] [] (mput A (((S.s_wordAt (upd S.wordAt Wd.length (nI (ofs Wd Wd.length)))).s_wordLength (upd S.wordLength Wd.length (nI (fw wdB M k M.length - k)))).s_words (wrt S.words (ofs Wd Wd.length) ((sub M k (k + (fw wdB M k M.length - k))).map toLo))) B) (fun r h1 => r = none ∧ ∃ S1, h1 = mput A S1 B ∧ wkA S S1 ∧ wdS S1 (Wd ++ spl M k)) := by
                refine g_aload_n (pc := 169) dc_M_split_169 rfl ?_
                refine g_dup (pc := 170) dc_M_split_170 rfl ?_
                refine g_getfield (pc := 171) (v := .int (nI Wd.length)) dc_M_split_171 fl_M_223 (mp_o hA) (congrArg (fun z => some (Value.int (nI z))) hw1) ?_
                refine g_iconst (pc := 174) (v := 1) dc_M_split_174 rfl ?_
                refine g_iadd (pc := 175) (v := (nI (Wd.length + 1))) dc_M_split_175 (nI_add Wd.length 1) ?_
                refine pf_wordCount (pc := 176) (v := Wd.length + 1) hA dc_M_split_176 fp_M_split_223 ?_
                refine g_iload (pc := 179) dc_M_split_179 rfl ?_
                refine g_istore (pc := 181) dc_M_split_181 (by decide) ?_
                show am_G X mt_M_split _ 183 [some (.ref 84), some (.ref ca), none, some (.int (nI M.length)), some (.int (nI (fw wdB M k M.length))), some (.int (nI (fw wdB M k M.length))), some (.int (nI (ofs Wd Wd.length))), some (.int (nI (fw wdB M k M.length - k))), none] [] _ _
                refine g_goto (pc := 183) (tgt := 189) dc_M_split_183 rfl ?_
                refine g_goto (pc := 189) (tgt := 3) dc_M_split_189 rfl ?_
                refine am_wk (am_le_s (am_le_s (am_le_n (am_le_s (am_le_s (am_le_n (am_le_n (am_le_n (am_le_n am_le_0))))))))) ?_
                obtain ⟨S9, e9, g1, g2⟩ := hw.of hD
                rw [← e9]
                refine am_G.mono (l_M_split hA hb j (fw wdB M k M.length) S9 (Wd ++ [(sub M k (k + (fw wdB M k M.length - k))).map toLo]) (by omega) (by omega) hM (hX.wk g1) g2 ?_ ?_) ?_
                · rw [List.flatten_append, List.length_append, List.length_append]; show _ + 1 ≤ _ + ([_].flatten).length; rw [List.flatten_cons, List.flatten_nil, List.append_nil, ← hD]; omega
                · refine Or.inr ⟨?_, fun h9 => by rw [hfo h9]; decide⟩
                  rw [List.flatten_append, List.length_append, List.length_append]
                  show _ + ([_].flatten).length + (_ + 1) + _ ≤ _
                  rw [List.flatten_cons, List.flatten_nil, List.append_nil, ← hD]
                  omega
                · rintro r h1 ⟨q1, S1, q2, q3, q4⟩
                  rw [spl_w hl hww, ← hnn, List.append_cons]
                  exact ⟨q1, S1, q2, g1.tr q3, q4⟩
              have h135 := v135_M_split (X := X) (d := d) (Q := (fun r h1 => r = none ∧ ∃ S1, h1 = mput A S1 B ∧ wkA S S1 ∧ wdS S1 (Wd ++ spl M k))) (S := ((S.s_wordAt (upd S.wordAt Wd.length (nI (ofs Wd Wd.length)))).s_wordLength (upd S.wordLength Wd.length (nI (fw wdB M k M.length - k))))) (g0 := S.words) (k := k) (p := ofs Wd Wd.length) (n := (fw wdB M k M.length - k)) (e := fw wdB M k M.length) hA (hX.wk ((wkA.s_wordAt _ _).tr (wkA.s_wordLength _ _))) hb (by omega) (by omega) h169 (fw wdB M k M.length - k) 0 (by omega)
              have e0 : (sub M k (k + 0)).map toLo = [] := by rw [Nat.add_zero, sub_nil (Nat.le_refl k)]; rfl
              rw [e0, wrt_nil] at h135
              exact h135
      · refine g_aload_n (pc := 19) dc_M_split_19 rfl ?_
        refine g_iload (pc := 20) dc_M_split_20 rfl ?_
        refine q_tx0 (pc := 22) (fw wdB M k M.length) dc_M_split_22 ha hT (by omega) (by omega) (by omega) ?_
        refine g_s1 (pc := 23) (M' := mt_M_isLetter) dc_M_split_23 mo_M_isLetter st_M_isLetter ln_M_58 (Nat.le_of_ble_eq_true rfl) (Nat.le_of_ble_eq_true rfl) (am_G.mono (c_M_isLetter (v := (gx M (fw wdB M k M.length)))) ?_)
        intro r h1 hq
        rw [hq.1, hq.2]
        clear hq h1 r
        refine ⟨am_nti _, ?_⟩
        refine q_ifb_ne (pc := 26) (tgt := 39) dc_M_split_26 rfl (fun hc26 => ?_) (fun hc26 => ?_)
        · exact absurd (hfo (by omega)) (by rw [show wdB (gx M (fw wdB M k M.length)) = true from (by first | exact wdB_l hc26 | exact wdB_d hc36)]; decide)
        · refine g_aload_n (pc := 29) dc_M_split_29 rfl ?_
          refine g_iload (pc := 30) dc_M_split_30 rfl ?_
          refine q_tx0 (pc := 32) (fw wdB M k M.length) dc_M_split_32 ha hT (by omega) (by omega) (by omega) ?_
          refine g_s1 (pc := 33) (M' := mt_M_isDigit) dc_M_split_33 mo_M_isDigit st_M_isDigit ln_M_11 (Nat.le_of_ble_eq_true rfl) (Nat.le_of_ble_eq_true rfl) (am_G.mono (c_M_isDigit (v := (gx M (fw wdB M k M.length)))) ?_)
          intro r h1 hq
          rw [hq.1, hq.2]
          clear hq h1 r
          refine ⟨am_nti _, ?_⟩
          refine q_ifb_eq (pc := 36) (tgt := 45) dc_M_split_36 rfl (fun hc36 => ?_) (fun hc36 => ?_)
          · refine g_iload (pc := 45) dc_M_split_45 rfl ?_
            refine g_iload (pc := 47) dc_M_split_47 rfl ?_
            refine q_icmp_le (pc := 49) (tgt := 186) (fw wdB M k M.length) k dc_M_split_49 (by omega) (by omega) rfl (fun hc49 => ?_) (fun hc49 => ?_)
            · refine g_iinc (pc := 186) (v := (nI (k + 1))) dc_M_split_186 rfl (nI_add k 1) (by decide) ?_
              show am_G X mt_M_split _ 189 [some (.ref 84), some (.ref ca), none, some (.int (nI M.length)), some (.int (nI (k + 1))), some (.int (nI (fw wdB M k M.length))), none, none, none] [] _ _
              refine g_goto (pc := 189) (tgt := 3) dc_M_split_189 rfl ?_
              have hwn : ¬ wdB (gx M k) = true := fun h9 => absurd (fw_gt hl h9) (by omega)
              rw [spl_n hl hwn]
              refine am_wk (am_le_s (am_le_s (am_le_n (am_le_s (am_le_s (am_le_n (am_le_n (am_le_n (am_le_n am_le_0))))))))) ?_
              exact l_M_split hA hb j (k + 1) S Wd (by omega) (by omega) hM hX hw hcw (Or.inl (by rcases hB with q | q <;> omega))
            · refine g_aload_n (pc := 52) dc_M_split_52 rfl ?_
              refine g_getfield (pc := 53) (v := .int (nI Wd.length)) dc_M_split_53 fl_M_223 (mp_o hA) (congrArg (fun z => some (Value.int (nI z))) hw1) ?_
              refine q_if_ne (pc := 56) (tgt := 63) Wd.length dc_M_split_56 (by omega) rfl (fun hc56 => ?_) (fun hc56 => ?_)
              · refine g_aload_n (pc := 63) dc_M_split_63 rfl ?_
                refine g_getfield (pc := 64) dc_M_split_64 fl_M_226 (mp_o hA) rfl ?_
                refine g_aload_n (pc := 67) dc_M_split_67 rfl ?_
                refine g_getfield (pc := 68) (v := .int (nI Wd.length)) dc_M_split_68 fl_M_223 (mp_o hA) (congrArg (fun z => some (Value.int (nI z))) hw1) ?_
                refine g_iconst (pc := 71) (v := 1) dc_M_split_71 rfl ?_
                refine g_isub (pc := 72) (v := (nI (Wd.length - 1))) dc_M_split_72 (q_sub (a := Wd.length) (b := 1) (by omega)) ?_
                refine q_ialoadV (pc := 73) (Wd.length - 1) dc_M_split_73 (mp_a hA 21 rfl) (by omega) (by omega) (v := (nI (ofs Wd (Wd.length - 1)))) (hw2 (Wd.length - 1) (by omega)).1 ?_
                refine g_aload_n (pc := 74) dc_M_split_74 rfl ?_
                refine g_getfield (pc := 75) dc_M_split_75 fl_M_229 (mp_o hA) rfl ?_
                refine g_aload_n (pc := 78) dc_M_split_78 rfl ?_
                refine g_getfield (pc := 79) (v := .int (nI Wd.length)) dc_M_split_79 fl_M_223 (mp_o hA) (congrArg (fun z => some (Value.int (nI z))) hw1) ?_
                refine g_iconst (pc := 82) (v := 1) dc_M_split_82 rfl ?_
                refine g_isub (pc := 83) (v := (nI (Wd.length - 1))) dc_M_split_83 (q_sub (a := Wd.length) (b := 1) (by omega)) ?_
                refine q_ialoadV (pc := 84) (Wd.length - 1) dc_M_split_84 (mp_a hA 22 rfl) (by omega) (by omega) (v := (nI ((gT Wd (Wd.length - 1)).length))) (hw2 (Wd.length - 1) (by omega)).2.1 ?_
                refine g_iadd (pc := 85) (v := (nI (ofs Wd (Wd.length - 1) + ((gT Wd (Wd.length - 1)).length)))) dc_M_split_85 (nI_add (ofs Wd (Wd.length - 1)) ((gT Wd (Wd.length - 1)).length)) ?_
                have hww : wdB (gx M k) = true := hfi (by omega)
                have hB2 : Wd.flatten.length + Wd.length + (M.length - k) ≤ 8000 := hB.resolve_right (fun h9 => h9.2 hl hww)
                have e9 := ofs_s (T := Wd) (k := Wd.length - 1) (by omega)
                rw [Nat.sub_add_cancel (by omega)] at e9
                rw [← e9]
                refine g_istore (pc := 86) dc_M_split_86 (by decide) ?_
                show am_G X mt_M_split _ 88 [some (.ref 84), some (.ref ca), none, some (.int (nI M.length)), some (.int (nI k)), some (.int (nI (fw wdB M k M.length))), some (.int (nI (ofs Wd Wd.length))), none, none] [] _ _
                refine g_iload (pc := 88) dc_M_split_88 rfl ?_
                refine g_iload (pc := 90) dc_M_split_90 rfl ?_
                refine g_isub (pc := 92) (v := (nI (fw wdB M k M.length - k))) dc_M_split_92 (q_sub (a := fw wdB M k M.length) (b := k) (by omega)) ?_
                refine g_bipush (pc := 93) (v := 20) dc_M_split_93 rfl ?_
                refine q_icmp_ge (pc := 95) (tgt := 106) (fw wdB M k M.length - k) 20 dc_M_split_95 (by omega) (by omega) rfl (fun hc95 => ?_) (fun hc95 => ?_)
                · refine g_bipush (pc := 106) (v := 20) dc_M_split_106 rfl ?_
                  refine g_istore (pc := 108) dc_M_split_108 (by decide) ?_
                  show am_G X mt_M_split _ 110 [some (.ref 84), some (.ref ca), none, some (.int (nI M.length)), some (.int (nI k)), some (.int (nI (fw wdB M k M.length))), some (.int (nI (ofs Wd Wd.length))), some (.int 20), none] [] _ _
                  refine g_aload_n (pc := 110) dc_M_split_110 rfl ?_
                  refine g_getfield (pc := 111) dc_M_split_111 fl_M_226 (mp_o hA) rfl ?_
                  refine g_aload_n (pc := 114) dc_M_split_114 rfl ?_
                  refine g_getfield (pc := 115) (v := .int (nI Wd.length)) dc_M_split_115 fl_M_223 (mp_o hA) (congrArg (fun z => some (Value.int (nI z))) hw1) ?_
                  refine g_iload (pc := 118) dc_M_split_118 rfl ?_
                  refine as_wordAt (pc := 120) Wd.length hA dc_M_split_120 (by omega) ?_
                  refine g_aload_n (pc := 121) dc_M_split_121 rfl ?_
                  refine g_getfield (pc := 122) dc_M_split_122 fl_M_229 (mp_o hA) rfl ?_
                  refine g_aload_n (pc := 125) dc_M_split_125 rfl ?_
                  refine g_getfield (pc := 126) (v := .int (nI Wd.length)) dc_M_split_126 fl_M_223 (mp_o hA) (congrArg (fun z => some (Value.int (nI z))) hw1) ?_
                  refine g_iload (pc := 129) dc_M_split_129 rfl ?_
                  refine as_wordLength (pc := 131) Wd.length hA dc_M_split_131 (by omega) ?_
                  refine g_iconst (pc := 132) (v := 0) dc_M_split_132 rfl ?_
                  refine g_istore (pc := 133) dc_M_split_133 (by decide) ?_
                  show am_G X mt_M_split _ 135 [some (.ref 84), some (.ref ca), none, some (.int (nI M.length)), some (.int (nI k)), some (.int (nI (fw wdB M k M.length))), some (.int (nI (ofs Wd Wd.length))), some (.int 20), some (.int 0)] [] _ _
                  have hnn : k + 20 = Nat.min (fw wdB M k M.length) (k + 20) := by show _ = min (fw wdB M k M.length) (k + 20); omega
                  have hD : 20 = ((sub M k (k + 20)).map toLo).length := by rw [List.length_map, sub_len (by omega)]; omega
                  have h169 : am_G X mt_M_split (d + 1) 169 [some (.ref 84), some (.ref ca), none, some (.int (nI M.length)), some (.int (nI k)), some (.int (nI (fw wdB M k M.length))), some (.int (nI (ofs Wd Wd.length))), some (.int (nI 20)), none] [] (mput A (((S.s_wordAt (upd S.wordAt Wd.length (nI (ofs Wd Wd.length)))).s_wordLength (upd S.wordLength Wd.length (nI 20))).s_words (wrt S.words (ofs Wd Wd.length) ((sub M k (k + 20)).map toLo))) B) (fun r h1 => r = none ∧ ∃ S1, h1 = mput A S1 B ∧ wkA S S1 ∧ wdS S1 (Wd ++ spl M k)) := by
                    refine g_aload_n (pc := 169) dc_M_split_169 rfl ?_
                    refine g_dup (pc := 170) dc_M_split_170 rfl ?_
                    refine g_getfield (pc := 171) (v := .int (nI Wd.length)) dc_M_split_171 fl_M_223 (mp_o hA) (congrArg (fun z => some (Value.int (nI z))) hw1) ?_
                    refine g_iconst (pc := 174) (v := 1) dc_M_split_174 rfl ?_
                    refine g_iadd (pc := 175) (v := (nI (Wd.length + 1))) dc_M_split_175 (nI_add Wd.length 1) ?_
                    refine pf_wordCount (pc := 176) (v := Wd.length + 1) hA dc_M_split_176 fp_M_split_223 ?_
                    refine g_iload (pc := 179) dc_M_split_179 rfl ?_
                    refine g_istore (pc := 181) dc_M_split_181 (by decide) ?_
                    show am_G X mt_M_split _ 183 [some (.ref 84), some (.ref ca), none, some (.int (nI M.length)), some (.int (nI (fw wdB M k M.length))), some (.int (nI (fw wdB M k M.length))), some (.int (nI (ofs Wd Wd.length))), some (.int (nI 20)), none] [] _ _
                    refine g_goto (pc := 183) (tgt := 189) dc_M_split_183 rfl ?_
                    refine g_goto (pc := 189) (tgt := 3) dc_M_split_189 rfl ?_
                    refine am_wk (am_le_s (am_le_s (am_le_n (am_le_s (am_le_s (am_le_n (am_le_n (am_le_n (am_le_n am_le_0))))))))) ?_
                    obtain ⟨S9, e9, g1, g2⟩ := hw.of hD
                    rw [← e9]
                    refine am_G.mono (l_M_split hA hb j (fw wdB M k M.length) S9 (Wd ++ [(sub M k (k + 20)).map toLo]) (by omega) (by omega) hM (hX.wk g1) g2 ?_ ?_) ?_
                    · rw [List.flatten_append, List.length_append, List.length_append]; show _ + 1 ≤ _ + ([_].flatten).length; rw [List.flatten_cons, List.flatten_nil, List.append_nil, ← hD]; omega
                    · refine Or.inr ⟨?_, fun h9 => by rw [hfo h9]; decide⟩
                      rw [List.flatten_append, List.length_append, List.length_append]
                      show _ + ([_].flatten).length + (_ + 1) + _ ≤ _
                      rw [List.flatten_cons, List.flatten_nil, List.append_nil, ← hD]
                      omega
                    · rintro r h1 ⟨q1, S1, q2, q3, q4⟩
                      rw [spl_w hl hww, ← hnn, List.append_cons]
                      exact ⟨q1, S1, q2, g1.tr q3, q4⟩
                  have h135 := v135_M_split (X := X) (d := d) (Q := (fun r h1 => r = none ∧ ∃ S1, h1 = mput A S1 B ∧ wkA S S1 ∧ wdS S1 (Wd ++ spl M k))) (S := ((S.s_wordAt (upd S.wordAt Wd.length (nI (ofs Wd Wd.length)))).s_wordLength (upd S.wordLength Wd.length (nI 20)))) (g0 := S.words) (k := k) (p := ofs Wd Wd.length) (n := 20) (e := fw wdB M k M.length) hA (hX.wk ((wkA.s_wordAt _ _).tr (wkA.s_wordLength _ _))) hb (by omega) (by omega) h169 20 0 (by omega)
                  have e0 : (sub M k (k + 0)).map toLo = [] := by rw [Nat.add_zero, sub_nil (Nat.le_refl k)]; rfl
                  rw [e0, wrt_nil] at h135
                  exact h135
                · refine g_iload (pc := 98) dc_M_split_98 rfl ?_
                  refine g_iload (pc := 100) dc_M_split_100 rfl ?_
                  refine g_isub (pc := 102) (v := (nI (fw wdB M k M.length - k))) dc_M_split_102 (q_sub (a := fw wdB M k M.length) (b := k) (by omega)) ?_
                  refine g_goto (pc := 103) (tgt := 108) dc_M_split_103 rfl ?_
                  refine g_istore (pc := 108) dc_M_split_108 (by decide) ?_
                  show am_G X mt_M_split _ 110 [some (.ref 84), some (.ref ca), none, some (.int (nI M.length)), some (.int (nI k)), some (.int (nI (fw wdB M k M.length))), some (.int (nI (ofs Wd Wd.length))), some (.int (nI (fw wdB M k M.length - k))), none] [] _ _
                  refine g_aload_n (pc := 110) dc_M_split_110 rfl ?_
                  refine g_getfield (pc := 111) dc_M_split_111 fl_M_226 (mp_o hA) rfl ?_
                  refine g_aload_n (pc := 114) dc_M_split_114 rfl ?_
                  refine g_getfield (pc := 115) (v := .int (nI Wd.length)) dc_M_split_115 fl_M_223 (mp_o hA) (congrArg (fun z => some (Value.int (nI z))) hw1) ?_
                  refine g_iload (pc := 118) dc_M_split_118 rfl ?_
                  refine as_wordAt (pc := 120) Wd.length hA dc_M_split_120 (by omega) ?_
                  refine g_aload_n (pc := 121) dc_M_split_121 rfl ?_
                  refine g_getfield (pc := 122) dc_M_split_122 fl_M_229 (mp_o hA) rfl ?_
                  refine g_aload_n (pc := 125) dc_M_split_125 rfl ?_
                  refine g_getfield (pc := 126) (v := .int (nI Wd.length)) dc_M_split_126 fl_M_223 (mp_o hA) (congrArg (fun z => some (Value.int (nI z))) hw1) ?_
                  refine g_iload (pc := 129) dc_M_split_129 rfl ?_
                  refine as_wordLength (pc := 131) Wd.length hA dc_M_split_131 (by omega) ?_
                  refine g_iconst (pc := 132) (v := 0) dc_M_split_132 rfl ?_
                  refine g_istore (pc := 133) dc_M_split_133 (by decide) ?_
                  show am_G X mt_M_split _ 135 [some (.ref 84), some (.ref ca), none, some (.int (nI M.length)), some (.int (nI k)), some (.int (nI (fw wdB M k M.length))), some (.int (nI (ofs Wd Wd.length))), some (.int (nI (fw wdB M k M.length - k))), some (.int 0)] [] _ _
                  have hnn : k + (fw wdB M k M.length - k) = Nat.min (fw wdB M k M.length) (k + 20) := by show _ = min (fw wdB M k M.length) (k + 20); omega
                  have hD : (fw wdB M k M.length - k) = ((sub M k (k + (fw wdB M k M.length - k))).map toLo).length := by rw [List.length_map, sub_len (by omega)]; omega
                  have h169 : am_G X mt_M_split (d + 1) 169 [some (.ref 84), some (.ref ca), none, some (.int (nI M.length)), some (.int (nI k)), some (.int (nI (fw wdB M k M.length))), some (.int (nI (ofs Wd Wd.length))), some (.int (nI (fw wdB M k M.length - k))), none] [] (mput A (((S.s_wordAt (upd S.wordAt Wd.length (nI (ofs Wd Wd.length)))).s_wordLength (upd S.wordLength Wd.length (nI (fw wdB M k M.length - k)))).s_words (wrt S.words (ofs Wd Wd.length) ((sub M k (k + (fw wdB M k M.length - k))).map toLo))) B) (fun r h1 => r = none ∧ ∃ S1, h1 = mput A S1 B ∧ wkA S S1 ∧ wdS S1 (Wd ++ spl M k)) := by
                    refine g_aload_n (pc := 169) dc_M_split_169 rfl ?_
                    refine g_dup (pc := 170) dc_M_split_170 rfl ?_
                    refine g_getfield (pc := 171) (v := .int (nI Wd.length)) dc_M_split_171 fl_M_223 (mp_o hA) (congrArg (fun z => some (Value.int (nI z))) hw1) ?_
                    refine g_iconst (pc := 174) (v := 1) dc_M_split_174 rfl ?_
                    refine g_iadd (pc := 175) (v := (nI (Wd.length + 1))) dc_M_split_175 (nI_add Wd.length 1) ?_
                    refine pf_wordCount (pc := 176) (v := Wd.length + 1) hA dc_M_split_176 fp_M_split_223 ?_
                    refine g_iload (pc := 179) dc_M_split_179 rfl ?_
                    refine g_istore (pc := 181) dc_M_split_181 (by decide) ?_
                    show am_G X mt_M_split _ 183 [some (.ref 84), some (.ref ca), none, some (.int (nI M.length)), some (.int (nI (fw wdB M k M.length))), some (.int (nI (fw wdB M k M.length))), some (.int (nI (ofs Wd Wd.length))), some (.int (nI (fw wdB M k M.length - k))), none] [] _ _
                    refine g_goto (pc := 183) (tgt := 189) dc_M_split_183 rfl ?_
                    refine g_goto (pc := 189) (tgt := 3) dc_M_split_189 rfl ?_
                    refine am_wk (am_le_s (am_le_s (am_le_n (am_le_s (am_le_s (am_le_n (am_le_n (am_le_n (am_le_n am_le_0))))))))) ?_
                    obtain ⟨S9, e9, g1, g2⟩ := hw.of hD
                    rw [← e9]
                    refine am_G.mono (l_M_split hA hb j (fw wdB M k M.length) S9 (Wd ++ [(sub M k (k + (fw wdB M k M.length - k))).map toLo]) (by omega) (by omega) hM (hX.wk g1) g2 ?_ ?_) ?_
                    · rw [List.flatten_append, List.length_append, List.length_append]; show _ + 1 ≤ _ + ([_].flatten).length; rw [List.flatten_cons, List.flatten_nil, List.append_nil, ← hD]; omega
                    · refine Or.inr ⟨?_, fun h9 => by rw [hfo h9]; decide⟩
                      rw [List.flatten_append, List.length_append, List.length_append]
                      show _ + ([_].flatten).length + (_ + 1) + _ ≤ _
                      rw [List.flatten_cons, List.flatten_nil, List.append_nil, ← hD]
                      omega
                    · rintro r h1 ⟨q1, S1, q2, q3, q4⟩
                      rw [spl_w hl hww, ← hnn, List.append_cons]
                      exact ⟨q1, S1, q2, g1.tr q3, q4⟩
                  have h135 := v135_M_split (X := X) (d := d) (Q := (fun r h1 => r = none ∧ ∃ S1, h1 = mput A S1 B ∧ wkA S S1 ∧ wdS S1 (Wd ++ spl M k))) (S := ((S.s_wordAt (upd S.wordAt Wd.length (nI (ofs Wd Wd.length)))).s_wordLength (upd S.wordLength Wd.length (nI (fw wdB M k M.length - k))))) (g0 := S.words) (k := k) (p := ofs Wd Wd.length) (n := (fw wdB M k M.length - k)) (e := fw wdB M k M.length) hA (hX.wk ((wkA.s_wordAt _ _).tr (wkA.s_wordLength _ _))) hb (by omega) (by omega) h169 (fw wdB M k M.length - k) 0 (by omega)
                  have e0 : (sub M k (k + 0)).map toLo = [] := by rw [Nat.add_zero, sub_nil (Nat.le_refl k)]; rfl
                  rw [e0, wrt_nil] at h135
                  exact h135
              · refine g_iconst (pc := 59) (v := 0) dc_M_split_59 rfl ?_
                refine g_goto (pc := 60) (tgt := 86) dc_M_split_60 rfl ?_
                have hww : wdB (gx M k) = true := hfi (by omega)
                have hB2 : Wd.flatten.length + Wd.length + (M.length - k) ≤ 8000 := hB.resolve_right (fun h9 => h9.2 hl hww)
                have e9 : ofs Wd Wd.length = 0 := by rw [hc56]; rfl
                show am_G X mt_M_split _ 86 [some (.ref 84), some (.ref ca), none, some (.int (nI M.length)), some (.int (nI k)), some (.int (nI (fw wdB M k M.length))), none, none, none] [.int (nI 0)] _ _
                rw [← e9]
                refine g_istore (pc := 86) dc_M_split_86 (by decide) ?_
                show am_G X mt_M_split _ 88 [some (.ref 84), some (.ref ca), none, some (.int (nI M.length)), some (.int (nI k)), some (.int (nI (fw wdB M k M.length))), some (.int (nI (ofs Wd Wd.length))), none, none] [] _ _
                refine g_iload (pc := 88) dc_M_split_88 rfl ?_
                refine g_iload (pc := 90) dc_M_split_90 rfl ?_
                refine g_isub (pc := 92) (v := (nI (fw wdB M k M.length - k))) dc_M_split_92 (q_sub (a := fw wdB M k M.length) (b := k) (by omega)) ?_
                refine g_bipush (pc := 93) (v := 20) dc_M_split_93 rfl ?_
                refine q_icmp_ge (pc := 95) (tgt := 106) (fw wdB M k M.length - k) 20 dc_M_split_95 (by omega) (by omega) rfl (fun hc95 => ?_) (fun hc95 => ?_)
                · refine g_bipush (pc := 106) (v := 20) dc_M_split_106 rfl ?_
                  refine g_istore (pc := 108) dc_M_split_108 (by decide) ?_
                  show am_G X mt_M_split _ 110 [some (.ref 84), some (.ref ca), none, some (.int (nI M.length)), some (.int (nI k)), some (.int (nI (fw wdB M k M.length))), some (.int (nI (ofs Wd Wd.length))), some (.int 20), none] [] _ _
                  refine g_aload_n (pc := 110) dc_M_split_110 rfl ?_
                  refine g_getfield (pc := 111) dc_M_split_111 fl_M_226 (mp_o hA) rfl ?_
                  refine g_aload_n (pc := 114) dc_M_split_114 rfl ?_
                  refine g_getfield (pc := 115) (v := .int (nI Wd.length)) dc_M_split_115 fl_M_223 (mp_o hA) (congrArg (fun z => some (Value.int (nI z))) hw1) ?_
                  refine g_iload (pc := 118) dc_M_split_118 rfl ?_
                  refine as_wordAt (pc := 120) Wd.length hA dc_M_split_120 (by omega) ?_
                  refine g_aload_n (pc := 121) dc_M_split_121 rfl ?_
                  refine g_getfield (pc := 122) dc_M_split_122 fl_M_229 (mp_o hA) rfl ?_
                  refine g_aload_n (pc := 125) dc_M_split_125 rfl ?_
                  refine g_getfield (pc := 126) (v := .int (nI Wd.length)) dc_M_split_126 fl_M_223 (mp_o hA) (congrArg (fun z => some (Value.int (nI z))) hw1) ?_
                  refine g_iload (pc := 129) dc_M_split_129 rfl ?_
                  refine as_wordLength (pc := 131) Wd.length hA dc_M_split_131 (by omega) ?_
                  refine g_iconst (pc := 132) (v := 0) dc_M_split_132 rfl ?_
                  refine g_istore (pc := 133) dc_M_split_133 (by decide) ?_
                  show am_G X mt_M_split _ 135 [some (.ref 84), some (.ref ca), none, some (.int (nI M.length)), some (.int (nI k)), some (.int (nI (fw wdB M k M.length))), some (.int (nI (ofs Wd Wd.length))), some (.int 20), some (.int 0)] [] _ _
                  have hnn : k + 20 = Nat.min (fw wdB M k M.length) (k + 20) := by show _ = min (fw wdB M k M.length) (k + 20); omega
                  have hD : 20 = ((sub M k (k + 20)).map toLo).length := by rw [List.length_map, sub_len (by omega)]; omega
                  have h169 : am_G X mt_M_split (d + 1) 169 [some (.ref 84), some (.ref ca), none, some (.int (nI M.length)), some (.int (nI k)), some (.int (nI (fw wdB M k M.length))), some (.int (nI (ofs Wd Wd.length))), some (.int (nI 20)), none] [] (mput A (((S.s_wordAt (upd S.wordAt Wd.length (nI (ofs Wd Wd.length)))).s_wordLength (upd S.wordLength Wd.length (nI 20))).s_words (wrt S.words (ofs Wd Wd.length) ((sub M k (k + 20)).map toLo))) B) (fun r h1 => r = none ∧ ∃ S1, h1 = mput A S1 B ∧ wkA S S1 ∧ wdS S1 (Wd ++ spl M k)) := by
                    refine g_aload_n (pc := 169) dc_M_split_169 rfl ?_
                    refine g_dup (pc := 170) dc_M_split_170 rfl ?_
                    refine g_getfield (pc := 171) (v := .int (nI Wd.length)) dc_M_split_171 fl_M_223 (mp_o hA) (congrArg (fun z => some (Value.int (nI z))) hw1) ?_
                    refine g_iconst (pc := 174) (v := 1) dc_M_split_174 rfl ?_
                    refine g_iadd (pc := 175) (v := (nI (Wd.length + 1))) dc_M_split_175 (nI_add Wd.length 1) ?_
                    refine pf_wordCount (pc := 176) (v := Wd.length + 1) hA dc_M_split_176 fp_M_split_223 ?_
                    refine g_iload (pc := 179) dc_M_split_179 rfl ?_
                    refine g_istore (pc := 181) dc_M_split_181 (by decide) ?_
                    show am_G X mt_M_split _ 183 [some (.ref 84), some (.ref ca), none, some (.int (nI M.length)), some (.int (nI (fw wdB M k M.length))), some (.int (nI (fw wdB M k M.length))), some (.int (nI (ofs Wd Wd.length))), some (.int (nI 20)), none] [] _ _
                    refine g_goto (pc := 183) (tgt := 189) dc_M_split_183 rfl ?_
                    refine g_goto (pc := 189) (tgt := 3) dc_M_split_189 rfl ?_
                    refine am_wk (am_le_s (am_le_s (am_le_n (am_le_s (am_le_s (am_le_n (am_le_n (am_le_n (am_le_n am_le_0))))))))) ?_
                    obtain ⟨S9, e9, g1, g2⟩ := hw.of hD
                    rw [← e9]
                    refine am_G.mono (l_M_split hA hb j (fw wdB M k M.length) S9 (Wd ++ [(sub M k (k + 20)).map toLo]) (by omega) (by omega) hM (hX.wk g1) g2 ?_ ?_) ?_
                    · rw [List.flatten_append, List.length_append, List.length_append]; show _ + 1 ≤ _ + ([_].flatten).length; rw [List.flatten_cons, List.flatten_nil, List.append_nil, ← hD]; omega
                    · refine Or.inr ⟨?_, fun h9 => by rw [hfo h9]; decide⟩
                      rw [List.flatten_append, List.length_append, List.length_append]
                      show _ + ([_].flatten).length + (_ + 1) + _ ≤ _
                      rw [List.flatten_cons, List.flatten_nil, List.append_nil, ← hD]
                      omega
                    · rintro r h1 ⟨q1, S1, q2, q3, q4⟩
                      rw [spl_w hl hww, ← hnn, List.append_cons]
                      exact ⟨q1, S1, q2, g1.tr q3, q4⟩
                  have h135 := v135_M_split (X := X) (d := d) (Q := (fun r h1 => r = none ∧ ∃ S1, h1 = mput A S1 B ∧ wkA S S1 ∧ wdS S1 (Wd ++ spl M k))) (S := ((S.s_wordAt (upd S.wordAt Wd.length (nI (ofs Wd Wd.length)))).s_wordLength (upd S.wordLength Wd.length (nI 20)))) (g0 := S.words) (k := k) (p := ofs Wd Wd.length) (n := 20) (e := fw wdB M k M.length) hA (hX.wk ((wkA.s_wordAt _ _).tr (wkA.s_wordLength _ _))) hb (by omega) (by omega) h169 20 0 (by omega)
                  have e0 : (sub M k (k + 0)).map toLo = [] := by rw [Nat.add_zero, sub_nil (Nat.le_refl k)]; rfl
                  rw [e0, wrt_nil] at h135
                  exact h135
                · refine g_iload (pc := 98) dc_M_split_98 rfl ?_
                  refine g_iload (pc := 100) dc_M_split_100 rfl ?_
                  refine g_isub (pc := 102) (v := (nI (fw wdB M k M.length - k))) dc_M_split_102 (q_sub (a := fw wdB M k M.length) (b := k) (by omega)) ?_
                  refine g_goto (pc := 103) (tgt := 108) dc_M_split_103 rfl ?_
                  refine g_istore (pc := 108) dc_M_split_108 (by decide) ?_
                  show am_G X mt_M_split _ 110 [some (.ref 84), some (.ref ca), none, some (.int (nI M.length)), some (.int (nI k)), some (.int (nI (fw wdB M k M.length))), some (.int (nI (ofs Wd Wd.length))), some (.int (nI (fw wdB M k M.length - k))), none] [] _ _
                  refine g_aload_n (pc := 110) dc_M_split_110 rfl ?_
                  refine g_getfield (pc := 111) dc_M_split_111 fl_M_226 (mp_o hA) rfl ?_
                  refine g_aload_n (pc := 114) dc_M_split_114 rfl ?_
                  refine g_getfield (pc := 115) (v := .int (nI Wd.length)) dc_M_split_115 fl_M_223 (mp_o hA) (congrArg (fun z => some (Value.int (nI z))) hw1) ?_
                  refine g_iload (pc := 118) dc_M_split_118 rfl ?_
                  refine as_wordAt (pc := 120) Wd.length hA dc_M_split_120 (by omega) ?_
                  refine g_aload_n (pc := 121) dc_M_split_121 rfl ?_
                  refine g_getfield (pc := 122) dc_M_split_122 fl_M_229 (mp_o hA) rfl ?_
                  refine g_aload_n (pc := 125) dc_M_split_125 rfl ?_
                  refine g_getfield (pc := 126) (v := .int (nI Wd.length)) dc_M_split_126 fl_M_223 (mp_o hA) (congrArg (fun z => some (Value.int (nI z))) hw1) ?_
                  refine g_iload (pc := 129) dc_M_split_129 rfl ?_
                  refine as_wordLength (pc := 131) Wd.length hA dc_M_split_131 (by omega) ?_
                  refine g_iconst (pc := 132) (v := 0) dc_M_split_132 rfl ?_
                  refine g_istore (pc := 133) dc_M_split_133 (by decide) ?_
                  show am_G X mt_M_split _ 135 [some (.ref 84), some (.ref ca), none, some (.int (nI M.length)), some (.int (nI k)), some (.int (nI (fw wdB M k M.length))), some (.int (nI (ofs Wd Wd.length))), some (.int (nI (fw wdB M k M.length - k))), some (.int 0)] [] _ _
                  have hnn : k + (fw wdB M k M.length - k) = Nat.min (fw wdB M k M.length) (k + 20) := by show _ = min (fw wdB M k M.length) (k + 20); omega
                  have hD : (fw wdB M k M.length - k) = ((sub M k (k + (fw wdB M k M.length - k))).map toLo).length := by rw [List.length_map, sub_len (by omega)]; omega
                  have h169 : am_G X mt_M_split (d + 1) 169 [some (.ref 84), some (.ref ca), none, some (.int (nI M.length)), some (.int (nI k)), some (.int (nI (fw wdB M k M.length))), some (.int (nI (ofs Wd Wd.length))), some (.int (nI (fw wdB M k M.length - k))), none] [] (mput A (((S.s_wordAt (upd S.wordAt Wd.length (nI (ofs Wd Wd.length)))).s_wordLength (upd S.wordLength Wd.length (nI (fw wdB M k M.length - k)))).s_words (wrt S.words (ofs Wd Wd.length) ((sub M k (k + (fw wdB M k M.length - k))).map toLo))) B) (fun r h1 => r = none ∧ ∃ S1, h1 = mput A S1 B ∧ wkA S S1 ∧ wdS S1 (Wd ++ spl M k)) := by
                    refine g_aload_n (pc := 169) dc_M_split_169 rfl ?_
                    refine g_dup (pc := 170) dc_M_split_170 rfl ?_
                    refine g_getfield (pc := 171) (v := .int (nI Wd.length)) dc_M_split_171 fl_M_223 (mp_o hA) (congrArg (fun z => some (Value.int (nI z))) hw1) ?_
                    refine g_iconst (pc := 174) (v := 1) dc_M_split_174 rfl ?_
                    refine g_iadd (pc := 175) (v := (nI (Wd.length + 1))) dc_M_split_175 (nI_add Wd.length 1) ?_
                    refine pf_wordCount (pc := 176) (v := Wd.length + 1) hA dc_M_split_176 fp_M_split_223 ?_
                    refine g_iload (pc := 179) dc_M_split_179 rfl ?_
                    refine g_istore (pc := 181) dc_M_split_181 (by decide) ?_
                    show am_G X mt_M_split _ 183 [some (.ref 84), some (.ref ca), none, some (.int (nI M.length)), some (.int (nI (fw wdB M k M.length))), some (.int (nI (fw wdB M k M.length))), some (.int (nI (ofs Wd Wd.length))), some (.int (nI (fw wdB M k M.length - k))), none] [] _ _
                    refine g_goto (pc := 183) (tgt := 189) dc_M_split_183 rfl ?_
                    refine g_goto (pc := 189) (tgt := 3) dc_M_split_189 rfl ?_
                    refine am_wk (am_le_s (am_le_s (am_le_n (am_le_s (am_le_s (am_le_n (am_le_n (am_le_n (am_le_n am_le_0))))))))) ?_
                    obtain ⟨S9, e9, g1, g2⟩ := hw.of hD
                    rw [← e9]
                    refine am_G.mono (l_M_split hA hb j (fw wdB M k M.length) S9 (Wd ++ [(sub M k (k + (fw wdB M k M.length - k))).map toLo]) (by omega) (by omega) hM (hX.wk g1) g2 ?_ ?_) ?_
                    · rw [List.flatten_append, List.length_append, List.length_append]; show _ + 1 ≤ _ + ([_].flatten).length; rw [List.flatten_cons, List.flatten_nil, List.append_nil, ← hD]; omega
                    · refine Or.inr ⟨?_, fun h9 => by rw [hfo h9]; decide⟩
                      rw [List.flatten_append, List.length_append, List.length_append]
                      show _ + ([_].flatten).length + (_ + 1) + _ ≤ _
                      rw [List.flatten_cons, List.flatten_nil, List.append_nil, ← hD]
                      omega
                    · rintro r h1 ⟨q1, S1, q2, q3, q4⟩
                      rw [spl_w hl hww, ← hnn, List.append_cons]
                      exact ⟨q1, S1, q2, g1.tr q3, q4⟩
                  have h135 := v135_M_split (X := X) (d := d) (Q := (fun r h1 => r = none ∧ ∃ S1, h1 = mput A S1 B ∧ wkA S S1 ∧ wdS S1 (Wd ++ spl M k))) (S := ((S.s_wordAt (upd S.wordAt Wd.length (nI (ofs Wd Wd.length)))).s_wordLength (upd S.wordLength Wd.length (nI (fw wdB M k M.length - k))))) (g0 := S.words) (k := k) (p := ofs Wd Wd.length) (n := (fw wdB M k M.length - k)) (e := fw wdB M k M.length) hA (hX.wk ((wkA.s_wordAt _ _).tr (wkA.s_wordLength _ _))) hb (by omega) (by omega) h169 (fw wdB M k M.length - k) 0 (by omega)
                  have e0 : (sub M k (k + 0)).map toLo = [] := by rw [Nat.add_zero, sub_nil (Nat.le_refl k)]; rfl
                  rw [e0, wrt_nil] at h135
                  exact h135
          · exact absurd (hfo (by omega)) (by rw [show wdB (gx M (fw wdB M k M.length)) = true from (by first | exact wdB_l hc26 | exact wdB_d hc36)]; decide)
    · rw [spl_e (by omega), List.append_nil]
      refine g_iload (pc := 3) dc_M_split_3 rfl ?_
      refine g_iload_n (pc := 5) dc_M_split_5 rfl ?_
      refine q_icmp_ge (pc := 6) (tgt := 192) k M.length dc_M_split_6 (by omega) (by omega) rfl (fun hc6 => ?_) (fun hc => absurd hc (by omega))
      exact g_return dc_M_split_192 rfl ⟨rfl, S, rfl, wkA.rf S, hw⟩
theorem c_M_split {S : MS} (hA : A.length = 84) (hb : btg M) (hM : M.length ≤ 8400) (hX : txO A B S ca 0 M) (hw : wdS S Wd) (hc : Wd.length ≤ Wd.flatten.length) (hB : Wd.flatten.length + Wd.length + M.length ≤ 8000) : am_C X mt_M_split (d + 1) [.ref 84, .ref ca, .int (nI 0), .int (nI M.length)] (mput A S B) (fun r h1 => r = none ∧ ∃ S1, h1 = mput A S1 B ∧ wkA S S1 ∧ wdS S1 (Wd ++ spl M 0)) := by
  show am_G X mt_M_split (d + 1) 0 [some (.ref 84), some (.ref ca), some (.int (nI 0)), some (.int (nI M.length)), none, none, none, none, none] [] (mput A S B) _
  refine g_iload_n (pc := 0) dc_M_split_0 rfl ?_
  refine g_istore (pc := 1) dc_M_split_1 (by decide) ?_
  show am_G X mt_M_split _ 3 [some (.ref 84), some (.ref ca), some (.int (nI 0)), some (.int (nI M.length)), some (.int (nI 0)), none, none, none, none] [] _ _
  refine am_wk (am_le_s (am_le_s (am_le_n (am_le_s (am_le_s (am_le_n (am_le_n (am_le_n (am_le_n am_le_0))))))))) ?_
  exact l_M_split hA hb M.length 0 S Wd (by omega) (by omega) hM hX hw hc (Or.inl (by omega))
end MSP
