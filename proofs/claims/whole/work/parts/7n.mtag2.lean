/-! ===== the model's tags as a whole ===== -/
theorem nb_f {b : Bool} (h : (!b) = false) : b = true := by
  cases b with
  | true => rfl
  | false => cases h
theorem nb_t {b : Bool} (h : (!b) = true) : b = false := by
  cases b with
  | true => cases h
  | false => rfl
theorem nxW_o {nm p : Nat} {L : List Int32} (hk : kdA L p = 2) (he : tgE L p < L.length) (hc : tgC L p = false) : nxW nm L p = if isw nm L (tgF L p) (tgN L p) = true then tgH L p else none := by
  unfold nxW
  rw [show nxH L p = tgH L p from if_pos ⟨hk, he⟩, hc]
  by_cases h : isw nm L (tgF L p) (tgN L p) = true
  · rw [h]; rfl
  · have h2 : isw nm L (tgF L p) (tgN L p) = false := by cases h3 : isw nm L (tgF L p) (tgN L p) with | true => exact absurd h3 h | false => rfl
    rw [h2]; rfl
theorem nxW_c {nm p : Nat} {L : List Int32} (hc : tgC L p = true) : nxW nm L p = none := by
  unfold nxW
  rw [hc]; rfl
theorem nxW_h {nm p : Nat} {L : List Int32} (hc : nxH L p = none) : nxW nm L p = none := by
  unfold nxW
  rw [hc]; exact ite_self _
theorem bsO_n {L D : List Int32} {bo : Option (List Int32)} {p : Nat} (h : nxW 22 L p = none) : bsO L D bo p = bo := by
  unfold bsO
  rw [h]
  cases bo <;> rfl
theorem pvl_n {L : List Int32} {p : Nat} (h : nxW 28 L p = none) : pvl L p = [] := by
  unfold pvl
  rw [h]
theorem d_M_attributeEnd {X : am_X} {d s p : Nat} {A B : List va_E} {S : MS} {L : List Int32} {hq : Option (Nat × Nat)} (hA : A.length = 84) (hX : tx S.texts s L) (hs : s + L.length ≤ 24000) (hp : p < L.length) (hQ : hqS S s hq) : am_C X mt_M_attributeEnd (d + 5) [.ref 84, .int (nI (s + p)), .int (nI (s + L.length))] (mput A S B) (fun r h1 => r = some (.int (nI (s + (atr L p).1))) ∧ ∃ S9, h1 = mput A S9 B ∧ rkA S S9 ∧ hqS S9 s (hqT L p (aE L p) (atr L p).2.1 (atr L p).2.2 hq)) :=
  am_G.mono (c_M_attributeEnd hA hX hs hp hQ) (fun r h1 hz => by
    obtain ⟨hz1, b, f, e, hz2, hz3⟩ := hz
    exact ⟨hz1, _, hz2, ((rkA.s_hasHref _ _).tr (rkA.s_hrefFrom _ _)).tr (rkA.s_hrefEnd _ _), hz3⟩)
section MTH
variable {X : am_X} {d s p nf nt ka : Nat} {A B : List va_E} {L D : List Int32} {T V Wd : List (List Int32)} {bo : Option (List Int32)} {op : Bool}
theorem v3_M_tagEnd {Q : Option Value → List va_E → Prop} {S : MS} (hA : A.length = 84) (hX : tx S.texts s L) (hs : s + L.length ≤ 24000) : ∀ n i : Nat, i + n = L.length → am_G X mt_M_tagEnd (d + 6) 3 [some (.ref 84), some (.int (nI (s + nf))), some (.int (nI (s + L.length))), some (.int (b1 op)), some (.int (nI ka)), some (.int (nI (s + (fw tnB L i L.length)))), none, none, none] [] (mput A S B) Q → am_G X mt_M_tagEnd (d + 6) 3 [some (.ref 84), some (.int (nI (s + nf))), some (.int (nI (s + L.length))), some (.int (b1 op)), some (.int (nI ka)), some (.int (nI (s + i))), none, none, none] [] (mput A S B) Q
  | 0, i, e, K => by
    have e1 : fw tnB L i L.length = i := fw_0 (by omega)
    rw [e1] at K
    exact K
  | n + 1, i, e, K => by
    by_cases hp : tnB (gx L i) = true
    · rw [fw_t (by omega) hp] at K
      skip
      skip
      refine g_iload (pc := 3) dc_M_tagEnd_3 rfl ?_
      refine g_iload_n (pc := 5) dc_M_tagEnd_5 rfl ?_
      refine q_icmp_ge (pc := 6) (tgt := 52) (s + i) (s + L.length) dc_M_tagEnd_6 (by omega) (by omega) rfl (fun hc => absurd hc (by omega)) (fun hc6 => ?_)
      refine g_aload_n (pc := 9) dc_M_tagEnd_9 rfl ?_
      refine g_getfield (pc := 10) dc_M_tagEnd_10 fl_M_140 (mp_o hA) rfl ?_
      refine g_iload (pc := 13) dc_M_tagEnd_13 rfl ?_
      refine q_tx (pc := 15) i dc_M_tagEnd_15 (mp_a hA 12 rfl) hX hs (by omega) (by omega) ?_
      refine g_s1 (pc := 16) (M' := mt_M_isBlank) dc_M_tagEnd_16 mo_M_isBlank st_M_isBlank ln_M_75 (Nat.le_of_ble_eq_true rfl) (Nat.le_of_ble_eq_true rfl) (am_G.mono (c_M_isBlank (v := (gx L i))) ?_)
      intro r h1 hq
      rw [hq.1, hq.2]
      clear hq h1 r
      refine ⟨am_nti _, ?_⟩
      refine q_ifb_ne (pc := 19) (tgt := 52) dc_M_tagEnd_19 rfl (fun hc19 => ?_) (fun hc19 => ?_)
      · exact absurd hp (by simp [tnB, hc6, hc19])
      · refine g_aload_n (pc := 22) dc_M_tagEnd_22 rfl ?_
        refine g_getfield (pc := 23) dc_M_tagEnd_23 fl_M_140 (mp_o hA) rfl ?_
        refine g_iload (pc := 26) dc_M_tagEnd_26 rfl ?_
        refine q_tx (pc := 28) i dc_M_tagEnd_28 (mp_a hA 12 rfl) hX hs (by omega) (by omega) ?_
        refine g_bipush (pc := 29) (v := 47) dc_M_tagEnd_29 rfl ?_
        refine g_icmp_eq (pc := 31) (tgt := 52) dc_M_tagEnd_31 rfl (fun hc31 => ?_) (fun hc31 => ?_)
        · exact absurd hp (by simp [tnB, hc6, hc19, hc31])
        · refine g_aload_n (pc := 34) dc_M_tagEnd_34 rfl ?_
          refine g_getfield (pc := 35) dc_M_tagEnd_35 fl_M_140 (mp_o hA) rfl ?_
          refine g_iload (pc := 38) dc_M_tagEnd_38 rfl ?_
          refine q_tx (pc := 40) i dc_M_tagEnd_40 (mp_a hA 12 rfl) hX hs (by omega) (by omega) ?_
          refine g_bipush (pc := 41) (v := 62) dc_M_tagEnd_41 rfl ?_
          refine g_icmp_eq (pc := 43) (tgt := 52) dc_M_tagEnd_43 rfl (fun hc43 => ?_) (fun hc43 => ?_)
          · exact absurd hp (by simp [tnB, hc6, hc19, hc31, hc43])
          · refine g_iinc (pc := 46) (v := (nI (s + (i + 1)))) dc_M_tagEnd_46 rfl (q_as s i 1) (by decide) ?_
            show am_G X mt_M_tagEnd _ 49 [some (.ref 84), some (.int (nI (s + nf))), some (.int (nI (s + L.length))), some (.int (b1 op)), some (.int (nI ka)), some (.int (nI (s + (i + 1)))), none, none, none] [] _ _
            refine g_goto (pc := 49) (tgt := 3) dc_M_tagEnd_49 rfl ?_
            exact v3_M_tagEnd hA hX hs n (i + 1) (by omega) K
    · rw [fw_f hp] at K
      exact K
theorem v69_M_tagEnd {Q : Option Value → List va_E → Prop} (hA : A.length = 84) (hs : s + L.length ≤ 24000) : ∀ (m k : Nat) (hq : Option (Nat × Nat)) (S : MS), L.length - k ≤ m → k ≤ L.length → tx S.texts s L → hqS S s hq → (∀ S1, rkA S S1 → hqS S1 s (tgl L m k hq).2 → am_G X mt_M_tagEnd (d + 6) 148 [some (.ref 84), some (.int (nI (s + nf))), some (.int (nI (s + L.length))), some (.int (b1 op)), some (.int (nI ka)), some (.int (nI (s + ((tgl L m k hq).1)))), some (.int (nI (s + nt))), none, none] [] (mput A S1 B) Q) → am_G X mt_M_tagEnd (d + 6) 69 [some (.ref 84), some (.int (nI (s + nf))), some (.int (nI (s + L.length))), some (.int (b1 op)), some (.int (nI ka)), some (.int (nI (s + k))), some (.int (nI (s + nt))), none, none] [] (mput A S B) Q
  | 0, k, hq, S, hm, hk, hX, hQ, K => by
    rw [tgl_out (by omega)] at K
    refine g_iload (pc := 69) dc_M_tagEnd_69 rfl ?_
    refine g_iload_n (pc := 71) dc_M_tagEnd_71 rfl ?_
    refine q_icmp_ge (pc := 72) (tgt := 106) (s + k) (s + L.length) dc_M_tagEnd_72 (by omega) (by omega) rfl (fun hc72 => ?_) (fun hc => absurd hc (by omega))
    refine g_iload (pc := 106) dc_M_tagEnd_106 rfl ?_
    refine g_iload_n (pc := 108) dc_M_tagEnd_108 rfl ?_
    refine q_icmp_ge (pc := 109) (tgt := 128) (s + k) (s + L.length) dc_M_tagEnd_109 (by omega) (by omega) rfl (fun hc109 => ?_) (fun hc => absurd hc (by omega))
    refine g_iconst (pc := 128) (v := 0) dc_M_tagEnd_128 rfl ?_
    refine g_istore (pc := 129) dc_M_tagEnd_129 (by decide) ?_
    show am_G X mt_M_tagEnd _ 131 [some (.ref 84), some (.int (nI (s + nf))), some (.int (nI (s + L.length))), some (.int (b1 op)), some (.int (nI ka)), some (.int (nI (s + k))), some (.int (nI (s + nt))), some (.int 0), none] [] _ _
    refine g_iload (pc := 131) dc_M_tagEnd_131 rfl ?_
    refine g_if_eq (pc := 133) (tgt := 64) dc_M_tagEnd_133 rfl (fun _ => ?_) (fun hc => absurd hc (by decide))
    refine g_iload (pc := 64) dc_M_tagEnd_64 rfl ?_
    refine g_if_eq (pc := 66) (tgt := 148) dc_M_tagEnd_66 rfl (fun _ => ?_) (fun hc => absurd hc (by decide))
    refine am_wk (am_le_s (am_le_s (am_le_s (am_le_s (am_le_s (am_le_s (am_le_s (am_le_n (am_le_n am_le_0))))))))) ?_
    exact K S (rkA.rf S) hQ
  | m + 1, k, hq, S, hm, hk, hX, hQ, K => by
    by_cases hl : k < L.length
    · by_cases h62 : gx L k = 62
      · rw [tgl_e h62] at K
        refine g_iload (pc := 69) dc_M_tagEnd_69 rfl ?_
        refine g_iload_n (pc := 71) dc_M_tagEnd_71 rfl ?_
        refine q_icmp_ge (pc := 72) (tgt := 106) (s + k) (s + L.length) dc_M_tagEnd_72 (by omega) (by omega) rfl (fun hc => absurd hc (by omega)) (fun hc72 => ?_)
        refine g_aload_n (pc := 75) dc_M_tagEnd_75 rfl ?_
        refine g_getfield (pc := 76) dc_M_tagEnd_76 fl_M_140 (mp_o hA) rfl ?_
        refine g_iload (pc := 79) dc_M_tagEnd_79 rfl ?_
        refine q_tx (pc := 81) k dc_M_tagEnd_81 (mp_a hA 12 rfl) hX hs (by omega) (by omega) ?_
        refine g_s1 (pc := 82) (M' := mt_M_isBlank) dc_M_tagEnd_82 mo_M_isBlank st_M_isBlank ln_M_75 (Nat.le_of_ble_eq_true rfl) (Nat.le_of_ble_eq_true rfl) (am_G.mono (c_M_isBlank (v := (gx L k))) ?_)
        intro r h1 hq
        rw [hq.1, hq.2]
        clear hq h1 r
        refine ⟨am_nti _, ?_⟩
        refine q_ifb_ne (pc := 85) (tgt := 100) dc_M_tagEnd_85 rfl (fun hc => absurd hc (by rw [h62]; decide)) (fun hc85 => ?_)
        refine g_aload_n (pc := 88) dc_M_tagEnd_88 rfl ?_
        refine g_getfield (pc := 89) dc_M_tagEnd_89 fl_M_140 (mp_o hA) rfl ?_
        refine g_iload (pc := 92) dc_M_tagEnd_92 rfl ?_
        refine q_tx (pc := 94) k dc_M_tagEnd_94 (mp_a hA 12 rfl) hX hs (by omega) (by omega) ?_
        refine g_bipush (pc := 95) (v := 47) dc_M_tagEnd_95 rfl ?_
        refine g_icmp_ne (pc := 97) (tgt := 106) dc_M_tagEnd_97 rfl (fun hc97 => ?_) (fun hc => absurd hc (by rw [h62]; decide))
        refine g_iload (pc := 106) dc_M_tagEnd_106 rfl ?_
        refine g_iload_n (pc := 108) dc_M_tagEnd_108 rfl ?_
        refine q_icmp_ge (pc := 109) (tgt := 128) (s + k) (s + L.length) dc_M_tagEnd_109 (by omega) (by omega) rfl (fun hc => absurd hc (by omega)) (fun hc109 => ?_)
        refine g_aload_n (pc := 112) dc_M_tagEnd_112 rfl ?_
        refine g_getfield (pc := 113) dc_M_tagEnd_113 fl_M_140 (mp_o hA) rfl ?_
        refine g_iload (pc := 116) dc_M_tagEnd_116 rfl ?_
        refine q_tx (pc := 118) k dc_M_tagEnd_118 (mp_a hA 12 rfl) hX hs (by omega) (by omega) ?_
        refine g_bipush (pc := 119) (v := 62) dc_M_tagEnd_119 rfl ?_
        refine g_icmp_eq (pc := 121) (tgt := 128) dc_M_tagEnd_121 rfl (fun hc121 => ?_) (fun hc => absurd hc (not_not_intro h62))
        refine g_iconst (pc := 128) (v := 0) dc_M_tagEnd_128 rfl ?_
        refine g_istore (pc := 129) dc_M_tagEnd_129 (by decide) ?_
        show am_G X mt_M_tagEnd _ 131 [some (.ref 84), some (.int (nI (s + nf))), some (.int (nI (s + L.length))), some (.int (b1 op)), some (.int (nI ka)), some (.int (nI (s + k))), some (.int (nI (s + nt))), some (.int 0), none] [] _ _
        refine g_iload (pc := 131) dc_M_tagEnd_131 rfl ?_
        refine g_if_eq (pc := 133) (tgt := 64) dc_M_tagEnd_133 rfl (fun _ => ?_) (fun hc => absurd hc (by decide))
        refine g_iload (pc := 64) dc_M_tagEnd_64 rfl ?_
        refine g_if_eq (pc := 66) (tgt := 148) dc_M_tagEnd_66 rfl (fun _ => ?_) (fun hc => absurd hc (by decide))
        refine am_wk (am_le_s (am_le_s (am_le_s (am_le_s (am_le_s (am_le_s (am_le_s (am_le_n (am_le_n am_le_0))))))))) ?_
        exact K S (rkA.rf S) hQ
      · by_cases hbl : isBl (gx L k) = true ∨ gx L k = 47
        · rw [tgl_b hl h62 hbl] at K
          refine g_iload (pc := 69) dc_M_tagEnd_69 rfl ?_
          refine g_iload_n (pc := 71) dc_M_tagEnd_71 rfl ?_
          refine q_icmp_ge (pc := 72) (tgt := 106) (s + k) (s + L.length) dc_M_tagEnd_72 (by omega) (by omega) rfl (fun hc => absurd hc (by omega)) (fun hc72 => ?_)
          refine g_aload_n (pc := 75) dc_M_tagEnd_75 rfl ?_
          refine g_getfield (pc := 76) dc_M_tagEnd_76 fl_M_140 (mp_o hA) rfl ?_
          refine g_iload (pc := 79) dc_M_tagEnd_79 rfl ?_
          refine q_tx (pc := 81) k dc_M_tagEnd_81 (mp_a hA 12 rfl) hX hs (by omega) (by omega) ?_
          refine g_s1 (pc := 82) (M' := mt_M_isBlank) dc_M_tagEnd_82 mo_M_isBlank st_M_isBlank ln_M_75 (Nat.le_of_ble_eq_true rfl) (Nat.le_of_ble_eq_true rfl) (am_G.mono (c_M_isBlank (v := (gx L k))) ?_)
          intro r h1 hq
          rw [hq.1, hq.2]
          clear hq h1 r
          refine ⟨am_nti _, ?_⟩
          refine q_ifb_ne (pc := 85) (tgt := 100) dc_M_tagEnd_85 rfl (fun hc85 => ?_) (fun hc85 => ?_)
          · refine g_iinc (pc := 100) (v := (nI (s + (k + 1)))) dc_M_tagEnd_100 rfl (q_as s k 1) (by decide) ?_
            show am_G X mt_M_tagEnd _ 103 [some (.ref 84), some (.int (nI (s + nf))), some (.int (nI (s + L.length))), some (.int (b1 op)), some (.int (nI ka)), some (.int (nI (s + (k + 1)))), some (.int (nI (s + nt))), none, none] [] _ _
            refine g_goto (pc := 103) (tgt := 69) dc_M_tagEnd_103 rfl ?_
            exact v69_M_tagEnd hA hs m (k + 1) hq S (by omega) (by omega) hX hQ K
          · refine g_aload_n (pc := 88) dc_M_tagEnd_88 rfl ?_
            refine g_getfield (pc := 89) dc_M_tagEnd_89 fl_M_140 (mp_o hA) rfl ?_
            refine g_iload (pc := 92) dc_M_tagEnd_92 rfl ?_
            refine q_tx (pc := 94) k dc_M_tagEnd_94 (mp_a hA 12 rfl) hX hs (by omega) (by omega) ?_
            refine g_bipush (pc := 95) (v := 47) dc_M_tagEnd_95 rfl ?_
            refine g_icmp_ne (pc := 97) (tgt := 106) dc_M_tagEnd_97 rfl (fun hc97 => ?_) (fun hc97 => ?_)
            · exact absurd hbl (fun h9 => h9.elim (fun h8 => by rw [hc85] at h8; cases h8) hc97)
            · refine g_iinc (pc := 100) (v := (nI (s + (k + 1)))) dc_M_tagEnd_100 rfl (q_as s k 1) (by decide) ?_
              show am_G X mt_M_tagEnd _ 103 [some (.ref 84), some (.int (nI (s + nf))), some (.int (nI (s + L.length))), some (.int (b1 op)), some (.int (nI ka)), some (.int (nI (s + (k + 1)))), some (.int (nI (s + nt))), none, none] [] _ _
              refine g_goto (pc := 103) (tgt := 69) dc_M_tagEnd_103 rfl ?_
              exact v69_M_tagEnd hA hs m (k + 1) hq S (by omega) (by omega) hX hQ K
        · rw [tgl_a hl h62 hbl] at K
          have hab := atr_bd (L := L) hl
          refine g_iload (pc := 69) dc_M_tagEnd_69 rfl ?_
          refine g_iload_n (pc := 71) dc_M_tagEnd_71 rfl ?_
          refine q_icmp_ge (pc := 72) (tgt := 106) (s + k) (s + L.length) dc_M_tagEnd_72 (by omega) (by omega) rfl (fun hc => absurd hc (by omega)) (fun hc72 => ?_)
          refine g_aload_n (pc := 75) dc_M_tagEnd_75 rfl ?_
          refine g_getfield (pc := 76) dc_M_tagEnd_76 fl_M_140 (mp_o hA) rfl ?_
          refine g_iload (pc := 79) dc_M_tagEnd_79 rfl ?_
          refine q_tx (pc := 81) k dc_M_tagEnd_81 (mp_a hA 12 rfl) hX hs (by omega) (by omega) ?_
          refine g_s1 (pc := 82) (M' := mt_M_isBlank) dc_M_tagEnd_82 mo_M_isBlank st_M_isBlank ln_M_75 (Nat.le_of_ble_eq_true rfl) (Nat.le_of_ble_eq_true rfl) (am_G.mono (c_M_isBlank (v := (gx L k))) ?_)
          intro r h1 hq
          rw [hq.1, hq.2]
          clear hq h1 r
          refine ⟨am_nti _, ?_⟩
          refine q_ifb_ne (pc := 85) (tgt := 100) dc_M_tagEnd_85 rfl (fun hc => absurd hc (fun h9 => hbl (Or.inl h9))) (fun hc85 => ?_)
          refine g_aload_n (pc := 88) dc_M_tagEnd_88 rfl ?_
          refine g_getfield (pc := 89) dc_M_tagEnd_89 fl_M_140 (mp_o hA) rfl ?_
          refine g_iload (pc := 92) dc_M_tagEnd_92 rfl ?_
          refine q_tx (pc := 94) k dc_M_tagEnd_94 (mp_a hA 12 rfl) hX hs (by omega) (by omega) ?_
          refine g_bipush (pc := 95) (v := 47) dc_M_tagEnd_95 rfl ?_
          refine g_icmp_ne (pc := 97) (tgt := 106) dc_M_tagEnd_97 rfl (fun hc97 => ?_) (fun hc => absurd hc (fun h9 => hbl (Or.inr h9)))
          refine g_iload (pc := 106) dc_M_tagEnd_106 rfl ?_
          refine g_iload_n (pc := 108) dc_M_tagEnd_108 rfl ?_
          refine q_icmp_ge (pc := 109) (tgt := 128) (s + k) (s + L.length) dc_M_tagEnd_109 (by omega) (by omega) rfl (fun hc => absurd hc (by omega)) (fun hc109 => ?_)
          refine g_aload_n (pc := 112) dc_M_tagEnd_112 rfl ?_
          refine g_getfield (pc := 113) dc_M_tagEnd_113 fl_M_140 (mp_o hA) rfl ?_
          refine g_iload (pc := 116) dc_M_tagEnd_116 rfl ?_
          refine q_tx (pc := 118) k dc_M_tagEnd_118 (mp_a hA 12 rfl) hX hs (by omega) (by omega) ?_
          refine g_bipush (pc := 119) (v := 62) dc_M_tagEnd_119 rfl ?_
          refine g_icmp_eq (pc := 121) (tgt := 128) dc_M_tagEnd_121 rfl (fun hc => absurd hc (h62)) (fun hc121 => ?_)
          refine g_iconst (pc := 124) (v := 1) dc_M_tagEnd_124 rfl ?_
          refine g_goto (pc := 125) (tgt := 129) dc_M_tagEnd_125 rfl ?_
          refine g_istore (pc := 129) dc_M_tagEnd_129 (by decide) ?_
          show am_G X mt_M_tagEnd _ 131 [some (.ref 84), some (.int (nI (s + nf))), some (.int (nI (s + L.length))), some (.int (b1 op)), some (.int (nI ka)), some (.int (nI (s + k))), some (.int (nI (s + nt))), some (.int 1), none] [] _ _
          refine g_iload (pc := 131) dc_M_tagEnd_131 rfl ?_
          refine g_if_eq (pc := 133) (tgt := 64) dc_M_tagEnd_133 rfl (fun hc => absurd hc (by decide)) (fun _ => ?_)
          refine g_aload_n (pc := 136) dc_M_tagEnd_136 rfl ?_
          refine g_iload (pc := 137) dc_M_tagEnd_137 rfl ?_
          refine g_iload_n (pc := 139) dc_M_tagEnd_139 rfl ?_
          refine g_v2 (pc := 140) (M' := mt_M_attributeEnd) dc_M_tagEnd_140 mo_M_attributeEnd im_M_attributeEnd se_M_attributeEnd ln_M_275 (mp_o hA) rfl rfl (Nat.le_of_ble_eq_true rfl) (Nat.le_of_ble_eq_true rfl) (am_G.mono (d_M_attributeEnd (d := d) hA hX hs hl hQ) ?_)
          intro r h1 hz
          obtain ⟨hz1, S9, hz2, g9, hz3⟩ := hz
          rw [hz1, hz2]
          clear hz1 hz2 h1 r
          refine ⟨am_nti _, ?_⟩
          refine g_istore (pc := 143) dc_M_tagEnd_143 (by decide) ?_
          show am_G X mt_M_tagEnd _ 145 [some (.ref 84), some (.int (nI (s + nf))), some (.int (nI (s + L.length))), some (.int (b1 op)), some (.int (nI ka)), some (.int (nI (s + ((atr L k).1)))), some (.int (nI (s + nt))), some (.int 1), none] [] _ _
          refine g_goto (pc := 145) (tgt := 64) dc_M_tagEnd_145 rfl ?_
          refine g_iload (pc := 64) dc_M_tagEnd_64 rfl ?_
          refine g_if_eq (pc := 66) (tgt := 148) dc_M_tagEnd_66 rfl (fun hc => absurd hc (by decide)) (fun _ => ?_)
          refine am_wk (am_le_s (am_le_s (am_le_s (am_le_s (am_le_s (am_le_s (am_le_s (am_le_n (am_le_n am_le_0))))))))) ?_
          exact v69_M_tagEnd hA hs m (atr L k).1 _ S9 (by omega) (by omega) (by rw [g9.lk.texts]; exact hX) hz3 (fun S1 g h9 => K S1 (g9.tr g) h9)
    · rw [tgl_out (by omega)] at K
      refine g_iload (pc := 69) dc_M_tagEnd_69 rfl ?_
      refine g_iload_n (pc := 71) dc_M_tagEnd_71 rfl ?_
      refine q_icmp_ge (pc := 72) (tgt := 106) (s + k) (s + L.length) dc_M_tagEnd_72 (by omega) (by omega) rfl (fun hc72 => ?_) (fun hc => absurd hc (by omega))
      refine g_iload (pc := 106) dc_M_tagEnd_106 rfl ?_
      refine g_iload_n (pc := 108) dc_M_tagEnd_108 rfl ?_
      refine q_icmp_ge (pc := 109) (tgt := 128) (s + k) (s + L.length) dc_M_tagEnd_109 (by omega) (by omega) rfl (fun hc109 => ?_) (fun hc => absurd hc (by omega))
      refine g_iconst (pc := 128) (v := 0) dc_M_tagEnd_128 rfl ?_
      refine g_istore (pc := 129) dc_M_tagEnd_129 (by decide) ?_
      show am_G X mt_M_tagEnd _ 131 [some (.ref 84), some (.int (nI (s + nf))), some (.int (nI (s + L.length))), some (.int (b1 op)), some (.int (nI ka)), some (.int (nI (s + k))), some (.int (nI (s + nt))), some (.int 0), none] [] _ _
      refine g_iload (pc := 131) dc_M_tagEnd_131 rfl ?_
      refine g_if_eq (pc := 133) (tgt := 64) dc_M_tagEnd_133 rfl (fun _ => ?_) (fun hc => absurd hc (by decide))
      refine g_iload (pc := 64) dc_M_tagEnd_64 rfl ?_
      refine g_if_eq (pc := 66) (tgt := 148) dc_M_tagEnd_66 rfl (fun _ => ?_) (fun hc => absurd hc (by decide))
      refine am_wk (am_le_s (am_le_s (am_le_s (am_le_s (am_le_s (am_le_s (am_le_s (am_le_n (am_le_n am_le_0))))))))) ?_
      exact K S (rkA.rf S) hQ
theorem c_M_tagEnd {S : MS} (hA : A.length = 84) (hbL : btg L) (hL8 : L.length ≤ 7999) (hs : s + L.length ≤ 24000) (hk : kdA L p = 2) (hX : tx S.texts s L) (hR : rdS S T V Wd D bo) (hka : ka < T.length ∧ gT T ka = D) (hV : ∀ q, nxW 28 L p = some q → V.flatten.length + (q.2 - q.1) ≤ 8000 ∧ V.length < 1000) (hr : ∀ E, bo = none → bsO L D bo p = some E → E ∈ T ∨ T.length < 3500) : am_C X mt_M_tagEnd (d + 6) [.ref 84, .int (nI (s + tgF L p)), .int (nI (s + L.length)), .int (b1 (!(tgC L p))), .int (nI ka)] (mput A S B) (fun r h1 => r = some (.int (nI (s + nxT L p))) ∧ ∃ S1 T1, h1 = mput A S1 B ∧ pgA S S1 ∧ rdS S1 T1 (V ++ pvl L p) Wd D (bsO L D bo p) ∧ T <+: T1 ∧ ∀ x, x ∈ T1 → x ∈ T ∨ (bo = none ∧ bsO L D bo p = some x)) := by
  have hb := tg_bd hk
  have hnx : nxT L p = if tgE L p < L.length then rwT L (tgF L p) (tgN L p) (tgC L p) (tgE L p + 1) else L.length := by unfold nxT; rw [if_pos hk]
  have hnh : nxH L p = if kdA L p = 2 ∧ tgE L p < L.length then tgH L p else none := rfl
  show am_G X mt_M_tagEnd (d + 6) 0 [some (.ref 84), some (.int (nI (s + (tgF L p)))), some (.int (nI (s + L.length))), some (.int (b1 (!(tgC L p)))), some (.int (nI ka)), none, none, none, none] [] (mput A S B) _
  refine g_iload_n (pc := 0) dc_M_tagEnd_0 rfl ?_
  refine g_istore (pc := 1) dc_M_tagEnd_1 (by decide) ?_
  show am_G X mt_M_tagEnd _ 3 [some (.ref 84), some (.int (nI (s + (tgF L p)))), some (.int (nI (s + L.length))), some (.int (b1 (!(tgC L p)))), some (.int (nI ka)), some (.int (nI (s + (tgF L p)))), none, none, none] [] _ _
  refine v3_M_tagEnd hA hX hs (L.length - tgF L p) (tgF L p) (by omega) ?_
  have o3 := fw_out (p := tnB) (L := L) (f := tgF L p) (t := L.length)
  rw [show fw tnB L (tgF L p) L.length = tgN L p from rfl] at o3 ⊢
  refine g_iload (pc := 3) dc_M_tagEnd_3 rfl ?_
  refine g_iload_n (pc := 5) dc_M_tagEnd_5 rfl ?_
  refine q_icmp_ge (pc := 6) (tgt := 52) (s + (tgN L p)) (s + L.length) dc_M_tagEnd_6 (by omega) (by omega) rfl (fun hc6 => ?_) (fun hc6 => ?_)
  · refine g_iload (pc := 52) dc_M_tagEnd_52 rfl ?_
    refine g_istore (pc := 54) dc_M_tagEnd_54 (by decide) ?_
    show am_G X mt_M_tagEnd _ 56 [some (.ref 84), some (.int (nI (s + (tgF L p)))), some (.int (nI (s + L.length))), some (.int (b1 (!(tgC L p)))), some (.int (nI ka)), some (.int (nI (s + (tgN L p)))), some (.int (nI (s + (tgN L p)))), none, none] [] _ _
    refine g_aload_n (pc := 56) dc_M_tagEnd_56 rfl ?_
    refine g_iconst (pc := 57) (v := 0) dc_M_tagEnd_57 rfl ?_
    refine pf_hasHref (pc := 58) (v := false) hA dc_M_tagEnd_58 fp_M_tagEnd_272 ?_
    refine g_iconst (pc := 61) (v := 1) dc_M_tagEnd_61 rfl ?_
    refine g_istore (pc := 62) dc_M_tagEnd_62 (by decide) ?_
    show am_G X mt_M_tagEnd _ 64 [some (.ref 84), some (.int (nI (s + (tgF L p)))), some (.int (nI (s + L.length))), some (.int (b1 (!(tgC L p)))), some (.int (nI ka)), some (.int (nI (s + (tgN L p)))), some (.int (nI (s + (tgN L p)))), some (.int 1), none] [] _ _
    refine g_iload (pc := 64) dc_M_tagEnd_64 rfl ?_
    refine g_if_eq (pc := 66) (tgt := 148) dc_M_tagEnd_66 rfl (fun hc => absurd hc (by decide)) (fun _ => ?_)
    refine am_wk (am_le_s (am_le_s (am_le_s (am_le_s (am_le_s (am_le_s (am_le_s (am_le_n (am_le_n am_le_0))))))))) ?_
    refine v69_M_tagEnd hA hs (L.length - tgN L p) (tgN L p) none (S.s_hasHref false) (Nat.le_refl _) (by omega) hX ⟨rfl, fun q h9 => by cases h9⟩ (fun S9 g0 hz => ?_)
    show am_G X mt_M_tagEnd (d + 6) 148 [some (.ref 84), some (.int (nI (s + (tgF L p)))), some (.int (nI (s + L.length))), some (.int (b1 (!(tgC L p)))), some (.int (nI ka)), some (.int (nI (s + (tgE L p)))), some (.int (nI (s + (tgN L p)))), none, none] [] (mput A S9 B) _
    have hz : hqS S9 s (tgH L p) := hz
    have g9 : rkA S S9 := (rkA.s_hasHref _ _).tr g0
    have hX9 : tx S9.texts s L := by rw [g9.lk.texts]; exact hX
    have hR9 := hR.rk g9
    refine g_iload (pc := 148) dc_M_tagEnd_148 rfl ?_
    refine g_iload_n (pc := 150) dc_M_tagEnd_150 rfl ?_
    refine q_icmp_lt (pc := 151) (tgt := 156) (s + (tgE L p)) (s + L.length) dc_M_tagEnd_151 (by omega) (by omega) rfl (fun hc151 => ?_) (fun hc151 => ?_)
    · refine g_iinc (pc := 156) (v := (nI (s + (tgE L p + 1)))) dc_M_tagEnd_156 rfl (q_as s (tgE L p) 1) (by decide) ?_
      show am_G X mt_M_tagEnd _ 159 [some (.ref 84), some (.int (nI (s + (tgF L p)))), some (.int (nI (s + L.length))), some (.int (b1 (!(tgC L p)))), some (.int (nI ka)), some (.int (nI (s + (tgE L p + 1)))), some (.int (nI (s + (tgN L p)))), none, none] [] _ _
      refine g_iload_n (pc := 159) dc_M_tagEnd_159 rfl ?_
      refine q_ifb_ne (pc := 160) (tgt := 166) dc_M_tagEnd_160 rfl (fun hc160 => ?_) (fun hc160 => ?_)
      · have hcl : tgC L p = false := nb_t hc160
        have he : tgE L p < L.length := by omega
        have hw1 := nxW_o (nm := 22) hk he hcl
        have hw2 := nxW_o (nm := 28) hk he hcl
        have eB : bsO L D bo p = bsH D bo (if isw 22 L (tgF L p) (tgN L p) = true then (tgH L p).map (fun q => dcd L q.1 q.2) else none) := by rw [bsO_h, hw1]; by_cases h9 : isw 22 L (tgF L p) (tgN L p) = true <;> simp [h9]
        have eV : pvl L p = vlH L (if isw 28 L (tgF L p) (tgN L p) = true then tgH L p else none) := by rw [pvl_h, hw2]
        rw [eB] at hr ⊢
        rw [eV, hnx, if_pos he, hcl]
        refine am_wk (am_le_s (am_le_s (am_le_s (am_le_n (am_le_s (am_le_s (am_le_s (am_le_n (am_le_n am_le_0))))))))) ?_
        refine am_G.mono (a_M_tagEnd (S := S9) hA hbL hL8 hs hX9 hR9 hz hb.2.2.2.2.2 (by omega) (by omega) (by omega) hka (fun q h8 h9 => hV q (by rw [hw2, if_pos h8]; exact h9)) hr) (fun r h1 hy => ?_)
        obtain ⟨y1, S1, T1, y2, y3, y4, y5, y6⟩ := hy
        exact ⟨y1, S1, T1, y2, pgA.tr g9.pg y3, y4, y5, y6⟩
      · refine g_iload (pc := 163) dc_M_tagEnd_163 rfl ?_
        exact g_ireturn dc_M_tagEnd_165 rfl (by have hcl : tgC L p = true := nb_f hc160; rw [bsO_n (nxW_c hcl), pvl_n (nxW_c hcl), List.append_nil, hnx, if_pos (by omega), hcl, show rwT L (tgF L p) (tgN L p) true (tgE L p + 1) = tgE L p + 1 from if_pos (Or.inl rfl)]; exact ⟨rfl, S9, T, rfl, g9.pg, hR9, List.prefix_rfl, fun x hx => Or.inl hx⟩)
    · refine g_iload_n (pc := 154) dc_M_tagEnd_154 rfl ?_
      exact g_ireturn dc_M_tagEnd_155 rfl (by have hn0 : nxH L p = none := (by rw [hnh, if_neg (fun h9 => absurd h9.2 (by omega))]); rw [bsO_n (nxW_h hn0), pvl_n (nxW_h hn0), List.append_nil, hnx, if_neg (by omega)]; exact ⟨rfl, S9, T, rfl, g9.pg, hR9, List.prefix_rfl, fun x hx => Or.inl hx⟩)
  · refine g_aload_n (pc := 9) dc_M_tagEnd_9 rfl ?_
    refine g_getfield (pc := 10) dc_M_tagEnd_10 fl_M_140 (mp_o hA) rfl ?_
    refine g_iload (pc := 13) dc_M_tagEnd_13 rfl ?_
    refine q_tx (pc := 15) (tgN L p) dc_M_tagEnd_15 (mp_a hA 12 rfl) hX hs (by omega) (by omega) ?_
    refine g_s1 (pc := 16) (M' := mt_M_isBlank) dc_M_tagEnd_16 mo_M_isBlank st_M_isBlank ln_M_75 (Nat.le_of_ble_eq_true rfl) (Nat.le_of_ble_eq_true rfl) (am_G.mono (c_M_isBlank (v := (gx L (tgN L p)))) ?_)
    intro r h1 hq
    rw [hq.1, hq.2]
    clear hq h1 r
    refine ⟨am_nti _, ?_⟩
    refine q_ifb_ne (pc := 19) (tgt := 52) dc_M_tagEnd_19 rfl (fun hc19 => ?_) (fun hc19 => ?_)
    · refine g_iload (pc := 52) dc_M_tagEnd_52 rfl ?_
      refine g_istore (pc := 54) dc_M_tagEnd_54 (by decide) ?_
      show am_G X mt_M_tagEnd _ 56 [some (.ref 84), some (.int (nI (s + (tgF L p)))), some (.int (nI (s + L.length))), some (.int (b1 (!(tgC L p)))), some (.int (nI ka)), some (.int (nI (s + (tgN L p)))), some (.int (nI (s + (tgN L p)))), none, none] [] _ _
      refine g_aload_n (pc := 56) dc_M_tagEnd_56 rfl ?_
      refine g_iconst (pc := 57) (v := 0) dc_M_tagEnd_57 rfl ?_
      refine pf_hasHref (pc := 58) (v := false) hA dc_M_tagEnd_58 fp_M_tagEnd_272 ?_
      refine g_iconst (pc := 61) (v := 1) dc_M_tagEnd_61 rfl ?_
      refine g_istore (pc := 62) dc_M_tagEnd_62 (by decide) ?_
      show am_G X mt_M_tagEnd _ 64 [some (.ref 84), some (.int (nI (s + (tgF L p)))), some (.int (nI (s + L.length))), some (.int (b1 (!(tgC L p)))), some (.int (nI ka)), some (.int (nI (s + (tgN L p)))), some (.int (nI (s + (tgN L p)))), some (.int 1), none] [] _ _
      refine g_iload (pc := 64) dc_M_tagEnd_64 rfl ?_
      refine g_if_eq (pc := 66) (tgt := 148) dc_M_tagEnd_66 rfl (fun hc => absurd hc (by decide)) (fun _ => ?_)
      refine am_wk (am_le_s (am_le_s (am_le_s (am_le_s (am_le_s (am_le_s (am_le_s (am_le_n (am_le_n am_le_0))))))))) ?_
      refine v69_M_tagEnd hA hs (L.length - tgN L p) (tgN L p) none (S.s_hasHref false) (Nat.le_refl _) (by omega) hX ⟨rfl, fun q h9 => by cases h9⟩ (fun S9 g0 hz => ?_)
      show am_G X mt_M_tagEnd (d + 6) 148 [some (.ref 84), some (.int (nI (s + (tgF L p)))), some (.int (nI (s + L.length))), some (.int (b1 (!(tgC L p)))), some (.int (nI ka)), some (.int (nI (s + (tgE L p)))), some (.int (nI (s + (tgN L p)))), none, none] [] (mput A S9 B) _
      have hz : hqS S9 s (tgH L p) := hz
      have g9 : rkA S S9 := (rkA.s_hasHref _ _).tr g0
      have hX9 : tx S9.texts s L := by rw [g9.lk.texts]; exact hX
      have hR9 := hR.rk g9
      refine g_iload (pc := 148) dc_M_tagEnd_148 rfl ?_
      refine g_iload_n (pc := 150) dc_M_tagEnd_150 rfl ?_
      refine q_icmp_lt (pc := 151) (tgt := 156) (s + (tgE L p)) (s + L.length) dc_M_tagEnd_151 (by omega) (by omega) rfl (fun hc151 => ?_) (fun hc151 => ?_)
      · refine g_iinc (pc := 156) (v := (nI (s + (tgE L p + 1)))) dc_M_tagEnd_156 rfl (q_as s (tgE L p) 1) (by decide) ?_
        show am_G X mt_M_tagEnd _ 159 [some (.ref 84), some (.int (nI (s + (tgF L p)))), some (.int (nI (s + L.length))), some (.int (b1 (!(tgC L p)))), some (.int (nI ka)), some (.int (nI (s + (tgE L p + 1)))), some (.int (nI (s + (tgN L p)))), none, none] [] _ _
        refine g_iload_n (pc := 159) dc_M_tagEnd_159 rfl ?_
        refine q_ifb_ne (pc := 160) (tgt := 166) dc_M_tagEnd_160 rfl (fun hc160 => ?_) (fun hc160 => ?_)
        · have hcl : tgC L p = false := nb_t hc160
          have he : tgE L p < L.length := by omega
          have hw1 := nxW_o (nm := 22) hk he hcl
          have hw2 := nxW_o (nm := 28) hk he hcl
          have eB : bsO L D bo p = bsH D bo (if isw 22 L (tgF L p) (tgN L p) = true then (tgH L p).map (fun q => dcd L q.1 q.2) else none) := by rw [bsO_h, hw1]; by_cases h9 : isw 22 L (tgF L p) (tgN L p) = true <;> simp [h9]
          have eV : pvl L p = vlH L (if isw 28 L (tgF L p) (tgN L p) = true then tgH L p else none) := by rw [pvl_h, hw2]
          rw [eB] at hr ⊢
          rw [eV, hnx, if_pos he, hcl]
          refine am_wk (am_le_s (am_le_s (am_le_s (am_le_n (am_le_s (am_le_s (am_le_s (am_le_n (am_le_n am_le_0))))))))) ?_
          refine am_G.mono (a_M_tagEnd (S := S9) hA hbL hL8 hs hX9 hR9 hz hb.2.2.2.2.2 (by omega) (by omega) (by omega) hka (fun q h8 h9 => hV q (by rw [hw2, if_pos h8]; exact h9)) hr) (fun r h1 hy => ?_)
          obtain ⟨y1, S1, T1, y2, y3, y4, y5, y6⟩ := hy
          exact ⟨y1, S1, T1, y2, pgA.tr g9.pg y3, y4, y5, y6⟩
        · refine g_iload (pc := 163) dc_M_tagEnd_163 rfl ?_
          exact g_ireturn dc_M_tagEnd_165 rfl (by have hcl : tgC L p = true := nb_f hc160; rw [bsO_n (nxW_c hcl), pvl_n (nxW_c hcl), List.append_nil, hnx, if_pos (by omega), hcl, show rwT L (tgF L p) (tgN L p) true (tgE L p + 1) = tgE L p + 1 from if_pos (Or.inl rfl)]; exact ⟨rfl, S9, T, rfl, g9.pg, hR9, List.prefix_rfl, fun x hx => Or.inl hx⟩)
      · refine g_iload_n (pc := 154) dc_M_tagEnd_154 rfl ?_
        exact g_ireturn dc_M_tagEnd_155 rfl (by have hn0 : nxH L p = none := (by rw [hnh, if_neg (fun h9 => absurd h9.2 (by omega))]); rw [bsO_n (nxW_h hn0), pvl_n (nxW_h hn0), List.append_nil, hnx, if_neg (by omega)]; exact ⟨rfl, S9, T, rfl, g9.pg, hR9, List.prefix_rfl, fun x hx => Or.inl hx⟩)
    · refine g_aload_n (pc := 22) dc_M_tagEnd_22 rfl ?_
      refine g_getfield (pc := 23) dc_M_tagEnd_23 fl_M_140 (mp_o hA) rfl ?_
      refine g_iload (pc := 26) dc_M_tagEnd_26 rfl ?_
      refine q_tx (pc := 28) (tgN L p) dc_M_tagEnd_28 (mp_a hA 12 rfl) hX hs (by omega) (by omega) ?_
      refine g_bipush (pc := 29) (v := 47) dc_M_tagEnd_29 rfl ?_
      refine g_icmp_eq (pc := 31) (tgt := 52) dc_M_tagEnd_31 rfl (fun hc31 => ?_) (fun hc31 => ?_)
      · refine g_iload (pc := 52) dc_M_tagEnd_52 rfl ?_
        refine g_istore (pc := 54) dc_M_tagEnd_54 (by decide) ?_
        show am_G X mt_M_tagEnd _ 56 [some (.ref 84), some (.int (nI (s + (tgF L p)))), some (.int (nI (s + L.length))), some (.int (b1 (!(tgC L p)))), some (.int (nI ka)), some (.int (nI (s + (tgN L p)))), some (.int (nI (s + (tgN L p)))), none, none] [] _ _
        refine g_aload_n (pc := 56) dc_M_tagEnd_56 rfl ?_
        refine g_iconst (pc := 57) (v := 0) dc_M_tagEnd_57 rfl ?_
        refine pf_hasHref (pc := 58) (v := false) hA dc_M_tagEnd_58 fp_M_tagEnd_272 ?_
        refine g_iconst (pc := 61) (v := 1) dc_M_tagEnd_61 rfl ?_
        refine g_istore (pc := 62) dc_M_tagEnd_62 (by decide) ?_
        show am_G X mt_M_tagEnd _ 64 [some (.ref 84), some (.int (nI (s + (tgF L p)))), some (.int (nI (s + L.length))), some (.int (b1 (!(tgC L p)))), some (.int (nI ka)), some (.int (nI (s + (tgN L p)))), some (.int (nI (s + (tgN L p)))), some (.int 1), none] [] _ _
        refine g_iload (pc := 64) dc_M_tagEnd_64 rfl ?_
        refine g_if_eq (pc := 66) (tgt := 148) dc_M_tagEnd_66 rfl (fun hc => absurd hc (by decide)) (fun _ => ?_)
        refine am_wk (am_le_s (am_le_s (am_le_s (am_le_s (am_le_s (am_le_s (am_le_s (am_le_n (am_le_n am_le_0))))))))) ?_
        refine v69_M_tagEnd hA hs (L.length - tgN L p) (tgN L p) none (S.s_hasHref false) (Nat.le_refl _) (by omega) hX ⟨rfl, fun q h9 => by cases h9⟩ (fun S9 g0 hz => ?_)
        show am_G X mt_M_tagEnd (d + 6) 148 [some (.ref 84), some (.int (nI (s + (tgF L p)))), some (.int (nI (s + L.length))), some (.int (b1 (!(tgC L p)))), some (.int (nI ka)), some (.int (nI (s + (tgE L p)))), some (.int (nI (s + (tgN L p)))), none, none] [] (mput A S9 B) _
        have hz : hqS S9 s (tgH L p) := hz
        have g9 : rkA S S9 := (rkA.s_hasHref _ _).tr g0
        have hX9 : tx S9.texts s L := by rw [g9.lk.texts]; exact hX
        have hR9 := hR.rk g9
        refine g_iload (pc := 148) dc_M_tagEnd_148 rfl ?_
        refine g_iload_n (pc := 150) dc_M_tagEnd_150 rfl ?_
        refine q_icmp_lt (pc := 151) (tgt := 156) (s + (tgE L p)) (s + L.length) dc_M_tagEnd_151 (by omega) (by omega) rfl (fun hc151 => ?_) (fun hc151 => ?_)
        · refine g_iinc (pc := 156) (v := (nI (s + (tgE L p + 1)))) dc_M_tagEnd_156 rfl (q_as s (tgE L p) 1) (by decide) ?_
          show am_G X mt_M_tagEnd _ 159 [some (.ref 84), some (.int (nI (s + (tgF L p)))), some (.int (nI (s + L.length))), some (.int (b1 (!(tgC L p)))), some (.int (nI ka)), some (.int (nI (s + (tgE L p + 1)))), some (.int (nI (s + (tgN L p)))), none, none] [] _ _
          refine g_iload_n (pc := 159) dc_M_tagEnd_159 rfl ?_
          refine q_ifb_ne (pc := 160) (tgt := 166) dc_M_tagEnd_160 rfl (fun hc160 => ?_) (fun hc160 => ?_)
          · have hcl : tgC L p = false := nb_t hc160
            have he : tgE L p < L.length := by omega
            have hw1 := nxW_o (nm := 22) hk he hcl
            have hw2 := nxW_o (nm := 28) hk he hcl
            have eB : bsO L D bo p = bsH D bo (if isw 22 L (tgF L p) (tgN L p) = true then (tgH L p).map (fun q => dcd L q.1 q.2) else none) := by rw [bsO_h, hw1]; by_cases h9 : isw 22 L (tgF L p) (tgN L p) = true <;> simp [h9]
            have eV : pvl L p = vlH L (if isw 28 L (tgF L p) (tgN L p) = true then tgH L p else none) := by rw [pvl_h, hw2]
            rw [eB] at hr ⊢
            rw [eV, hnx, if_pos he, hcl]
            refine am_wk (am_le_s (am_le_s (am_le_s (am_le_n (am_le_s (am_le_s (am_le_s (am_le_n (am_le_n am_le_0))))))))) ?_
            refine am_G.mono (a_M_tagEnd (S := S9) hA hbL hL8 hs hX9 hR9 hz hb.2.2.2.2.2 (by omega) (by omega) (by omega) hka (fun q h8 h9 => hV q (by rw [hw2, if_pos h8]; exact h9)) hr) (fun r h1 hy => ?_)
            obtain ⟨y1, S1, T1, y2, y3, y4, y5, y6⟩ := hy
            exact ⟨y1, S1, T1, y2, pgA.tr g9.pg y3, y4, y5, y6⟩
          · refine g_iload (pc := 163) dc_M_tagEnd_163 rfl ?_
            exact g_ireturn dc_M_tagEnd_165 rfl (by have hcl : tgC L p = true := nb_f hc160; rw [bsO_n (nxW_c hcl), pvl_n (nxW_c hcl), List.append_nil, hnx, if_pos (by omega), hcl, show rwT L (tgF L p) (tgN L p) true (tgE L p + 1) = tgE L p + 1 from if_pos (Or.inl rfl)]; exact ⟨rfl, S9, T, rfl, g9.pg, hR9, List.prefix_rfl, fun x hx => Or.inl hx⟩)
        · refine g_iload_n (pc := 154) dc_M_tagEnd_154 rfl ?_
          exact g_ireturn dc_M_tagEnd_155 rfl (by have hn0 : nxH L p = none := (by rw [hnh, if_neg (fun h9 => absurd h9.2 (by omega))]); rw [bsO_n (nxW_h hn0), pvl_n (nxW_h hn0), List.append_nil, hnx, if_neg (by omega)]; exact ⟨rfl, S9, T, rfl, g9.pg, hR9, List.prefix_rfl, fun x hx => Or.inl hx⟩)
      · refine g_aload_n (pc := 34) dc_M_tagEnd_34 rfl ?_
        refine g_getfield (pc := 35) dc_M_tagEnd_35 fl_M_140 (mp_o hA) rfl ?_
        refine g_iload (pc := 38) dc_M_tagEnd_38 rfl ?_
        refine q_tx (pc := 40) (tgN L p) dc_M_tagEnd_40 (mp_a hA 12 rfl) hX hs (by omega) (by omega) ?_
        refine g_bipush (pc := 41) (v := 62) dc_M_tagEnd_41 rfl ?_
        refine g_icmp_eq (pc := 43) (tgt := 52) dc_M_tagEnd_43 rfl (fun hc43 => ?_) (fun hc43 => ?_)
        · refine g_iload (pc := 52) dc_M_tagEnd_52 rfl ?_
          refine g_istore (pc := 54) dc_M_tagEnd_54 (by decide) ?_
          show am_G X mt_M_tagEnd _ 56 [some (.ref 84), some (.int (nI (s + (tgF L p)))), some (.int (nI (s + L.length))), some (.int (b1 (!(tgC L p)))), some (.int (nI ka)), some (.int (nI (s + (tgN L p)))), some (.int (nI (s + (tgN L p)))), none, none] [] _ _
          refine g_aload_n (pc := 56) dc_M_tagEnd_56 rfl ?_
          refine g_iconst (pc := 57) (v := 0) dc_M_tagEnd_57 rfl ?_
          refine pf_hasHref (pc := 58) (v := false) hA dc_M_tagEnd_58 fp_M_tagEnd_272 ?_
          refine g_iconst (pc := 61) (v := 1) dc_M_tagEnd_61 rfl ?_
          refine g_istore (pc := 62) dc_M_tagEnd_62 (by decide) ?_
          show am_G X mt_M_tagEnd _ 64 [some (.ref 84), some (.int (nI (s + (tgF L p)))), some (.int (nI (s + L.length))), some (.int (b1 (!(tgC L p)))), some (.int (nI ka)), some (.int (nI (s + (tgN L p)))), some (.int (nI (s + (tgN L p)))), some (.int 1), none] [] _ _
          refine g_iload (pc := 64) dc_M_tagEnd_64 rfl ?_
          refine g_if_eq (pc := 66) (tgt := 148) dc_M_tagEnd_66 rfl (fun hc => absurd hc (by decide)) (fun _ => ?_)
          refine am_wk (am_le_s (am_le_s (am_le_s (am_le_s (am_le_s (am_le_s (am_le_s (am_le_n (am_le_n am_le_0))))))))) ?_
          refine v69_M_tagEnd hA hs (L.length - tgN L p) (tgN L p) none (S.s_hasHref false) (Nat.le_refl _) (by omega) hX ⟨rfl, fun q h9 => by cases h9⟩ (fun S9 g0 hz => ?_)
          show am_G X mt_M_tagEnd (d + 6) 148 [some (.ref 84), some (.int (nI (s + (tgF L p)))), some (.int (nI (s + L.length))), some (.int (b1 (!(tgC L p)))), some (.int (nI ka)), some (.int (nI (s + (tgE L p)))), some (.int (nI (s + (tgN L p)))), none, none] [] (mput A S9 B) _
          have hz : hqS S9 s (tgH L p) := hz
          have g9 : rkA S S9 := (rkA.s_hasHref _ _).tr g0
          have hX9 : tx S9.texts s L := by rw [g9.lk.texts]; exact hX
          have hR9 := hR.rk g9
          refine g_iload (pc := 148) dc_M_tagEnd_148 rfl ?_
          refine g_iload_n (pc := 150) dc_M_tagEnd_150 rfl ?_
          refine q_icmp_lt (pc := 151) (tgt := 156) (s + (tgE L p)) (s + L.length) dc_M_tagEnd_151 (by omega) (by omega) rfl (fun hc151 => ?_) (fun hc151 => ?_)
          · refine g_iinc (pc := 156) (v := (nI (s + (tgE L p + 1)))) dc_M_tagEnd_156 rfl (q_as s (tgE L p) 1) (by decide) ?_
            show am_G X mt_M_tagEnd _ 159 [some (.ref 84), some (.int (nI (s + (tgF L p)))), some (.int (nI (s + L.length))), some (.int (b1 (!(tgC L p)))), some (.int (nI ka)), some (.int (nI (s + (tgE L p + 1)))), some (.int (nI (s + (tgN L p)))), none, none] [] _ _
            refine g_iload_n (pc := 159) dc_M_tagEnd_159 rfl ?_
            refine q_ifb_ne (pc := 160) (tgt := 166) dc_M_tagEnd_160 rfl (fun hc160 => ?_) (fun hc160 => ?_)
            · have hcl : tgC L p = false := nb_t hc160
              have he : tgE L p < L.length := by omega
              have hw1 := nxW_o (nm := 22) hk he hcl
              have hw2 := nxW_o (nm := 28) hk he hcl
              have eB : bsO L D bo p = bsH D bo (if isw 22 L (tgF L p) (tgN L p) = true then (tgH L p).map (fun q => dcd L q.1 q.2) else none) := by rw [bsO_h, hw1]; by_cases h9 : isw 22 L (tgF L p) (tgN L p) = true <;> simp [h9]
              have eV : pvl L p = vlH L (if isw 28 L (tgF L p) (tgN L p) = true then tgH L p else none) := by rw [pvl_h, hw2]
              rw [eB] at hr ⊢
              rw [eV, hnx, if_pos he, hcl]
              refine am_wk (am_le_s (am_le_s (am_le_s (am_le_n (am_le_s (am_le_s (am_le_s (am_le_n (am_le_n am_le_0))))))))) ?_
              refine am_G.mono (a_M_tagEnd (S := S9) hA hbL hL8 hs hX9 hR9 hz hb.2.2.2.2.2 (by omega) (by omega) (by omega) hka (fun q h8 h9 => hV q (by rw [hw2, if_pos h8]; exact h9)) hr) (fun r h1 hy => ?_)
              obtain ⟨y1, S1, T1, y2, y3, y4, y5, y6⟩ := hy
              exact ⟨y1, S1, T1, y2, pgA.tr g9.pg y3, y4, y5, y6⟩
            · refine g_iload (pc := 163) dc_M_tagEnd_163 rfl ?_
              exact g_ireturn dc_M_tagEnd_165 rfl (by have hcl : tgC L p = true := nb_f hc160; rw [bsO_n (nxW_c hcl), pvl_n (nxW_c hcl), List.append_nil, hnx, if_pos (by omega), hcl, show rwT L (tgF L p) (tgN L p) true (tgE L p + 1) = tgE L p + 1 from if_pos (Or.inl rfl)]; exact ⟨rfl, S9, T, rfl, g9.pg, hR9, List.prefix_rfl, fun x hx => Or.inl hx⟩)
          · refine g_iload_n (pc := 154) dc_M_tagEnd_154 rfl ?_
            exact g_ireturn dc_M_tagEnd_155 rfl (by have hn0 : nxH L p = none := (by rw [hnh, if_neg (fun h9 => absurd h9.2 (by omega))]); rw [bsO_n (nxW_h hn0), pvl_n (nxW_h hn0), List.append_nil, hnx, if_neg (by omega)]; exact ⟨rfl, S9, T, rfl, g9.pg, hR9, List.prefix_rfl, fun x hx => Or.inl hx⟩)
        · exact absurd (o3 (by omega)) (by simp [tnB, hc19, hc31, hc43])
end MTH
