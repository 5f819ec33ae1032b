/-! ===== the class matches patterns ===== -/
def gfo (D P : List Int32) (f t a : Nat) : Option Nat := if gfp D P f t a + (t - f) ≤ D.length then some (gfp D P f t a) else none
theorem nI_neg {x y z : Nat} (hx : x < y) (hy : y < 2 ^ 30) (hz : z < 2 ^ 30) : nI x - nI y < nI z := by
  rw [Int32.lt_iff_toInt_lt, Int32.toInt_sub, nI_toInt (by omega), nI_toInt (by omega), nI_toInt (by omega), Int.bmod_def]
  split <;> omega
section CMT
variable {X : am_X} {d pa s f t a aa b q ra rb i : Nat} {h : List va_E} {P D : List Int32} {T : List (List Int32)}
theorem c_T_standsAt (hx : tt h pa s P) (ha : h[aa]? = some (.inr (1, [.ref b, .int (nI D.length)]))) (hy : tt h b 0 D) (hD : D.length ≤ 200) (hft : f ≤ t) (ht : t ≤ P.length) (hab : a < 2 ^ 20) : am_C X mt_T_standsAt (d + 1) [.ref pa, .int (nI (s + f)), .int (nI (s + t)), .ref aa, .int (nI a)] h (fun r h1 => r = some (.int (b1 (gsa D P f t a))) ∧ h1 = h) := by
  show am_G X mt_T_standsAt (d + 1) 0 [some (.ref pa), some (.int (nI (s + f))), some (.int (nI (s + t))), some (.ref aa), some (.int (nI a))] [] h _
  have hx0 := hx
  obtain ⟨cap, g, hpa, hT, hs, hc⟩ := hx0
  refine g_iload (pc := 0) dc_T_standsAt_0 rfl ?_
  refine g_iload_n (pc := 2) dc_T_standsAt_2 rfl ?_
  refine g_iadd (pc := 3) (v := (nI (a + (s + t)))) dc_T_standsAt_3 (nI_add a (s + t)) ?_
  refine g_iload_n (pc := 4) dc_T_standsAt_4 rfl ?_
  refine g_isub (pc := 5) (v := (nI (a + (t - f)))) dc_T_standsAt_5 ((q_sub (a := a + (s + t)) (b := s + f) (by omega)).trans (congrArg nI (by omega))) ?_
  refine g_aload_n (pc := 6) dc_T_standsAt_6 rfl ?_
  refine g_getfield (pc := 7) dc_T_standsAt_7 fl_T_106 ha rfl ?_
  refine q_icmp_gt (pc := 10) (tgt := 34) (a + (t - f)) D.length dc_T_standsAt_10 (by omega) (by omega) rfl (fun hc10 => ?_) (fun hc10 => ?_)
  · refine g_iconst (pc := 34) (v := 0) dc_T_standsAt_34 rfl ?_
    exact g_zreturn dc_T_standsAt_35 rfl rfl ⟨by rw [show gsa D P f t a = false from decide_eq_false (fun h9 => absurd h9.1 (by omega))]; rfl, rfl⟩
  · refine g_aload_n (pc := 13) dc_T_standsAt_13 rfl ?_
    refine g_iload_n (pc := 14) dc_T_standsAt_14 rfl ?_
    refine g_aload_n (pc := 15) dc_T_standsAt_15 rfl ?_
    refine g_getfield (pc := 16) dc_T_standsAt_16 fl_T_102 ha rfl ?_
    refine g_iload (pc := 19) dc_T_standsAt_19 rfl ?_
    refine g_iload_n (pc := 21) dc_T_standsAt_21 rfl ?_
    refine g_iload_n (pc := 22) dc_T_standsAt_22 rfl ?_
    refine g_isub (pc := 23) (v := (nI (t - f))) dc_T_standsAt_23 (q_ss (s := s) (a := t) (b := f) (by omega)) ?_
    have hsb := t_sameBytes (X := X) (d := d) (f := f) (e := a) (n := t - f) hx hy (by omega) (by omega)
    simp only [Nat.zero_add] at hsb
    rw [show f + (t - f) = t by omega] at hsb
    refine g_s5 (pc := 24) (M' := mt_W_sameBytes) dc_T_standsAt_24 mo_W_sameBytes st_W_sameBytes ln_T_121 (Nat.le_of_ble_eq_true rfl) (Nat.le_of_ble_eq_true rfl) (am_G.mono hsb ?_)
    intro r h1 hq
    rw [hq.1, hq.2]
    clear hq h1 r
    refine ⟨am_nti _, ?_⟩
    refine q_ifb_eq (pc := 27) (tgt := 34) dc_T_standsAt_27 rfl (fun hc27 => ?_) (fun hc27 => ?_)
    · refine g_iconst (pc := 34) (v := 0) dc_T_standsAt_34 rfl ?_
      exact g_zreturn dc_T_standsAt_35 rfl rfl ⟨by rw [show gsa D P f t a = false from decide_eq_false (fun h9 => absurd h9.2 (of_decide_eq_false hc27))]; rfl, rfl⟩
    · refine g_iconst (pc := 30) (v := 1) dc_T_standsAt_30 rfl ?_
      refine g_goto (pc := 31) (tgt := 35) dc_T_standsAt_31 rfl ?_
      exact g_zreturn dc_T_standsAt_35 rfl rfl ⟨by rw [show gsa D P f t a = true from decide_eq_true ⟨by omega, of_decide_eq_true hc27⟩]; rfl, rfl⟩
theorem l_T_firstPlace {a0 : Nat} (hx : tt h pa s P) (ha : h[aa]? = some (.inr (1, [.ref b, .int (nI D.length)]))) (hy : tt h b 0 D) (hD : D.length ≤ 200) (hft : f ≤ t) (ht : t ≤ P.length) : ∀ n z : Nat, (D.length + 1 - (t - f)) - z ≤ n → z < 2 ^ 20 → fx (fun z => !(decide (sub P f t = sub D z (z + (t - f))))) z (D.length + 1 - (t - f)) = a0 → am_G X mt_T_firstPlace (d + 1) 4 [some (.ref pa), some (.int (nI (s + f))), some (.int (nI (s + t))), some (.ref aa), none, some (.int (nI z))] [] h (fun r h1 => r = some (.int (er (if a0 + (t - f) ≤ D.length then some a0 else none))) ∧ h1 = h)
  | 0, z, hn, hzb, he => by
    rw [fx_0 (by omega)] at he
    have hx0 := hx
    obtain ⟨cap, g, hpa, hT, hs, hc⟩ := hx0
    refine g_iload (pc := 4) dc_T_firstPlace_4 rfl ?_
    refine g_iload_n (pc := 6) dc_T_firstPlace_6 rfl ?_
    refine g_iadd (pc := 7) (v := (nI (z + (s + t)))) dc_T_firstPlace_7 (nI_add z (s + t)) ?_
    refine g_iload_n (pc := 8) dc_T_firstPlace_8 rfl ?_
    refine g_isub (pc := 9) (v := (nI (z + (t - f)))) dc_T_firstPlace_9 ((q_sub (a := z + (s + t)) (b := s + f) (by omega)).trans (congrArg nI (by omega))) ?_
    refine g_aload_n (pc := 10) dc_T_firstPlace_10 rfl ?_
    refine g_getfield (pc := 11) dc_T_firstPlace_11 fl_T_106 ha rfl ?_
    refine q_icmp_gt (pc := 14) (tgt := 43) (z + (t - f)) D.length dc_T_firstPlace_14 (by omega) (by omega) rfl (fun hc14 => ?_) (fun hc => absurd hc (by omega))
    refine g_iconst (pc := 43) (v := (-1)) dc_T_firstPlace_43 rfl ?_
    exact g_ireturn dc_T_firstPlace_44 rfl ⟨by rw [if_neg (by omega)]; rfl, rfl⟩
  | n + 1, z, hn, hzb, he => by
    have hx0 := hx
    obtain ⟨cap, g, hpa, hT, hs, hc⟩ := hx0
    by_cases hl : z + (t - f) ≤ D.length
    · by_cases hp : (fun z => !(decide (sub P f t = sub D z (z + (t - f))))) z = true
      · rw [fx_t (P := (fun z => !(decide (sub P f t = sub D z (z + (t - f)))))) (by omega) hp] at he
        refine g_iload (pc := 4) dc_T_firstPlace_4 rfl ?_
        refine g_iload_n (pc := 6) dc_T_firstPlace_6 rfl ?_
        refine g_iadd (pc := 7) (v := (nI (z + (s + t)))) dc_T_firstPlace_7 (nI_add z (s + t)) ?_
        refine g_iload_n (pc := 8) dc_T_firstPlace_8 rfl ?_
        refine g_isub (pc := 9) (v := (nI (z + (t - f)))) dc_T_firstPlace_9 ((q_sub (a := z + (s + t)) (b := s + f) (by omega)).trans (congrArg nI (by omega))) ?_
        refine g_aload_n (pc := 10) dc_T_firstPlace_10 rfl ?_
        refine g_getfield (pc := 11) dc_T_firstPlace_11 fl_T_106 ha rfl ?_
        refine q_icmp_gt (pc := 14) (tgt := 43) (z + (t - f)) D.length dc_T_firstPlace_14 (by omega) (by omega) rfl (fun hc => absurd hc (by omega)) (fun hc14 => ?_)
        refine g_aload_n (pc := 17) dc_T_firstPlace_17 rfl ?_
        refine g_iload_n (pc := 18) dc_T_firstPlace_18 rfl ?_
        refine g_aload_n (pc := 19) dc_T_firstPlace_19 rfl ?_
        refine g_getfield (pc := 20) dc_T_firstPlace_20 fl_T_102 ha rfl ?_
        refine g_iload (pc := 23) dc_T_firstPlace_23 rfl ?_
        refine g_iload_n (pc := 25) dc_T_firstPlace_25 rfl ?_
        refine g_iload_n (pc := 26) dc_T_firstPlace_26 rfl ?_
        refine g_isub (pc := 27) (v := (nI (t - f))) dc_T_firstPlace_27 (q_ss (s := s) (a := t) (b := f) (by omega)) ?_
        have hsb := t_sameBytes (X := X) (d := d) (f := f) (e := z) (n := t - f) hx hy (by omega) (by omega)
        simp only [Nat.zero_add] at hsb
        rw [show f + (t - f) = t by omega] at hsb
        refine g_s5 (pc := 28) (M' := mt_W_sameBytes) dc_T_firstPlace_28 mo_W_sameBytes st_W_sameBytes ln_T_121 (Nat.le_of_ble_eq_true rfl) (Nat.le_of_ble_eq_true rfl) (am_G.mono hsb ?_)
        intro r h1 hq
        rw [hq.1, hq.2]
        clear hq h1 r
        refine ⟨am_nti _, ?_⟩
        refine q_ifb_eq (pc := 31) (tgt := 37) dc_T_firstPlace_31 rfl (fun hc31 => ?_) (fun hc31 => ?_)
        · refine g_iinc (pc := 37) (v := (nI (z + 1))) dc_T_firstPlace_37 rfl (nI_add z 1) (by decide) ?_
          show am_G X mt_T_firstPlace _ 40 [some (.ref pa), some (.int (nI (s + f))), some (.int (nI (s + t))), some (.ref aa), none, some (.int (nI (z + 1)))] [] _ _
          refine g_goto (pc := 40) (tgt := 4) dc_T_firstPlace_40 rfl ?_
          exact l_T_firstPlace hx ha hy hD hft ht n (z + 1) (by omega) (by omega) he
        · exact absurd hp (by show ¬ (!(decide (sub P f t = sub D z (z + (t - f))))) = true; rw [hc31]; decide)
      · rw [fx_f (P := (fun z => !(decide (sub P f t = sub D z (z + (t - f)))))) hp] at he
        refine g_iload (pc := 4) dc_T_firstPlace_4 rfl ?_
        refine g_iload_n (pc := 6) dc_T_firstPlace_6 rfl ?_
        refine g_iadd (pc := 7) (v := (nI (z + (s + t)))) dc_T_firstPlace_7 (nI_add z (s + t)) ?_
        refine g_iload_n (pc := 8) dc_T_firstPlace_8 rfl ?_
        refine g_isub (pc := 9) (v := (nI (z + (t - f)))) dc_T_firstPlace_9 ((q_sub (a := z + (s + t)) (b := s + f) (by omega)).trans (congrArg nI (by omega))) ?_
        refine g_aload_n (pc := 10) dc_T_firstPlace_10 rfl ?_
        refine g_getfield (pc := 11) dc_T_firstPlace_11 fl_T_106 ha rfl ?_
        refine q_icmp_gt (pc := 14) (tgt := 43) (z + (t - f)) D.length dc_T_firstPlace_14 (by omega) (by omega) rfl (fun hc => absurd hc (by omega)) (fun hc14 => ?_)
        refine g_aload_n (pc := 17) dc_T_firstPlace_17 rfl ?_
        refine g_iload_n (pc := 18) dc_T_firstPlace_18 rfl ?_
        refine g_aload_n (pc := 19) dc_T_firstPlace_19 rfl ?_
        refine g_getfield (pc := 20) dc_T_firstPlace_20 fl_T_102 ha rfl ?_
        refine g_iload (pc := 23) dc_T_firstPlace_23 rfl ?_
        refine g_iload_n (pc := 25) dc_T_firstPlace_25 rfl ?_
        refine g_iload_n (pc := 26) dc_T_firstPlace_26 rfl ?_
        refine g_isub (pc := 27) (v := (nI (t - f))) dc_T_firstPlace_27 (q_ss (s := s) (a := t) (b := f) (by omega)) ?_
        have hsb := t_sameBytes (X := X) (d := d) (f := f) (e := z) (n := t - f) hx hy (by omega) (by omega)
        simp only [Nat.zero_add] at hsb
        rw [show f + (t - f) = t by omega] at hsb
        refine g_s5 (pc := 28) (M' := mt_W_sameBytes) dc_T_firstPlace_28 mo_W_sameBytes st_W_sameBytes ln_T_121 (Nat.le_of_ble_eq_true rfl) (Nat.le_of_ble_eq_true rfl) (am_G.mono hsb ?_)
        intro r h1 hq
        rw [hq.1, hq.2]
        clear hq h1 r
        refine ⟨am_nti _, ?_⟩
        refine q_ifb_eq (pc := 31) (tgt := 37) dc_T_firstPlace_31 rfl (fun hc31 => ?_) (fun hc31 => ?_)
        · exact absurd (show (fun z => !(decide (sub P f t = sub D z (z + (t - f))))) z = true by show (!(decide (sub P f t = sub D z (z + (t - f))))) = true; rw [hc31]; rfl) hp
        · refine g_iload (pc := 34) dc_T_firstPlace_34 rfl ?_
          exact g_ireturn dc_T_firstPlace_36 rfl ⟨by rw [← he, if_pos hl]; rfl, rfl⟩
    · rw [fx_0 (by omega)] at he
      refine g_iload (pc := 4) dc_T_firstPlace_4 rfl ?_
      refine g_iload_n (pc := 6) dc_T_firstPlace_6 rfl ?_
      refine g_iadd (pc := 7) (v := (nI (z + (s + t)))) dc_T_firstPlace_7 (nI_add z (s + t)) ?_
      refine g_iload_n (pc := 8) dc_T_firstPlace_8 rfl ?_
      refine g_isub (pc := 9) (v := (nI (z + (t - f)))) dc_T_firstPlace_9 ((q_sub (a := z + (s + t)) (b := s + f) (by omega)).trans (congrArg nI (by omega))) ?_
      refine g_aload_n (pc := 10) dc_T_firstPlace_10 rfl ?_
      refine g_getfield (pc := 11) dc_T_firstPlace_11 fl_T_106 ha rfl ?_
      refine q_icmp_gt (pc := 14) (tgt := 43) (z + (t - f)) D.length dc_T_firstPlace_14 (by omega) (by omega) rfl (fun hc14 => ?_) (fun hc => absurd hc (by omega))
      refine g_iconst (pc := 43) (v := (-1)) dc_T_firstPlace_43 rfl ?_
      exact g_ireturn dc_T_firstPlace_44 rfl ⟨by rw [if_neg (by omega)]; rfl, rfl⟩
theorem c_T_firstPlace (hx : tt h pa s P) (ha : h[aa]? = some (.inr (1, [.ref b, .int (nI D.length)]))) (hy : tt h b 0 D) (hD : D.length ≤ 200) (hft : f ≤ t) (ht : t ≤ P.length) (hab : a < 2 ^ 20) : am_C X mt_T_firstPlace (d + 1) [.ref pa, .int (nI (s + f)), .int (nI (s + t)), .ref aa, .int (nI a)] h (fun r h1 => r = some (.int (er (gfo D P f t a))) ∧ h1 = h) := by
  show am_G X mt_T_firstPlace (d + 1) 0 [some (.ref pa), some (.int (nI (s + f))), some (.int (nI (s + t))), some (.ref aa), some (.int (nI a)), none] [] h _
  refine g_iload (pc := 0) dc_T_firstPlace_0 rfl ?_
  refine g_istore (pc := 2) dc_T_firstPlace_2 (by decide) ?_
  show am_G X mt_T_firstPlace _ 4 [some (.ref pa), some (.int (nI (s + f))), some (.int (nI (s + t))), some (.ref aa), some (.int (nI a)), some (.int (nI a))] [] _ _
  refine am_wk (am_le_s (am_le_s (am_le_s (am_le_s (am_le_n (am_le_s am_le_0)))))) ?_
  exact l_T_firstPlace hx ha hy hD hft ht (D.length + 1 - (t - f)) a (by omega) hab rfl
theorem l00_T_matches {to : Nat} (hx : tt h pa s P) (ha : h[aa]? = some (.inr (1, [.ref b, .int (nI D.length)]))) (hy : tt h b 0 D) (hD : D.length ≤ 200) (hto : to ≤ P.length) : ∀ n a pf : Nat, to + 2 - pf ≤ n → pf ≤ to + 1 → a ≤ D.length → am_G X mt_T_matches (d + 2) 129 [none, none, some (.ref aa), some (.ref pa), none, some (.int 0), some (.int (nI (s + to))), some (.int (nI a)), none, some (.int 0), some (.int (nI (s + pf))), none] [] h (fun r h1 => r = some (.int (b1 (gml D P to false false n a pf))) ∧ h1 = h)
  | 0, a, pf, hn, hpf, hal => absurd hn (by omega)
  | n + 1, a, pf, hn, hpf, hal => by
    have hx0 := hx
    obtain ⟨cap, g, hpa, hT, hs, hc⟩ := hx0
    by_cases hp : pf ≤ to
    · have hfb := fw_bd (p := nev 42) (L := P) (f := pf) (t := to) hp
      have hG : gml D P to false false (n + 1) a pf = if false = true ∧ fw (nev 42) P pf to = to then (decide (a + (to - pf) ≤ D.length) && gsa D P pf to (D.length - (to - pf))) else if gfp D P pf (fw (nev 42) P pf to) a + (fw (nev 42) P pf to - pf) ≤ D.length then gml D P to false false n (gfp D P pf (fw (nev 42) P pf to) a + (fw (nev 42) P pf to - pf)) (fw (nev 42) P pf to + 1) else false := if_pos hp
      have hgb0 : ∀ pt k, gfo D P pf pt a = some k → k < 2 ^ 31 := by
        intro pt k h9
        unfold gfo at h9
        by_cases h8 : gfp D P pf pt a + (pt - pf) ≤ D.length
        · rw [if_pos h8] at h9
          have := Option.some.inj h9
          omega
        · rw [if_neg h8] at h9
          cases h9
      refine g_iload (pc := 129) dc_T_matches_129 rfl ?_
      refine g_iload (pc := 131) dc_T_matches_131 rfl ?_
      refine q_icmp_gt (pc := 133) (tgt := 239) (s + pf) (s + to) dc_T_matches_133 (by omega) (by omega) rfl (fun hc => absurd hc (by omega)) (fun hc133 => ?_)
      refine g_aload_n (pc := 136) dc_T_matches_136 rfl ?_
      refine g_bipush (pc := 137) (v := 42) dc_T_matches_137 rfl ?_
      refine g_iload (pc := 139) dc_T_matches_139 rfl ?_
      refine g_iload (pc := 141) dc_T_matches_141 rfl ?_
      refine g_s4 (pc := 143) (M' := mt_W_indexOf) dc_T_matches_143 mo_W_indexOf st_W_indexOf ln_T_47 (Nat.le_of_ble_eq_true rfl) (Nat.le_of_ble_eq_true rfl) (am_G.mono (t_W_indexOf (v := 42) (f := pf) (t := to) hx (by omega) (by omega)) ?_)
      intro r h1 hq
      rw [hq.1, hq.2]
      clear hq h1 r
      refine ⟨am_nti _, ?_⟩
      generalize fw (nev 42) P pf to = pt at *
      refine g_istore (pc := 146) dc_T_matches_146 (by decide) ?_
      show am_G X mt_T_matches _ 148 [none, none, some (.ref aa), some (.ref pa), none, some (.int 0), some (.int (nI (s + to))), some (.int (nI a)), some (.int (nI (s + pt))), some (.int 0), some (.int (nI (s + pf))), none] [] _ _
      refine g_iload (pc := 148) dc_T_matches_148 rfl ?_
      refine g_if_eq (pc := 150) (tgt := 199) dc_T_matches_150 rfl (fun _ => ?_) (fun hc => absurd hc (by decide))
      refine g_aload_n (pc := 199) dc_T_matches_199 rfl ?_
      refine g_iload (pc := 200) dc_T_matches_200 rfl ?_
      refine g_iload (pc := 202) dc_T_matches_202 rfl ?_
      refine g_aload_n (pc := 204) dc_T_matches_204 rfl ?_
      refine g_iload (pc := 205) dc_T_matches_205 rfl ?_
      refine g_s5 (pc := 207) (M' := mt_T_firstPlace) dc_T_matches_207 mo_T_firstPlace st_T_firstPlace ln_T_117 (Nat.le_of_ble_eq_true rfl) (Nat.le_of_ble_eq_true rfl) (am_G.mono (c_T_firstPlace (d := d) (f := pf) (t := pt) hx ha hy hD (by omega) (by omega) (by omega)) ?_)
      intro r h1 hq
      rw [hq.1, hq.2]
      clear hq h1 r
      refine ⟨am_nti _, ?_⟩
      refine g_istore (pc := 210) dc_T_matches_210 (by decide) ?_
      show am_G X mt_T_matches _ 212 [none, none, some (.ref aa), some (.ref pa), none, some (.int 0), some (.int (nI (s + to))), some (.int (er (gfo D P pf pt a))), some (.int (nI (s + pt))), some (.int 0), some (.int (nI (s + pf))), none] [] _ _
      refine g_iload (pc := 212) dc_T_matches_212 rfl ?_
      refine g_iconst (pc := 214) (v := (-1)) dc_T_matches_214 rfl ?_
      refine q_o_ne (pc := 215) (tgt := 220) dc_T_matches_215 (hgb0 pt) rfl (fun k215 hc215 => ?_) (fun hc215 => ?_)
      · rw [hc215]
        rw [show er (some k215) = nI k215 from rfl]
        have hk215 := (hgb0 pt) k215 hc215
        refine g_iload (pc := 220) dc_T_matches_220 rfl ?_
        refine g_iload (pc := 222) dc_T_matches_222 rfl ?_
        refine g_iload (pc := 224) dc_T_matches_224 rfl ?_
        refine g_isub (pc := 226) (v := (nI (pt - pf))) dc_T_matches_226 (q_ss (s := s) (a := pt) (b := pf) (by omega)) ?_
        refine g_iadd (pc := 227) (v := (nI (k215 + (pt - pf)))) dc_T_matches_227 (nI_add k215 (pt - pf)) ?_
        refine g_istore (pc := 228) dc_T_matches_228 (by decide) ?_
        show am_G X mt_T_matches _ 230 [none, none, some (.ref aa), some (.ref pa), none, some (.int 0), some (.int (nI (s + to))), some (.int (nI (k215 + (pt - pf)))), some (.int (nI (s + pt))), some (.int 0), some (.int (nI (s + pf))), none] [] _ _
        refine g_iload (pc := 230) dc_T_matches_230 rfl ?_
        refine g_iconst (pc := 232) (v := 1) dc_T_matches_232 rfl ?_
        refine g_iadd (pc := 233) (v := (nI (s + (pt + 1)))) dc_T_matches_233 (q_as s pt 1) ?_
        refine g_istore (pc := 234) dc_T_matches_234 (by decide) ?_
        show am_G X mt_T_matches _ 236 [none, none, some (.ref aa), some (.ref pa), none, some (.int 0), some (.int (nI (s + to))), some (.int (nI (k215 + (pt - pf)))), some (.int (nI (s + pt))), some (.int 0), some (.int (nI (s + (pt + 1)))), none] [] _ _
        refine g_goto (pc := 236) (tgt := 129) dc_T_matches_236 rfl ?_
        have hgs : gfp D P pf pt a + (pt - pf) ≤ D.length ∧ gfp D P pf pt a = k215 := by
          unfold gfo at hc215
          by_cases h9 : gfp D P pf pt a + (pt - pf) ≤ D.length
          · rw [if_pos h9] at hc215; exact ⟨h9, Option.some.inj hc215⟩
          · rw [if_neg h9] at hc215; cases hc215
        rw [hG, if_neg (fun h9 => absurd h9.1 (by decide))]
        rw [if_pos hgs.1, hgs.2]
        refine am_wk (am_le_n (am_le_n (am_le_s (am_le_s (am_le_n (am_le_s (am_le_s (am_le_s (am_le_n (am_le_s (am_le_s (am_le_n am_le_0)))))))))))) ?_
        exact l00_T_matches hx ha hy hD hto n (k215 + (pt - pf)) (pt + 1) (by omega) (by omega) (by omega)
      · rw [hc215]
        refine g_iconst (pc := 218) (v := 0) dc_T_matches_218 rfl ?_
        exact g_zreturn dc_T_matches_219 rfl rfl (by have hgn : ¬ gfp D P pf pt a + (pt - pf) ≤ D.length := fun h9 => (by unfold gfo at hc215; rw [if_pos h9] at hc215; cases hc215); rw [hG, if_neg (fun h9 => absurd h9.1 (by decide))]; rw [if_neg hgn]; exact ⟨rfl, rfl⟩)
    · have hG : gml D P to false false (n + 1) a pf = (false || (!false || decide (a = D.length))) := if_neg hp
      rw [hG]
      refine g_iload (pc := 129) dc_T_matches_129 rfl ?_
      refine g_iload (pc := 131) dc_T_matches_131 rfl ?_
      refine q_icmp_gt (pc := 133) (tgt := 239) (s + pf) (s + to) dc_T_matches_133 (by omega) (by omega) rfl (fun hc133 => ?_) (fun hc => absurd hc (by omega))
      refine g_iload (pc := 239) dc_T_matches_239 rfl ?_
      refine g_if_ne (pc := 241) (tgt := 258) dc_T_matches_241 rfl (fun hc => absurd hc (by decide)) (fun _ => ?_)
      refine g_iload (pc := 244) dc_T_matches_244 rfl ?_
      refine g_if_eq (pc := 246) (tgt := 258) dc_T_matches_246 rfl (fun _ => ?_) (fun hc => absurd hc (by decide))
      refine g_iconst (pc := 258) (v := 1) dc_T_matches_258 rfl ?_
      refine g_goto (pc := 259) (tgt := 263) dc_T_matches_259 rfl ?_
      exact g_zreturn dc_T_matches_263 rfl rfl ⟨rfl, rfl⟩
theorem l01_T_matches {to : Nat} (hx : tt h pa s P) (ha : h[aa]? = some (.inr (1, [.ref b, .int (nI D.length)]))) (hy : tt h b 0 D) (hD : D.length ≤ 200) (hto : to ≤ P.length) : ∀ n a pf : Nat, to + 2 - pf ≤ n → pf ≤ to + 1 → a ≤ D.length → am_G X mt_T_matches (d + 2) 129 [none, none, some (.ref aa), some (.ref pa), none, some (.int 0), some (.int (nI (s + to))), some (.int (nI a)), none, some (.int 1), some (.int (nI (s + pf))), none] [] h (fun r h1 => r = some (.int (b1 (gml D P to false true n a pf))) ∧ h1 = h)
  | 0, a, pf, hn, hpf, hal => absurd hn (by omega)
  | n + 1, a, pf, hn, hpf, hal => by
    have hx0 := hx
    obtain ⟨cap, g, hpa, hT, hs, hc⟩ := hx0
    by_cases hp : pf ≤ to
    · have hfb := fw_bd (p := nev 42) (L := P) (f := pf) (t := to) hp
      have hG : gml D P to false true (n + 1) a pf = if false = true ∧ fw (nev 42) P pf to = to then (decide (a + (to - pf) ≤ D.length) && gsa D P pf to (D.length - (to - pf))) else if gfp D P pf (fw (nev 42) P pf to) a + (fw (nev 42) P pf to - pf) ≤ D.length then gml D P to false true n (gfp D P pf (fw (nev 42) P pf to) a + (fw (nev 42) P pf to - pf)) (fw (nev 42) P pf to + 1) else false := if_pos hp
      have hgb0 : ∀ pt k, gfo D P pf pt a = some k → k < 2 ^ 31 := by
        intro pt k h9
        unfold gfo at h9
        by_cases h8 : gfp D P pf pt a + (pt - pf) ≤ D.length
        · rw [if_pos h8] at h9
          have := Option.some.inj h9
          omega
        · rw [if_neg h8] at h9
          cases h9
      refine g_iload (pc := 129) dc_T_matches_129 rfl ?_
      refine g_iload (pc := 131) dc_T_matches_131 rfl ?_
      refine q_icmp_gt (pc := 133) (tgt := 239) (s + pf) (s + to) dc_T_matches_133 (by omega) (by omega) rfl (fun hc => absurd hc (by omega)) (fun hc133 => ?_)
      refine g_aload_n (pc := 136) dc_T_matches_136 rfl ?_
      refine g_bipush (pc := 137) (v := 42) dc_T_matches_137 rfl ?_
      refine g_iload (pc := 139) dc_T_matches_139 rfl ?_
      refine g_iload (pc := 141) dc_T_matches_141 rfl ?_
      refine g_s4 (pc := 143) (M' := mt_W_indexOf) dc_T_matches_143 mo_W_indexOf st_W_indexOf ln_T_47 (Nat.le_of_ble_eq_true rfl) (Nat.le_of_ble_eq_true rfl) (am_G.mono (t_W_indexOf (v := 42) (f := pf) (t := to) hx (by omega) (by omega)) ?_)
      intro r h1 hq
      rw [hq.1, hq.2]
      clear hq h1 r
      refine ⟨am_nti _, ?_⟩
      generalize fw (nev 42) P pf to = pt at *
      refine g_istore (pc := 146) dc_T_matches_146 (by decide) ?_
      show am_G X mt_T_matches _ 148 [none, none, some (.ref aa), some (.ref pa), none, some (.int 0), some (.int (nI (s + to))), some (.int (nI a)), some (.int (nI (s + pt))), some (.int 1), some (.int (nI (s + pf))), none] [] _ _
      refine g_iload (pc := 148) dc_T_matches_148 rfl ?_
      refine g_if_eq (pc := 150) (tgt := 199) dc_T_matches_150 rfl (fun _ => ?_) (fun hc => absurd hc (by decide))
      refine g_aload_n (pc := 199) dc_T_matches_199 rfl ?_
      refine g_iload (pc := 200) dc_T_matches_200 rfl ?_
      refine g_iload (pc := 202) dc_T_matches_202 rfl ?_
      refine g_aload_n (pc := 204) dc_T_matches_204 rfl ?_
      refine g_iload (pc := 205) dc_T_matches_205 rfl ?_
      refine g_s5 (pc := 207) (M' := mt_T_firstPlace) dc_T_matches_207 mo_T_firstPlace st_T_firstPlace ln_T_117 (Nat.le_of_ble_eq_true rfl) (Nat.le_of_ble_eq_true rfl) (am_G.mono (c_T_firstPlace (d := d) (f := pf) (t := pt) hx ha hy hD (by omega) (by omega) (by omega)) ?_)
      intro r h1 hq
      rw [hq.1, hq.2]
      clear hq h1 r
      refine ⟨am_nti _, ?_⟩
      refine g_istore (pc := 210) dc_T_matches_210 (by decide) ?_
      show am_G X mt_T_matches _ 212 [none, none, some (.ref aa), some (.ref pa), none, some (.int 0), some (.int (nI (s + to))), some (.int (er (gfo D P pf pt a))), some (.int (nI (s + pt))), some (.int 1), some (.int (nI (s + pf))), none] [] _ _
      refine g_iload (pc := 212) dc_T_matches_212 rfl ?_
      refine g_iconst (pc := 214) (v := (-1)) dc_T_matches_214 rfl ?_
      refine q_o_ne (pc := 215) (tgt := 220) dc_T_matches_215 (hgb0 pt) rfl (fun k215 hc215 => ?_) (fun hc215 => ?_)
      · rw [hc215]
        rw [show er (some k215) = nI k215 from rfl]
        have hk215 := (hgb0 pt) k215 hc215
        refine g_iload (pc := 220) dc_T_matches_220 rfl ?_
        refine g_iload (pc := 222) dc_T_matches_222 rfl ?_
        refine g_iload (pc := 224) dc_T_matches_224 rfl ?_
        refine g_isub (pc := 226) (v := (nI (pt - pf))) dc_T_matches_226 (q_ss (s := s) (a := pt) (b := pf) (by omega)) ?_
        refine g_iadd (pc := 227) (v := (nI (k215 + (pt - pf)))) dc_T_matches_227 (nI_add k215 (pt - pf)) ?_
        refine g_istore (pc := 228) dc_T_matches_228 (by decide) ?_
        show am_G X mt_T_matches _ 230 [none, none, some (.ref aa), some (.ref pa), none, some (.int 0), some (.int (nI (s + to))), some (.int (nI (k215 + (pt - pf)))), some (.int (nI (s + pt))), some (.int 1), some (.int (nI (s + pf))), none] [] _ _
        refine g_iload (pc := 230) dc_T_matches_230 rfl ?_
        refine g_iconst (pc := 232) (v := 1) dc_T_matches_232 rfl ?_
        refine g_iadd (pc := 233) (v := (nI (s + (pt + 1)))) dc_T_matches_233 (q_as s pt 1) ?_
        refine g_istore (pc := 234) dc_T_matches_234 (by decide) ?_
        show am_G X mt_T_matches _ 236 [none, none, some (.ref aa), some (.ref pa), none, some (.int 0), some (.int (nI (s + to))), some (.int (nI (k215 + (pt - pf)))), some (.int (nI (s + pt))), some (.int 1), some (.int (nI (s + (pt + 1)))), none] [] _ _
        refine g_goto (pc := 236) (tgt := 129) dc_T_matches_236 rfl ?_
        have hgs : gfp D P pf pt a + (pt - pf) ≤ D.length ∧ gfp D P pf pt a = k215 := by
          unfold gfo at hc215
          by_cases h9 : gfp D P pf pt a + (pt - pf) ≤ D.length
          · rw [if_pos h9] at hc215; exact ⟨h9, Option.some.inj hc215⟩
          · rw [if_neg h9] at hc215; cases hc215
        rw [hG, if_neg (fun h9 => absurd h9.1 (by decide))]
        rw [if_pos hgs.1, hgs.2]
        refine am_wk (am_le_n (am_le_n (am_le_s (am_le_s (am_le_n (am_le_s (am_le_s (am_le_s (am_le_n (am_le_s (am_le_s (am_le_n am_le_0)))))))))))) ?_
        exact l01_T_matches hx ha hy hD hto n (k215 + (pt - pf)) (pt + 1) (by omega) (by omega) (by omega)
      · rw [hc215]
        refine g_iconst (pc := 218) (v := 0) dc_T_matches_218 rfl ?_
        exact g_zreturn dc_T_matches_219 rfl rfl (by have hgn : ¬ gfp D P pf pt a + (pt - pf) ≤ D.length := fun h9 => (by unfold gfo at hc215; rw [if_pos h9] at hc215; cases hc215); rw [hG, if_neg (fun h9 => absurd h9.1 (by decide))]; rw [if_neg hgn]; exact ⟨rfl, rfl⟩)
    · have hG : gml D P to false true (n + 1) a pf = (true || (!false || decide (a = D.length))) := if_neg hp
      rw [hG]
      refine g_iload (pc := 129) dc_T_matches_129 rfl ?_
      refine g_iload (pc := 131) dc_T_matches_131 rfl ?_
      refine q_icmp_gt (pc := 133) (tgt := 239) (s + pf) (s + to) dc_T_matches_133 (by omega) (by omega) rfl (fun hc133 => ?_) (fun hc => absurd hc (by omega))
      refine g_iload (pc := 239) dc_T_matches_239 rfl ?_
      refine g_if_ne (pc := 241) (tgt := 258) dc_T_matches_241 rfl (fun _ => ?_) (fun hc => absurd hc (by decide))
      refine g_iconst (pc := 258) (v := 1) dc_T_matches_258 rfl ?_
      refine g_goto (pc := 259) (tgt := 263) dc_T_matches_259 rfl ?_
      exact g_zreturn dc_T_matches_263 rfl rfl ⟨rfl, rfl⟩
theorem l10_T_matches {to : Nat} (hx : tt h pa s P) (ha : h[aa]? = some (.inr (1, [.ref b, .int (nI D.length)]))) (hy : tt h b 0 D) (hD : D.length ≤ 200) (hto : to ≤ P.length) : ∀ n a pf : Nat, to + 2 - pf ≤ n → pf ≤ to + 1 → a ≤ D.length → am_G X mt_T_matches (d + 2) 129 [none, none, some (.ref aa), some (.ref pa), none, some (.int 1), some (.int (nI (s + to))), some (.int (nI a)), none, some (.int 0), some (.int (nI (s + pf))), none] [] h (fun r h1 => r = some (.int (b1 (gml D P to true false n a pf))) ∧ h1 = h)
  | 0, a, pf, hn, hpf, hal => absurd hn (by omega)
  | n + 1, a, pf, hn, hpf, hal => by
    have hx0 := hx
    obtain ⟨cap, g, hpa, hT, hs, hc⟩ := hx0
    by_cases hp : pf ≤ to
    · have hfb := fw_bd (p := nev 42) (L := P) (f := pf) (t := to) hp
      have hG : gml D P to true false (n + 1) a pf = if true = true ∧ fw (nev 42) P pf to = to then (decide (a + (to - pf) ≤ D.length) && gsa D P pf to (D.length - (to - pf))) else if gfp D P pf (fw (nev 42) P pf to) a + (fw (nev 42) P pf to - pf) ≤ D.length then gml D P to true false n (gfp D P pf (fw (nev 42) P pf to) a + (fw (nev 42) P pf to - pf)) (fw (nev 42) P pf to + 1) else false := if_pos hp
      have hgb0 : ∀ pt k, gfo D P pf pt a = some k → k < 2 ^ 31 := by
        intro pt k h9
        unfold gfo at h9
        by_cases h8 : gfp D P pf pt a + (pt - pf) ≤ D.length
        · rw [if_pos h8] at h9
          have := Option.some.inj h9
          omega
        · rw [if_neg h8] at h9
          cases h9
      by_cases hpt0 : fw (nev 42) P pf to = to
      · rw [hG, if_pos ⟨rfl, hpt0⟩]
        by_cases hll : to - pf ≤ D.length
        · refine g_iload (pc := 129) dc_T_matches_129 rfl ?_
          refine g_iload (pc := 131) dc_T_matches_131 rfl ?_
          refine q_icmp_gt (pc := 133) (tgt := 239) (s + pf) (s + to) dc_T_matches_133 (by omega) (by omega) rfl (fun hc => absurd hc (by omega)) (fun hc133 => ?_)
          refine g_aload_n (pc := 136) dc_T_matches_136 rfl ?_
          refine g_bipush (pc := 137) (v := 42) dc_T_matches_137 rfl ?_
          refine g_iload (pc := 139) dc_T_matches_139 rfl ?_
          refine g_iload (pc := 141) dc_T_matches_141 rfl ?_
          refine g_s4 (pc := 143) (M' := mt_W_indexOf) dc_T_matches_143 mo_W_indexOf st_W_indexOf ln_T_47 (Nat.le_of_ble_eq_true rfl) (Nat.le_of_ble_eq_true rfl) (am_G.mono (t_W_indexOf (v := 42) (f := pf) (t := to) hx (by omega) (by omega)) ?_)
          intro r h1 hq
          rw [hq.1, hq.2]
          clear hq h1 r
          refine ⟨am_nti _, ?_⟩
          rw [hpt0]
          refine g_istore (pc := 146) dc_T_matches_146 (by decide) ?_
          show am_G X mt_T_matches _ 148 [none, none, some (.ref aa), some (.ref pa), none, some (.int 1), some (.int (nI (s + to))), some (.int (nI a)), some (.int (nI (s + to))), some (.int 0), some (.int (nI (s + pf))), none] [] _ _
          refine g_iload (pc := 148) dc_T_matches_148 rfl ?_
          refine g_if_eq (pc := 150) (tgt := 199) dc_T_matches_150 rfl (fun hc => absurd hc (by decide)) (fun _ => ?_)
          refine g_iload (pc := 153) dc_T_matches_153 rfl ?_
          refine g_iload (pc := 155) dc_T_matches_155 rfl ?_
          refine q_icmp_ne (pc := 157) (tgt := 199) (s + to) (s + to) dc_T_matches_157 (by omega) (by omega) rfl (fun hc => absurd hc (by omega)) (fun hc157 => ?_)
          refine g_aload_n (pc := 160) dc_T_matches_160 rfl ?_
          refine g_getfield (pc := 161) dc_T_matches_161 fl_T_106 ha rfl ?_
          refine g_iload (pc := 164) dc_T_matches_164 rfl ?_
          refine g_iload (pc := 166) dc_T_matches_166 rfl ?_
          refine g_isub (pc := 168) (v := (nI (to - pf))) dc_T_matches_168 (q_ss (s := s) (a := to) (b := pf) (by omega)) ?_
          refine g_isub (pc := 169) (v := (nI (D.length - (to - pf)))) dc_T_matches_169 (q_sub (a := D.length) (b := to - pf) (by omega)) ?_
          refine g_istore (pc := 170) dc_T_matches_170 (by decide) ?_
          show am_G X mt_T_matches _ 172 [none, none, some (.ref aa), some (.ref pa), none, some (.int 1), some (.int (nI (s + to))), some (.int (nI a)), some (.int (nI (s + to))), some (.int 0), some (.int (nI (s + pf))), some (.int (nI (D.length - (to - pf))))] [] _ _
          refine g_iload (pc := 172) dc_T_matches_172 rfl ?_
          refine g_iload (pc := 174) dc_T_matches_174 rfl ?_
          refine q_icmp_lt (pc := 176) (tgt := 197) (D.length - (to - pf)) a dc_T_matches_176 (by omega) (by omega) rfl (fun hc176 => ?_) (fun hc176 => ?_)
          · refine g_iconst (pc := 197) (v := 0) dc_T_matches_197 rfl ?_
            exact g_zreturn dc_T_matches_198 rfl rfl ⟨by rw [decide_eq_false (show ¬ a + (to - pf) ≤ D.length by omega)]; rfl, rfl⟩
          · refine g_aload_n (pc := 179) dc_T_matches_179 rfl ?_
            refine g_iload (pc := 180) dc_T_matches_180 rfl ?_
            refine g_iload (pc := 182) dc_T_matches_182 rfl ?_
            refine g_aload_n (pc := 184) dc_T_matches_184 rfl ?_
            refine g_iload (pc := 185) dc_T_matches_185 rfl ?_
            refine g_s5 (pc := 187) (M' := mt_T_standsAt) dc_T_matches_187 mo_T_standsAt st_T_standsAt ln_T_113 (Nat.le_of_ble_eq_true rfl) (Nat.le_of_ble_eq_true rfl) (am_G.mono (c_T_standsAt (d := d) (f := pf) (t := to) hx ha hy hD (by omega) (by omega) (by omega)) ?_)
            intro r h1 hq
            rw [hq.1, hq.2]
            clear hq h1 r
            refine ⟨am_nti _, ?_⟩
            refine q_ifb_eq (pc := 190) (tgt := 197) dc_T_matches_190 rfl (fun hc190 => ?_) (fun hc190 => ?_)
            · refine g_iconst (pc := 197) (v := 0) dc_T_matches_197 rfl ?_
              exact g_zreturn dc_T_matches_198 rfl rfl ⟨by rw [decide_eq_true (show a + (to - pf) ≤ D.length by omega), hc190]; rfl, rfl⟩
            · refine g_iconst (pc := 193) (v := 1) dc_T_matches_193 rfl ?_
              refine g_goto (pc := 194) (tgt := 198) dc_T_matches_194 rfl ?_
              exact g_zreturn dc_T_matches_198 rfl rfl ⟨by rw [decide_eq_true (show a + (to - pf) ≤ D.length by omega), hc190]; rfl, rfl⟩
        · refine g_iload (pc := 129) dc_T_matches_129 rfl ?_
          refine g_iload (pc := 131) dc_T_matches_131 rfl ?_
          refine q_icmp_gt (pc := 133) (tgt := 239) (s + pf) (s + to) dc_T_matches_133 (by omega) (by omega) rfl (fun hc => absurd hc (by omega)) (fun hc133 => ?_)
          refine g_aload_n (pc := 136) dc_T_matches_136 rfl ?_
          refine g_bipush (pc := 137) (v := 42) dc_T_matches_137 rfl ?_
          refine g_iload (pc := 139) dc_T_matches_139 rfl ?_
          refine g_iload (pc := 141) dc_T_matches_141 rfl ?_
          refine g_s4 (pc := 143) (M' := mt_W_indexOf) dc_T_matches_143 mo_W_indexOf st_W_indexOf ln_T_47 (Nat.le_of_ble_eq_true rfl) (Nat.le_of_ble_eq_true rfl) (am_G.mono (t_W_indexOf (v := 42) (f := pf) (t := to) hx (by omega) (by omega)) ?_)
          intro r h1 hq
          rw [hq.1, hq.2]
          clear hq h1 r
          refine ⟨am_nti _, ?_⟩
          rw [hpt0]
          refine g_istore (pc := 146) dc_T_matches_146 (by decide) ?_
          show am_G X mt_T_matches _ 148 [none, none, some (.ref aa), some (.ref pa), none, some (.int 1), some (.int (nI (s + to))), some (.int (nI a)), some (.int (nI (s + to))), some (.int 0), some (.int (nI (s + pf))), none] [] _ _
          refine g_iload (pc := 148) dc_T_matches_148 rfl ?_
          refine g_if_eq (pc := 150) (tgt := 199) dc_T_matches_150 rfl (fun hc => absurd hc (by decide)) (fun _ => ?_)
          refine g_iload (pc := 153) dc_T_matches_153 rfl ?_
          refine g_iload (pc := 155) dc_T_matches_155 rfl ?_
          refine q_icmp_ne (pc := 157) (tgt := 199) (s + to) (s + to) dc_T_matches_157 (by omega) (by omega) rfl (fun hc => absurd hc (by omega)) (fun hc157 => ?_)
          refine g_aload_n (pc := 160) dc_T_matches_160 rfl ?_
          refine g_getfield (pc := 161) dc_T_matches_161 fl_T_106 ha rfl ?_
          refine g_iload (pc := 164) dc_T_matches_164 rfl ?_
          refine g_iload (pc := 166) dc_T_matches_166 rfl ?_
          refine g_isub (pc := 168) (v := (nI (to - pf))) dc_T_matches_168 (q_ss (s := s) (a := to) (b := pf) (by omega)) ?_
          refine g_isub (pc := 169) (v := (nI D.length - nI (to - pf))) dc_T_matches_169 rfl ?_
          refine g_istore (pc := 170) dc_T_matches_170 (by decide) ?_
          show am_G X mt_T_matches _ 172 [none, none, some (.ref aa), some (.ref pa), none, some (.int 1), some (.int (nI (s + to))), some (.int (nI a)), some (.int (nI (s + to))), some (.int 0), some (.int (nI (s + pf))), some (.int (nI D.length - nI (to - pf)))] [] _ _
          refine g_iload (pc := 172) dc_T_matches_172 rfl ?_
          refine g_iload (pc := 174) dc_T_matches_174 rfl ?_
          refine g_icmp_lt (pc := 176) (tgt := 197) dc_T_matches_176 rfl (fun hc176 => ?_) (fun hc => absurd hc (not_not_intro (nI_neg (by omega) (by omega) (by omega))))
          refine g_iconst (pc := 197) (v := 0) dc_T_matches_197 rfl ?_
          exact g_zreturn dc_T_matches_198 rfl rfl ⟨by rw [decide_eq_false (show ¬ a + (to - pf) ≤ D.length by omega)]; rfl, rfl⟩
      · refine g_iload (pc := 129) dc_T_matches_129 rfl ?_
        refine g_iload (pc := 131) dc_T_matches_131 rfl ?_
        refine q_icmp_gt (pc := 133) (tgt := 239) (s + pf) (s + to) dc_T_matches_133 (by omega) (by omega) rfl (fun hc => absurd hc (by omega)) (fun hc133 => ?_)
        refine g_aload_n (pc := 136) dc_T_matches_136 rfl ?_
        refine g_bipush (pc := 137) (v := 42) dc_T_matches_137 rfl ?_
        refine g_iload (pc := 139) dc_T_matches_139 rfl ?_
        refine g_iload (pc := 141) dc_T_matches_141 rfl ?_
        refine g_s4 (pc := 143) (M' := mt_W_indexOf) dc_T_matches_143 mo_W_indexOf st_W_indexOf ln_T_47 (Nat.le_of_ble_eq_true rfl) (Nat.le_of_ble_eq_true rfl) (am_G.mono (t_W_indexOf (v := 42) (f := pf) (t := to) hx (by omega) (by omega)) ?_)
        intro r h1 hq
        rw [hq.1, hq.2]
        clear hq h1 r
        refine ⟨am_nti _, ?_⟩
        have hpt := hpt0
        generalize fw (nev 42) P pf to = pt at *
        refine g_istore (pc := 146) dc_T_matches_146 (by decide) ?_
        show am_G X mt_T_matches _ 148 [none, none, some (.ref aa), some (.ref pa), none, some (.int 1), some (.int (nI (s + to))), some (.int (nI a)), some (.int (nI (s + pt))), some (.int 0), some (.int (nI (s + pf))), none] [] _ _
        refine g_iload (pc := 148) dc_T_matches_148 rfl ?_
        refine g_if_eq (pc := 150) (tgt := 199) dc_T_matches_150 rfl (fun hc => absurd hc (by decide)) (fun _ => ?_)
        refine g_iload (pc := 153) dc_T_matches_153 rfl ?_
        refine g_iload (pc := 155) dc_T_matches_155 rfl ?_
        refine q_icmp_ne (pc := 157) (tgt := 199) (s + pt) (s + to) dc_T_matches_157 (by omega) (by omega) rfl (fun hc157 => ?_) (fun hc => absurd hc (by omega))
        refine g_aload_n (pc := 199) dc_T_matches_199 rfl ?_
        refine g_iload (pc := 200) dc_T_matches_200 rfl ?_
        refine g_iload (pc := 202) dc_T_matches_202 rfl ?_
        refine g_aload_n (pc := 204) dc_T_matches_204 rfl ?_
        refine g_iload (pc := 205) dc_T_matches_205 rfl ?_
        refine g_s5 (pc := 207) (M' := mt_T_firstPlace) dc_T_matches_207 mo_T_firstPlace st_T_firstPlace ln_T_117 (Nat.le_of_ble_eq_true rfl) (Nat.le_of_ble_eq_true rfl) (am_G.mono (c_T_firstPlace (d := d) (f := pf) (t := pt) hx ha hy hD (by omega) (by omega) (by omega)) ?_)
        intro r h1 hq
        rw [hq.1, hq.2]
        clear hq h1 r
        refine ⟨am_nti _, ?_⟩
        refine g_istore (pc := 210) dc_T_matches_210 (by decide) ?_
        show am_G X mt_T_matches _ 212 [none, none, some (.ref aa), some (.ref pa), none, some (.int 1), some (.int (nI (s + to))), some (.int (er (gfo D P pf pt a))), some (.int (nI (s + pt))), some (.int 0), some (.int (nI (s + pf))), none] [] _ _
        refine g_iload (pc := 212) dc_T_matches_212 rfl ?_
        refine g_iconst (pc := 214) (v := (-1)) dc_T_matches_214 rfl ?_
        refine q_o_ne (pc := 215) (tgt := 220) dc_T_matches_215 (hgb0 pt) rfl (fun k215 hc215 => ?_) (fun hc215 => ?_)
        · rw [hc215]
          rw [show er (some k215) = nI k215 from rfl]
          have hk215 := (hgb0 pt) k215 hc215
          refine g_iload (pc := 220) dc_T_matches_220 rfl ?_
          refine g_iload (pc := 222) dc_T_matches_222 rfl ?_
          refine g_iload (pc := 224) dc_T_matches_224 rfl ?_
          refine g_isub (pc := 226) (v := (nI (pt - pf))) dc_T_matches_226 (q_ss (s := s) (a := pt) (b := pf) (by omega)) ?_
          refine g_iadd (pc := 227) (v := (nI (k215 + (pt - pf)))) dc_T_matches_227 (nI_add k215 (pt - pf)) ?_
          refine g_istore (pc := 228) dc_T_matches_228 (by decide) ?_
          show am_G X mt_T_matches _ 230 [none, none, some (.ref aa), some (.ref pa), none, some (.int 1), some (.int (nI (s + to))), some (.int (nI (k215 + (pt - pf)))), some (.int (nI (s + pt))), some (.int 0), some (.int (nI (s + pf))), none] [] _ _
          refine g_iload (pc := 230) dc_T_matches_230 rfl ?_
          refine g_iconst (pc := 232) (v := 1) dc_T_matches_232 rfl ?_
          refine g_iadd (pc := 233) (v := (nI (s + (pt + 1)))) dc_T_matches_233 (q_as s pt 1) ?_
          refine g_istore (pc := 234) dc_T_matches_234 (by decide) ?_
          show am_G X mt_T_matches _ 236 [none, none, some (.ref aa), some (.ref pa), none, some (.int 1), some (.int (nI (s + to))), some (.int (nI (k215 + (pt - pf)))), some (.int (nI (s + pt))), some (.int 0), some (.int (nI (s + (pt + 1)))), none] [] _ _
          refine g_goto (pc := 236) (tgt := 129) dc_T_matches_236 rfl ?_
          have hgs : gfp D P pf pt a + (pt - pf) ≤ D.length ∧ gfp D P pf pt a = k215 := by
            unfold gfo at hc215
            by_cases h9 : gfp D P pf pt a + (pt - pf) ≤ D.length
            · rw [if_pos h9] at hc215; exact ⟨h9, Option.some.inj hc215⟩
            · rw [if_neg h9] at hc215; cases hc215
          rw [hG, if_neg (fun h9 => hpt h9.2)]
          rw [if_pos hgs.1, hgs.2]
          refine am_wk (am_le_n (am_le_n (am_le_s (am_le_s (am_le_n (am_le_s (am_le_s (am_le_s (am_le_n (am_le_s (am_le_s (am_le_n am_le_0)))))))))))) ?_
          exact l10_T_matches hx ha hy hD hto n (k215 + (pt - pf)) (pt + 1) (by omega) (by omega) (by omega)
        · rw [hc215]
          refine g_iconst (pc := 218) (v := 0) dc_T_matches_218 rfl ?_
          exact g_zreturn dc_T_matches_219 rfl rfl (by have hgn : ¬ gfp D P pf pt a + (pt - pf) ≤ D.length := fun h9 => (by unfold gfo at hc215; rw [if_pos h9] at hc215; cases hc215); rw [hG, if_neg (fun h9 => hpt h9.2)]; rw [if_neg hgn]; exact ⟨rfl, rfl⟩)
    · have hG : gml D P to true false (n + 1) a pf = (false || (!true || decide (a = D.length))) := if_neg hp
      rw [hG]
      refine g_iload (pc := 129) dc_T_matches_129 rfl ?_
      refine g_iload (pc := 131) dc_T_matches_131 rfl ?_
      refine q_icmp_gt (pc := 133) (tgt := 239) (s + pf) (s + to) dc_T_matches_133 (by omega) (by omega) rfl (fun hc133 => ?_) (fun hc => absurd hc (by omega))
      refine g_iload (pc := 239) dc_T_matches_239 rfl ?_
      refine g_if_ne (pc := 241) (tgt := 258) dc_T_matches_241 rfl (fun hc => absurd hc (by decide)) (fun _ => ?_)
      refine g_iload (pc := 244) dc_T_matches_244 rfl ?_
      refine g_if_eq (pc := 246) (tgt := 258) dc_T_matches_246 rfl (fun hc => absurd hc (by decide)) (fun _ => ?_)
      refine g_iload (pc := 249) dc_T_matches_249 rfl ?_
      refine g_aload_n (pc := 251) dc_T_matches_251 rfl ?_
      refine g_getfield (pc := 252) dc_T_matches_252 fl_T_106 ha rfl ?_
      refine q_icmp_ne (pc := 255) (tgt := 262) a D.length dc_T_matches_255 (by omega) (by omega) rfl (fun hc255 => ?_) (fun hc255 => ?_)
      · refine g_iconst (pc := 262) (v := 0) dc_T_matches_262 rfl ?_
        exact g_zreturn dc_T_matches_263 rfl rfl ⟨by rw [decide_eq_false (show ¬ a = D.length by omega)]; rfl, rfl⟩
      · refine g_iconst (pc := 258) (v := 1) dc_T_matches_258 rfl ?_
        refine g_goto (pc := 259) (tgt := 263) dc_T_matches_259 rfl ?_
        exact g_zreturn dc_T_matches_263 rfl rfl ⟨by rw [decide_eq_true (show a = D.length by omega)]; rfl, rfl⟩
theorem l11_T_matches {to : Nat} (hx : tt h pa s P) (ha : h[aa]? = some (.inr (1, [.ref b, .int (nI D.length)]))) (hy : tt h b 0 D) (hD : D.length ≤ 200) (hto : to ≤ P.length) : ∀ n a pf : Nat, to + 2 - pf ≤ n → pf ≤ to + 1 → a ≤ D.length → am_G X mt_T_matches (d + 2) 129 [none, none, some (.ref aa), some (.ref pa), none, some (.int 1), some (.int (nI (s + to))), some (.int (nI a)), none, some (.int 1), some (.int (nI (s + pf))), none] [] h (fun r h1 => r = some (.int (b1 (gml D P to true true n a pf))) ∧ h1 = h)
  | 0, a, pf, hn, hpf, hal => absurd hn (by omega)
  | n + 1, a, pf, hn, hpf, hal => by
    have hx0 := hx
    obtain ⟨cap, g, hpa, hT, hs, hc⟩ := hx0
    by_cases hp : pf ≤ to
    · have hfb := fw_bd (p := nev 42) (L := P) (f := pf) (t := to) hp
      have hG : gml D P to true true (n + 1) a pf = if true = true ∧ fw (nev 42) P pf to = to then (decide (a + (to - pf) ≤ D.length) && gsa D P pf to (D.length - (to - pf))) else if gfp D P pf (fw (nev 42) P pf to) a + (fw (nev 42) P pf to - pf) ≤ D.length then gml D P to true true n (gfp D P pf (fw (nev 42) P pf to) a + (fw (nev 42) P pf to - pf)) (fw (nev 42) P pf to + 1) else false := if_pos hp
      have hgb0 : ∀ pt k, gfo D P pf pt a = some k → k < 2 ^ 31 := by
        intro pt k h9
        unfold gfo at h9
        by_cases h8 : gfp D P pf pt a + (pt - pf) ≤ D.length
        · rw [if_pos h8] at h9
          have := Option.some.inj h9
          omega
        · rw [if_neg h8] at h9
          cases h9
      by_cases hpt0 : fw (nev 42) P pf to = to
      · rw [hG, if_pos ⟨rfl, hpt0⟩]
        by_cases hll : to - pf ≤ D.length
        · refine g_iload (pc := 129) dc_T_matches_129 rfl ?_
          refine g_iload (pc := 131) dc_T_matches_131 rfl ?_
          refine q_icmp_gt (pc := 133) (tgt := 239) (s + pf) (s + to) dc_T_matches_133 (by omega) (by omega) rfl (fun hc => absurd hc (by omega)) (fun hc133 => ?_)
          refine g_aload_n (pc := 136) dc_T_matches_136 rfl ?_
          refine g_bipush (pc := 137) (v := 42) dc_T_matches_137 rfl ?_
          refine g_iload (pc := 139) dc_T_matches_139 rfl ?_
          refine g_iload (pc := 141) dc_T_matches_141 rfl ?_
          refine g_s4 (pc := 143) (M' := mt_W_indexOf) dc_T_matches_143 mo_W_indexOf st_W_indexOf ln_T_47 (Nat.le_of_ble_eq_true rfl) (Nat.le_of_ble_eq_true rfl) (am_G.mono (t_W_indexOf (v := 42) (f := pf) (t := to) hx (by omega) (by omega)) ?_)
          intro r h1 hq
          rw [hq.1, hq.2]
          clear hq h1 r
          refine ⟨am_nti _, ?_⟩
          rw [hpt0]
          refine g_istore (pc := 146) dc_T_matches_146 (by decide) ?_
          show am_G X mt_T_matches _ 148 [none, none, some (.ref aa), some (.ref pa), none, some (.int 1), some (.int (nI (s + to))), some (.int (nI a)), some (.int (nI (s + to))), some (.int 1), some (.int (nI (s + pf))), none] [] _ _
          refine g_iload (pc := 148) dc_T_matches_148 rfl ?_
          refine g_if_eq (pc := 150) (tgt := 199) dc_T_matches_150 rfl (fun hc => absurd hc (by decide)) (fun _ => ?_)
          refine g_iload (pc := 153) dc_T_matches_153 rfl ?_
          refine g_iload (pc := 155) dc_T_matches_155 rfl ?_
          refine q_icmp_ne (pc := 157) (tgt := 199) (s + to) (s + to) dc_T_matches_157 (by omega) (by omega) rfl (fun hc => absurd hc (by omega)) (fun hc157 => ?_)
          refine g_aload_n (pc := 160) dc_T_matches_160 rfl ?_
          refine g_getfield (pc := 161) dc_T_matches_161 fl_T_106 ha rfl ?_
          refine g_iload (pc := 164) dc_T_matches_164 rfl ?_
          refine g_iload (pc := 166) dc_T_matches_166 rfl ?_
          refine g_isub (pc := 168) (v := (nI (to - pf))) dc_T_matches_168 (q_ss (s := s) (a := to) (b := pf) (by omega)) ?_
          refine g_isub (pc := 169) (v := (nI (D.length - (to - pf)))) dc_T_matches_169 (q_sub (a := D.length) (b := to - pf) (by omega)) ?_
          refine g_istore (pc := 170) dc_T_matches_170 (by decide) ?_
          show am_G X mt_T_matches _ 172 [none, none, some (.ref aa), some (.ref pa), none, some (.int 1), some (.int (nI (s + to))), some (.int (nI a)), some (.int (nI (s + to))), some (.int 1), some (.int (nI (s + pf))), some (.int (nI (D.length - (to - pf))))] [] _ _
          refine g_iload (pc := 172) dc_T_matches_172 rfl ?_
          refine g_iload (pc := 174) dc_T_matches_174 rfl ?_
          refine q_icmp_lt (pc := 176) (tgt := 197) (D.length - (to - pf)) a dc_T_matches_176 (by omega) (by omega) rfl (fun hc176 => ?_) (fun hc176 => ?_)
          · refine g_iconst (pc := 197) (v := 0) dc_T_matches_197 rfl ?_
            exact g_zreturn dc_T_matches_198 rfl rfl ⟨by rw [decide_eq_false (show ¬ a + (to - pf) ≤ D.length by omega)]; rfl, rfl⟩
          · refine g_aload_n (pc := 179) dc_T_matches_179 rfl ?_
            refine g_iload (pc := 180) dc_T_matches_180 rfl ?_
            refine g_iload (pc := 182) dc_T_matches_182 rfl ?_
            refine g_aload_n (pc := 184) dc_T_matches_184 rfl ?_
            refine g_iload (pc := 185) dc_T_matches_185 rfl ?_
            refine g_s5 (pc := 187) (M' := mt_T_standsAt) dc_T_matches_187 mo_T_standsAt st_T_standsAt ln_T_113 (Nat.le_of_ble_eq_true rfl) (Nat.le_of_ble_eq_true rfl) (am_G.mono (c_T_standsAt (d := d) (f := pf) (t := to) hx ha hy hD (by omega) (by omega) (by omega)) ?_)
            intro r h1 hq
            rw [hq.1, hq.2]
            clear hq h1 r
            refine ⟨am_nti _, ?_⟩
            refine q_ifb_eq (pc := 190) (tgt := 197) dc_T_matches_190 rfl (fun hc190 => ?_) (fun hc190 => ?_)
            · refine g_iconst (pc := 197) (v := 0) dc_T_matches_197 rfl ?_
              exact g_zreturn dc_T_matches_198 rfl rfl ⟨by rw [decide_eq_true (show a + (to - pf) ≤ D.length by omega), hc190]; rfl, rfl⟩
            · refine g_iconst (pc := 193) (v := 1) dc_T_matches_193 rfl ?_
              refine g_goto (pc := 194) (tgt := 198) dc_T_matches_194 rfl ?_
              exact g_zreturn dc_T_matches_198 rfl rfl ⟨by rw [decide_eq_true (show a + (to - pf) ≤ D.length by omega), hc190]; rfl, rfl⟩
        · refine g_iload (pc := 129) dc_T_matches_129 rfl ?_
          refine g_iload (pc := 131) dc_T_matches_131 rfl ?_
          refine q_icmp_gt (pc := 133) (tgt := 239) (s + pf) (s + to) dc_T_matches_133 (by omega) (by omega) rfl (fun hc => absurd hc (by omega)) (fun hc133 => ?_)
          refine g_aload_n (pc := 136) dc_T_matches_136 rfl ?_
          refine g_bipush (pc := 137) (v := 42) dc_T_matches_137 rfl ?_
          refine g_iload (pc := 139) dc_T_matches_139 rfl ?_
          refine g_iload (pc := 141) dc_T_matches_141 rfl ?_
          refine g_s4 (pc := 143) (M' := mt_W_indexOf) dc_T_matches_143 mo_W_indexOf st_W_indexOf ln_T_47 (Nat.le_of_ble_eq_true rfl) (Nat.le_of_ble_eq_true rfl) (am_G.mono (t_W_indexOf (v := 42) (f := pf) (t := to) hx (by omega) (by omega)) ?_)
          intro r h1 hq
          rw [hq.1, hq.2]
          clear hq h1 r
          refine ⟨am_nti _, ?_⟩
          rw [hpt0]
          refine g_istore (pc := 146) dc_T_matches_146 (by decide) ?_
          show am_G X mt_T_matches _ 148 [none, none, some (.ref aa), some (.ref pa), none, some (.int 1), some (.int (nI (s + to))), some (.int (nI a)), some (.int (nI (s + to))), some (.int 1), some (.int (nI (s + pf))), none] [] _ _
          refine g_iload (pc := 148) dc_T_matches_148 rfl ?_
          refine g_if_eq (pc := 150) (tgt := 199) dc_T_matches_150 rfl (fun hc => absurd hc (by decide)) (fun _ => ?_)
          refine g_iload (pc := 153) dc_T_matches_153 rfl ?_
          refine g_iload (pc := 155) dc_T_matches_155 rfl ?_
          refine q_icmp_ne (pc := 157) (tgt := 199) (s + to) (s + to) dc_T_matches_157 (by omega) (by omega) rfl (fun hc => absurd hc (by omega)) (fun hc157 => ?_)
          refine g_aload_n (pc := 160) dc_T_matches_160 rfl ?_
          refine g_getfield (pc := 161) dc_T_matches_161 fl_T_106 ha rfl ?_
          refine g_iload (pc := 164) dc_T_matches_164 rfl ?_
          refine g_iload (pc := 166) dc_T_matches_166 rfl ?_
          refine g_isub (pc := 168) (v := (nI (to - pf))) dc_T_matches_168 (q_ss (s := s) (a := to) (b := pf) (by omega)) ?_
          refine g_isub (pc := 169) (v := (nI D.length - nI (to - pf))) dc_T_matches_169 rfl ?_
          refine g_istore (pc := 170) dc_T_matches_170 (by decide) ?_
          show am_G X mt_T_matches _ 172 [none, none, some (.ref aa), some (.ref pa), none, some (.int 1), some (.int (nI (s + to))), some (.int (nI a)), some (.int (nI (s + to))), some (.int 1), some (.int (nI (s + pf))), some (.int (nI D.length - nI (to - pf)))] [] _ _
          refine g_iload (pc := 172) dc_T_matches_172 rfl ?_
          refine g_iload (pc := 174) dc_T_matches_174 rfl ?_
          refine g_icmp_lt (pc := 176) (tgt := 197) dc_T_matches_176 rfl (fun hc176 => ?_) (fun hc => absurd hc (not_not_intro (nI_neg (by omega) (by omega) (by omega))))
          refine g_iconst (pc := 197) (v := 0) dc_T_matches_197 rfl ?_
          exact g_zreturn dc_T_matches_198 rfl rfl ⟨by rw [decide_eq_false (show ¬ a + (to - pf) ≤ D.length by omega)]; rfl, rfl⟩
      · refine g_iload (pc := 129) dc_T_matches_129 rfl ?_
        refine g_iload (pc := 131) dc_T_matches_131 rfl ?_
        refine q_icmp_gt (pc := 133) (tgt := 239) (s + pf) (s + to) dc_T_matches_133 (by omega) (by omega) rfl (fun hc => absurd hc (by omega)) (fun hc133 => ?_)
        refine g_aload_n (pc := 136) dc_T_matches_136 rfl ?_
        refine g_bipush (pc := 137) (v := 42) dc_T_matches_137 rfl ?_
        refine g_iload (pc := 139) dc_T_matches_139 rfl ?_
        refine g_iload (pc := 141) dc_T_matches_141 rfl ?_
        refine g_s4 (pc := 143) (M' := mt_W_indexOf) dc_T_matches_143 mo_W_indexOf st_W_indexOf ln_T_47 (Nat.le_of_ble_eq_true rfl) (Nat.le_of_ble_eq_true rfl) (am_G.mono (t_W_indexOf (v := 42) (f := pf) (t := to) hx (by omega) (by omega)) ?_)
        intro r h1 hq
        rw [hq.1, hq.2]
        clear hq h1 r
        refine ⟨am_nti _, ?_⟩
        have hpt := hpt0
        generalize fw (nev 42) P pf to = pt at *
        refine g_istore (pc := 146) dc_T_matches_146 (by decide) ?_
        show am_G X mt_T_matches _ 148 [none, none, some (.ref aa), some (.ref pa), none, some (.int 1), some (.int (nI (s + to))), some (.int (nI a)), some (.int (nI (s + pt))), some (.int 1), some (.int (nI (s + pf))), none] [] _ _
        refine g_iload (pc := 148) dc_T_matches_148 rfl ?_
        refine g_if_eq (pc := 150) (tgt := 199) dc_T_matches_150 rfl (fun hc => absurd hc (by decide)) (fun _ => ?_)
        refine g_iload (pc := 153) dc_T_matches_153 rfl ?_
        refine g_iload (pc := 155) dc_T_matches_155 rfl ?_
        refine q_icmp_ne (pc := 157) (tgt := 199) (s + pt) (s + to) dc_T_matches_157 (by omega) (by omega) rfl (fun hc157 => ?_) (fun hc => absurd hc (by omega))
        refine g_aload_n (pc := 199) dc_T_matches_199 rfl ?_
        refine g_iload (pc := 200) dc_T_matches_200 rfl ?_
        refine g_iload (pc := 202) dc_T_matches_202 rfl ?_
        refine g_aload_n (pc := 204) dc_T_matches_204 rfl ?_
        refine g_iload (pc := 205) dc_T_matches_205 rfl ?_
        refine g_s5 (pc := 207) (M' := mt_T_firstPlace) dc_T_matches_207 mo_T_firstPlace st_T_firstPlace ln_T_117 (Nat.le_of_ble_eq_true rfl) (Nat.le_of_ble_eq_true rfl) (am_G.mono (c_T_firstPlace (d := d) (f := pf) (t := pt) hx ha hy hD (by omega) (by omega) (by omega)) ?_)
        intro r h1 hq
        rw [hq.1, hq.2]
        clear hq h1 r
        refine ⟨am_nti _, ?_⟩
        refine g_istore (pc := 210) dc_T_matches_210 (by decide) ?_
        show am_G X mt_T_matches _ 212 [none, none, some (.ref aa), some (.ref pa), none, some (.int 1), some (.int (nI (s + to))), some (.int (er (gfo D P pf pt a))), some (.int (nI (s + pt))), some (.int 1), some (.int (nI (s + pf))), none] [] _ _
        refine g_iload (pc := 212) dc_T_matches_212 rfl ?_
        refine g_iconst (pc := 214) (v := (-1)) dc_T_matches_214 rfl ?_
        refine q_o_ne (pc := 215) (tgt := 220) dc_T_matches_215 (hgb0 pt) rfl (fun k215 hc215 => ?_) (fun hc215 => ?_)
        · rw [hc215]
          rw [show er (some k215) = nI k215 from rfl]
          have hk215 := (hgb0 pt) k215 hc215
          refine g_iload (pc := 220) dc_T_matches_220 rfl ?_
          refine g_iload (pc := 222) dc_T_matches_222 rfl ?_
          refine g_iload (pc := 224) dc_T_matches_224 rfl ?_
          refine g_isub (pc := 226) (v := (nI (pt - pf))) dc_T_matches_226 (q_ss (s := s) (a := pt) (b := pf) (by omega)) ?_
          refine g_iadd (pc := 227) (v := (nI (k215 + (pt - pf)))) dc_T_matches_227 (nI_add k215 (pt - pf)) ?_
          refine g_istore (pc := 228) dc_T_matches_228 (by decide) ?_
          show am_G X mt_T_matches _ 230 [none, none, some (.ref aa), some (.ref pa), none, some (.int 1), some (.int (nI (s + to))), some (.int (nI (k215 + (pt - pf)))), some (.int (nI (s + pt))), some (.int 1), some (.int (nI (s + pf))), none] [] _ _
          refine g_iload (pc := 230) dc_T_matches_230 rfl ?_
          refine g_iconst (pc := 232) (v := 1) dc_T_matches_232 rfl ?_
          refine g_iadd (pc := 233) (v := (nI (s + (pt + 1)))) dc_T_matches_233 (q_as s pt 1) ?_
          refine g_istore (pc := 234) dc_T_matches_234 (by decide) ?_
          show am_G X mt_T_matches _ 236 [none, none, some (.ref aa), some (.ref pa), none, some (.int 1), some (.int (nI (s + to))), some (.int (nI (k215 + (pt - pf)))), some (.int (nI (s + pt))), some (.int 1), some (.int (nI (s + (pt + 1)))), none] [] _ _
          refine g_goto (pc := 236) (tgt := 129) dc_T_matches_236 rfl ?_
          have hgs : gfp D P pf pt a + (pt - pf) ≤ D.length ∧ gfp D P pf pt a = k215 := by
            unfold gfo at hc215
            by_cases h9 : gfp D P pf pt a + (pt - pf) ≤ D.length
            · rw [if_pos h9] at hc215; exact ⟨h9, Option.some.inj hc215⟩
            · rw [if_neg h9] at hc215; cases hc215
          rw [hG, if_neg (fun h9 => hpt h9.2)]
          rw [if_pos hgs.1, hgs.2]
          refine am_wk (am_le_n (am_le_n (am_le_s (am_le_s (am_le_n (am_le_s (am_le_s (am_le_s (am_le_n (am_le_s (am_le_s (am_le_n am_le_0)))))))))))) ?_
          exact l11_T_matches hx ha hy hD hto n (k215 + (pt - pf)) (pt + 1) (by omega) (by omega) (by omega)
        · rw [hc215]
          refine g_iconst (pc := 218) (v := 0) dc_T_matches_218 rfl ?_
          exact g_zreturn dc_T_matches_219 rfl rfl (by have hgn : ¬ gfp D P pf pt a + (pt - pf) ≤ D.length := fun h9 => (by unfold gfo at hc215; rw [if_pos h9] at hc215; cases hc215); rw [hG, if_neg (fun h9 => hpt h9.2)]; rw [if_neg hgn]; exact ⟨rfl, rfl⟩)
    · have hG : gml D P to true true (n + 1) a pf = (true || (!true || decide (a = D.length))) := if_neg hp
      rw [hG]
      refine g_iload (pc := 129) dc_T_matches_129 rfl ?_
      refine g_iload (pc := 131) dc_T_matches_131 rfl ?_
      refine q_icmp_gt (pc := 133) (tgt := 239) (s + pf) (s + to) dc_T_matches_133 (by omega) (by omega) rfl (fun hc133 => ?_) (fun hc => absurd hc (by omega))
      refine g_iload (pc := 239) dc_T_matches_239 rfl ?_
      refine g_if_ne (pc := 241) (tgt := 258) dc_T_matches_241 rfl (fun _ => ?_) (fun hc => absurd hc (by decide))
      refine g_iconst (pc := 258) (v := 1) dc_T_matches_258 rfl ?_
      refine g_goto (pc := 259) (tgt := 263) dc_T_matches_259 rfl ?_
      exact g_zreturn dc_T_matches_263 rfl rfl ⟨rfl, rfl⟩
end CMT
