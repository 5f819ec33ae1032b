/-! ===== a page's text decoded ===== -/
/-- u i at each place, w i places on -/
def xp (u : Nat → List Int32) (w : Nat → Nat) (t : Nat) : Nat → Nat → List Int32
  | 0, _ => []
  | n + 1, i => if i < t then u i ++ xp u w t n (i + w i) else []
section XP
variable {u : Nat → List Int32} {w : Nat → Nat} {t : Nat}
theorem xp_stop {i : Nat} : ∀ n : Nat, t ≤ i → xp u w t n i = []
  | 0, _ => rfl
  | n + 1, h => if_neg (by omega)
theorem xp_more (hw : ∀ i, i < t → 1 ≤ w i) : ∀ (n m i : Nat), t - i ≤ n → t - i ≤ m → xp u w t n i = xp u w t m i
  | 0, m, i, h1, h2 => by rw [xp_stop 0 (by omega), xp_stop m (by omega)]
  | n + 1, 0, i, h1, h2 => by rw [xp_stop 0 (by omega), xp_stop (n + 1) (by omega)]
  | n + 1, m + 1, i, h1, h2 => by
    by_cases h : i < t
    · show (if i < t then u i ++ xp u w t n (i + w i) else []) = (if i < t then u i ++ xp u w t m (i + w i) else [])
      have := hw i h
      rw [if_pos h, if_pos h, xp_more hw n m (i + w i) (by omega) (by omega)]
    · rw [xp_stop _ (by omega), xp_stop _ (by omega)]
theorem xp_step (hw : ∀ i, i < t → 1 ≤ w i) {i : Nat} (h : i < t) : xp u w t (t - i) i = u i ++ xp u w t (t - (i + w i)) (i + w i) := by
  obtain ⟨n, hn⟩ : ∃ n, t - i = n + 1 := ⟨t - i - 1, by omega⟩
  have := hw i h
  rw [hn]
  show (if i < t then u i ++ xp u w t n (i + w i) else []) = _
  rw [if_pos h, xp_more hw n (t - (i + w i)) (i + w i) (by omega) (by omega)]
end XP
/-- what stands at i as a reference: the byte, and where it goes on -/
def rfb (L : List Int32) (i t : Nat) : Option (Nat × Nat) := if gx L i = 38 then (if fw (nev 59) L (i + 1) (Nat.min t (i + 10)) = Nat.min t (i + 10) then none else (refd L (i + 1) (fw (nev 59) L (i + 1) (Nat.min t (i + 10)))).map (fun v => (v, fw (nev 59) L (i + 1) (Nat.min t (i + 10)) + 1))) else none
def db (L : List Int32) (t i : Nat) : List Int32 := match rfb L i t with
  | some q => [nI q.1]
  | none => [gx L i]
def da (L : List Int32) (t i : Nat) : Nat := match rfb L i t with
  | some q => q.2 - i
  | none => 1
def dcd (L : List Int32) (f t : Nat) : List Int32 := xp (db L t) (da L t) t (t - f) f
theorem refd_126 {L : List Int32} {f t k : Nat} (h : refd L f t = some k) : 32 ≤ k ∧ k ≤ 126 := by
  have hn : ∀ r g, nmb L r g t = some k → 32 ≤ k ∧ k ≤ 126 := fun r g h => by
    unfold nmb at h
    split at h
    · cases h
    · split at h
      · cases h
        unfold ncl
        split <;> omega
      · cases h
  unfold refd at h
  split at h
  · split at h <;> exact hn _ _ h
  · split at h
    · cases h; omega
    · split at h
      · cases h; omega
      · split at h
        · cases h; omega
        · split at h
          · cases h; omega
          · split at h
            · cases h; omega
            · cases h
section DD
variable {L : List Int32} {i t : Nat} {q : Nat × Nat}
theorem rfb_n1 (h : ¬ gx L i = 38) : rfb L i t = none := if_neg h
theorem rfb_n2 (h : fw (nev 59) L (i + 1) (Nat.min t (i + 10)) = Nat.min t (i + 10)) : rfb L i t = none := by
  unfold rfb
  by_cases h1 : gx L i = 38
  · rw [if_pos h1, if_pos h]
  · rw [if_neg h1]
theorem rfb_n3 (h : refd L (i + 1) (fw (nev 59) L (i + 1) (Nat.min t (i + 10))) = none) : rfb L i t = none := by
  unfold rfb
  split
  · split
    · rfl
    · rw [h]; rfl
  · rfl
theorem rfb_s {v : Nat} (h1 : gx L i = 38) (h2 : ¬ fw (nev 59) L (i + 1) (Nat.min t (i + 10)) = Nat.min t (i + 10)) (h3 : refd L (i + 1) (fw (nev 59) L (i + 1) (Nat.min t (i + 10))) = some v) : rfb L i t = some (v, fw (nev 59) L (i + 1) (Nat.min t (i + 10)) + 1) := by
  unfold rfb
  rw [if_pos h1, if_neg h2, h3]
  rfl
theorem rfb_i (hit : i < t) (h : rfb L i t = some q) : gx L i = 38 ∧ i + 1 < q.2 ∧ q.2 ≤ t ∧ q.2 ≤ i + 10 ∧ 32 ≤ q.1 ∧ q.1 ≤ 126 := by
  have hm := nmin_bd t (i + 10)
  have hg := fw_bd (p := nev 59) (L := L) (f := i + 1) (t := Nat.min t (i + 10)) (by omega)
  by_cases h1 : gx L i = 38
  · by_cases h2 : fw (nev 59) L (i + 1) (Nat.min t (i + 10)) = Nat.min t (i + 10)
    · rw [rfb_n2 h2] at h; cases h
    · cases e : refd L (i + 1) (fw (nev 59) L (i + 1) (Nat.min t (i + 10))) with
      | none => rw [rfb_n3 e] at h; cases h
      | some v =>
        rw [rfb_s h1 h2 e] at h
        cases h
        have hv := refd_126 e
        exact ⟨h1, by show i + 1 < _ + 1; omega, by show _ + 1 ≤ t; omega, by show _ + 1 ≤ i + 10; omega, hv.1, hv.2⟩
  · rw [rfb_n1 h1] at h; cases h
theorem db_n (h : rfb L i t = none) : db L t i = [gx L i] := by unfold db; rw [h]
theorem db_s (h : rfb L i t = some q) : db L t i = [nI q.1] := by unfold db; rw [h]
theorem da_n (h : rfb L i t = none) : da L t i = 1 := by unfold da; rw [h]
theorem da_s (h : rfb L i t = some q) : da L t i = q.2 - i := by unfold da; rw [h]
theorem da_1 : ∀ i, i < t → 1 ≤ da L t i := fun i hi => by
  cases e : rfb L i t with
  | none => rw [da_n e]; exact Nat.le_refl _
  | some q => rw [da_s e]; have := rfb_i hi e; omega
theorem dcd_nil {f : Nat} (h : t ≤ f) : dcd L f t = [] := xp_stop _ h
theorem dcd_step (h : i < t) : dcd L i t = db L t i ++ dcd L (i + da L t i) t := xp_step da_1 h
theorem dcd_len : ∀ (n f : Nat), t - f ≤ n → (dcd L f t).length ≤ t - f
  | 0, f, h => by rw [dcd_nil (by omega)]; exact Nat.zero_le _
  | n + 1, f, h => by
    by_cases hf : f < t
    · have h1 := da_1 (L := L) f hf
      have h2 := dcd_len n (f + da L t f) (by omega)
      have h3 : (db L t f).length = 1 := by unfold db; split <;> rfl
      have h4 : f + da L t f ≤ t := by
        cases e : rfb L f t with
        | none => rw [da_n e]; omega
        | some q => rw [da_s e]; have := rfb_i hf e; omega
      rw [dcd_step hf, List.length_append]
      omega
    · rw [dcd_nil (by omega)]; exact Nat.zero_le _
end DD

section DEC
variable {X : am_X} {d a c s f t pl : Nat} {L : List Int32} {v0 v1 v2 v3 v4 : Value}
theorem l_P_decode (hbt : ∀ j, bt (gx L j)) (ht : t ≤ L.length) : ∀ (m i b cap : Nat) (h : List va_E) (R : List Int32), t - i ≤ m → i ≤ t → h[a]? = some (.inr (3, [v0, v1, v2, v3, v4, .ref pl])) → isB h pl b cap R → tt h c s L → b ≠ c → R.length + (t - i) < 8388608 → am_G X mt_P_decode (d + 6) 10 [some (.ref a), some (.ref c), some (.int (nI (s + f))), some (.int (nI (s + t))), some (.int (nI (s + i))), none, none, none, none] [] h (fun r h1 => r = none ∧ toB h h1 pl b cap (R ++ dcd L i t))
  | 0, i, b, cap, h, R, hm, hi, hP, hB, hx, hbc, hl => by
    obtain rfl : i = t := by omega
    rw [dcd_nil (Nat.le_refl i), List.append_nil]
    obtain ⟨cp, g, hc1, hT, hs, hc⟩ := hx
    refine g_iload (pc := 10) dc_P_decode_10 rfl ?_
    refine g_iload_n (pc := 12) dc_P_decode_12 rfl ?_
    refine q_icmp_ge (pc := 13) (tgt := 124) (s + i) (s + i) dc_P_decode_13 (by omega) (by omega) rfl (fun hc13 => ?_) (fun hc => absurd hc (by omega))
    exact g_return dc_P_decode_124 rfl ⟨rfl, hB.rf⟩
  | m + 1, i, b, cap, h, R, hm, hi, hP, hB, hx, hbc, hl => by
    by_cases hit : i < t
    · have hx0 := hx
      have ha := hB.ha
      have hca := tt_ne hx hB
      have hap : a ≠ pl := fun e => by rw [e, ha] at hP; cases hP
      have hab : a ≠ b := fun e => by obtain ⟨g, q1, q2, -⟩ := hB; rw [e, q2] at hP; cases hP
      obtain ⟨cp, g, hc1, hT, hs, hc⟩ := hx
      have hst := dcd_step (L := L) hit
      refine g_iload (pc := 10) dc_P_decode_10 rfl ?_
      refine g_iload_n (pc := 12) dc_P_decode_12 rfl ?_
      refine q_icmp_ge (pc := 13) (tgt := 124) (s + i) (s + t) dc_P_decode_13 (by omega) (by omega) rfl (fun hc => absurd hc (by omega)) (fun hc13 => ?_)
      refine g_iconst (pc := 16) (v := (-1)) dc_P_decode_16 rfl ?_
      refine g_istore (pc := 17) dc_P_decode_17 (by decide) ?_
      show am_G X mt_P_decode _ 19 [some (.ref a), some (.ref c), some (.int (nI (s + f))), some (.int (nI (s + t))), some (.int (nI (s + i))), some (.int (-1)), none, none, none] [] _ _
      refine g_iload (pc := 19) dc_P_decode_19 rfl ?_
      refine g_iconst (pc := 21) (v := 1) dc_P_decode_21 rfl ?_
      refine g_iadd (pc := 22) (v := (nI (s + (i + 1)))) dc_P_decode_22 (q_as s i 1) ?_
      refine g_istore (pc := 23) dc_P_decode_23 (by decide) ?_
      show am_G X mt_P_decode _ 25 [some (.ref a), some (.ref c), some (.int (nI (s + f))), some (.int (nI (s + t))), some (.int (nI (s + i))), some (.int (-1)), some (.int (nI (s + (i + 1)))), none, none] [] _ _
      refine g_aload_n (pc := 25) dc_P_decode_25 rfl ?_
      refine g_iload (pc := 26) dc_P_decode_26 rfl ?_
      refine q_tx (pc := 28) i dc_P_decode_28 hc1 hT hs (by omega) hc ?_
      refine g_bipush (pc := 29) (v := 38) dc_P_decode_29 rfl ?_
      refine g_icmp_ne (pc := 31) (tgt := 95) dc_P_decode_31 rfl (fun hc31 => ?_) (fun hc31 => ?_)
      · refine g_aload_n (pc := 95) dc_P_decode_95 rfl ?_
        refine g_getfield (pc := 96) dc_P_decode_96 fl_P_39 hP rfl ?_
        refine g_iload (pc := 99) dc_P_decode_99 rfl ?_
        refine g_iconst (pc := 101) (v := (-1)) dc_P_decode_101 rfl ?_
        refine g_icmp_ne (pc := 102) (tgt := 112) dc_P_decode_102 rfl (fun hc => absurd hc (by decide)) (fun _ => ?_)
        refine g_aload_n (pc := 105) dc_P_decode_105 rfl ?_
        refine g_iload (pc := 106) dc_P_decode_106 rfl ?_
        refine q_tx (pc := 108) i dc_P_decode_108 hc1 hT hs (by omega) hc ?_
        refine g_goto (pc := 109) (tgt := 114) dc_P_decode_109 rfl ?_
        refine g_v1 (pc := 114) (M' := mt_B_put) dc_P_decode_114 mo_B_put im_B_put se_B_put ln_P_131 ha rfl rfl (Nat.le_of_ble_eq_true rfl) (Nat.le_of_ble_eq_true rfl) (am_G.mono (c_B_put (d := d + 3) (v := (gx L i)) hB (by omega)) ?_)
        intro r h1 hq
        obtain ⟨rfl, b1, cap1, p1, c1, m1⟩ := hq
        refine ⟨am_nt0, ?_⟩
        refine g_iload (pc := 117) dc_P_decode_117 rfl ?_
        refine g_istore (pc := 119) dc_P_decode_119 (by decide) ?_
        show am_G X mt_P_decode _ 121 [some (.ref a), some (.ref c), some (.int (nI (s + f))), some (.int (nI (s + t))), some (.int (nI (s + (i + 1)))), some (.int (-1)), some (.int (nI (s + (i + 1)))), none, none] [] _ _
        refine g_goto (pc := 121) (tgt := 10) dc_P_decode_121 rfl ?_
        have hrf : rfb L i t = none := rfb_n1 hc31
        rw [db_n hrf, da_n hrf] at hst
        have hy1 := tt_ch hx0 c1 hca (Ne.symm hbc)
        have hn1 : c ≠ b1 := by have h9 := c1.2.1; have h8 := tt_lt hx0; omega
        have hP1 : h1[a]? = some (.inr (3, [v0, v1, v2, v3, v4, .ref pl])) := (c1.1.2 a (am_lt hP) hap hab).trans hP
        refine am_wk (am_le_s (am_le_s (am_le_s (am_le_s (am_le_s (am_le_n (am_le_n (am_le_n (am_le_n am_le_0))))))))) ?_
        refine am_G.mono (l_P_decode hbt ht m (i + 1) b1 cap1 h1 (R ++ [by8 (gx L i)]) (by omega) (by omega) hP1 p1 hy1 (Ne.symm hn1) (by rw [show (R ++ [by8 (gx L i)]).length = R.length + 1 by simp]; omega)) (fun r h9 hq => ⟨hq.1, ?_⟩)
        have e9 : R ++ dcd L i t = (R ++ [by8 (gx L i)]) ++ dcd L (i + 1) t := by rw [hst]; simp [by8_bt (hbt i)]
        rw [e9]
        exact toB.step c1 m1 (by simp) hq.2
      · refine g_iload_n (pc := 34) dc_P_decode_34 rfl ?_
        refine g_iload (pc := 35) dc_P_decode_35 rfl ?_
        refine g_bipush (pc := 37) (v := 10) dc_P_decode_37 rfl ?_
        refine g_iadd (pc := 39) (v := (nI (s + (i + 10)))) dc_P_decode_39 (q_as s i 10) ?_
        refine g_s2 (pc := 40) (M' := mt_JMath_min) dc_P_decode_40 mo_JMath_min st_JMath_min ln_P_138 (Nat.le_of_ble_eq_true rfl) (Nat.le_of_ble_eq_true rfl) (am_G.mono (t_min (s := s) (x := t) (y := i + 10) (by omega) (by omega)) ?_)
        intro r h1 hq
        rw [hq.1, hq.2]
        clear hq h1 r
        refine ⟨am_nti _, ?_⟩
        have hb40 := nmin_bd t (i + 10)
        refine g_istore (pc := 43) dc_P_decode_43 (by decide) ?_
        show am_G X mt_P_decode _ 45 [some (.ref a), some (.ref c), some (.int (nI (s + f))), some (.int (nI (s + t))), some (.int (nI (s + i))), some (.int (-1)), some (.int (nI (s + (i + 1)))), some (.int (nI (s + (Nat.min t (i + 10))))), none] [] _ _
        refine g_aload_n (pc := 45) dc_P_decode_45 rfl ?_
        refine g_bipush (pc := 46) (v := 59) dc_P_decode_46 rfl ?_
        refine g_iload (pc := 48) dc_P_decode_48 rfl ?_
        refine g_iload (pc := 50) dc_P_decode_50 rfl ?_
        refine g_s4 (pc := 52) (M' := mt_W_indexOf) dc_P_decode_52 mo_W_indexOf st_W_indexOf ln_P_144 (Nat.le_of_ble_eq_true rfl) (Nat.le_of_ble_eq_true rfl) (am_G.mono (t_W_indexOf (v := 59) (f := i + 1) (t := Nat.min t (i + 10)) hx0 (by omega) (by omega)) ?_)
        intro r h1 hq
        rw [hq.1, hq.2]
        clear hq h1 r
        refine ⟨am_nti _, ?_⟩
        have hb52 := fw_bd (p := nev 59) (L := L) (f := i + 1) (t := Nat.min t (i + 10)) (by omega)
        refine g_istore (pc := 55) dc_P_decode_55 (by decide) ?_
        show am_G X mt_P_decode _ 57 [some (.ref a), some (.ref c), some (.int (nI (s + f))), some (.int (nI (s + t))), some (.int (nI (s + i))), some (.int (-1)), some (.int (nI (s + (i + 1)))), some (.int (nI (s + (Nat.min t (i + 10))))), some (.int (nI (s + (fw (nev 59) L (i + 1) (Nat.min t (i + 10))))))] [] _ _
        refine g_iload (pc := 57) dc_P_decode_57 rfl ?_
        refine g_iload (pc := 59) dc_P_decode_59 rfl ?_
        refine q_icmp_ne (pc := 61) (tgt := 68) (s + (fw (nev 59) L (i + 1) (Nat.min t (i + 10)))) (s + (Nat.min t (i + 10))) dc_P_decode_61 (by omega) (by omega) rfl (fun hc61 => ?_) (fun hc61 => ?_)
        · refine g_aload_n (pc := 68) dc_P_decode_68 rfl ?_
          refine g_iload (pc := 69) dc_P_decode_69 rfl ?_
          refine g_iload (pc := 71) dc_P_decode_71 rfl ?_
          refine g_s3 (pc := 73) (M' := mt_P_referenced) dc_P_decode_73 mo_P_referenced st_P_referenced ln_P_148 (Nat.le_of_ble_eq_true rfl) (Nat.le_of_ble_eq_true rfl) (am_G.mono (t_P_referenced (d := d) (f := i + 1) (t := fw (nev 59) L (i + 1) (Nat.min t (i + 10))) hx0 (by omega) (by omega)) ?_)
          intro r h1 hq
          rw [hq.1, hq.2]
          clear hq h1 r
          refine ⟨am_nti _, ?_⟩
          refine g_istore (pc := 76) dc_P_decode_76 (by decide) ?_
          show am_G X mt_P_decode _ 78 [some (.ref a), some (.ref c), some (.int (nI (s + f))), some (.int (nI (s + t))), some (.int (nI (s + i))), some (.int (er (refd L (i + 1) (fw (nev 59) L (i + 1) (Nat.min t (i + 10)))))), some (.int (nI (s + (i + 1)))), some (.int (nI (s + (Nat.min t (i + 10))))), some (.int (nI (s + (fw (nev 59) L (i + 1) (Nat.min t (i + 10))))))] [] _ _
          refine g_iload (pc := 78) dc_P_decode_78 rfl ?_
          refine g_iconst (pc := 80) (v := (-1)) dc_P_decode_80 rfl ?_
          refine q_o_ne (pc := 81) (tgt := 89) dc_P_decode_81 refd_b rfl (fun k81 hc81 => ?_) (fun hc81 => ?_)
          · rw [hc81]
            rw [show er (some k81) = nI k81 from rfl]
            have hk81 := refd_b k81 hc81
            refine g_iload (pc := 89) dc_P_decode_89 rfl ?_
            refine g_iconst (pc := 91) (v := 1) dc_P_decode_91 rfl ?_
            refine g_iadd (pc := 92) (v := (nI (s + (fw (nev 59) L (i + 1) (Nat.min t (i + 10)) + 1)))) dc_P_decode_92 (q_as s (fw (nev 59) L (i + 1) (Nat.min t (i + 10))) 1) ?_
            refine g_istore (pc := 93) dc_P_decode_93 (by decide) ?_
            show am_G X mt_P_decode _ 95 [some (.ref a), some (.ref c), some (.int (nI (s + f))), some (.int (nI (s + t))), some (.int (nI (s + i))), some (.int (nI k81)), some (.int (nI (s + (fw (nev 59) L (i + 1) (Nat.min t (i + 10)) + 1)))), some (.int (nI (s + (Nat.min t (i + 10))))), some (.int (nI (s + (fw (nev 59) L (i + 1) (Nat.min t (i + 10))))))] [] _ _
            refine g_aload_n (pc := 95) dc_P_decode_95 rfl ?_
            refine g_getfield (pc := 96) dc_P_decode_96 fl_P_39 hP rfl ?_
            refine g_iload (pc := 99) dc_P_decode_99 rfl ?_
            refine g_iconst (pc := 101) (v := (-1)) dc_P_decode_101 rfl ?_
            refine g_icmp_ne (pc := 102) (tgt := 112) dc_P_decode_102 rfl (fun _ => ?_) (fun hc => absurd hc (q_nem1 (by omega)))
            refine g_iload (pc := 112) dc_P_decode_112 rfl ?_
            refine g_v1 (pc := 114) (M' := mt_B_put) dc_P_decode_114 mo_B_put im_B_put se_B_put ln_P_131 ha rfl rfl (Nat.le_of_ble_eq_true rfl) (Nat.le_of_ble_eq_true rfl) (am_G.mono (c_B_put (d := d + 3) (v := (nI k81)) hB (by omega)) ?_)
            intro r h1 hq
            obtain ⟨rfl, b1, cap1, p1, c1, m1⟩ := hq
            refine ⟨am_nt0, ?_⟩
            refine g_iload (pc := 117) dc_P_decode_117 rfl ?_
            refine g_istore (pc := 119) dc_P_decode_119 (by decide) ?_
            show am_G X mt_P_decode _ 121 [some (.ref a), some (.ref c), some (.int (nI (s + f))), some (.int (nI (s + t))), some (.int (nI (s + (fw (nev 59) L (i + 1) (Nat.min t (i + 10)) + 1)))), some (.int (nI k81)), some (.int (nI (s + (fw (nev 59) L (i + 1) (Nat.min t (i + 10)) + 1)))), some (.int (nI (s + (Nat.min t (i + 10))))), some (.int (nI (s + (fw (nev 59) L (i + 1) (Nat.min t (i + 10))))))] [] _ _
            refine g_goto (pc := 121) (tgt := 10) dc_P_decode_121 rfl ?_
            have hrf := rfb_s (t := t) hc31 (by omega) hc81
            have hri := rfb_i hit hrf
            have hri1 : 32 ≤ k81 ∧ k81 ≤ 126 := ⟨hri.2.2.2.2.1, hri.2.2.2.2.2⟩
            have hri2 : fw (nev 59) L (i + 1) (Nat.min t (i + 10)) + 1 ≤ t := hri.2.2.1
            rw [db_s hrf, da_s hrf] at hst
            simp only at hst
            rw [show i + (fw (nev 59) L (i + 1) (Nat.min t (i + 10)) + 1 - i) = fw (nev 59) L (i + 1) (Nat.min t (i + 10)) + 1 by omega] at hst
            have hy1 := tt_ch hx0 c1 hca (Ne.symm hbc)
            have hn1 : c ≠ b1 := by have h9 := c1.2.1; have h8 := tt_lt hx0; omega
            have hP1 : h1[a]? = some (.inr (3, [v0, v1, v2, v3, v4, .ref pl])) := (c1.1.2 a (am_lt hP) hap hab).trans hP
            refine am_wk (am_le_s (am_le_s (am_le_s (am_le_s (am_le_s (am_le_n (am_le_n (am_le_n (am_le_n am_le_0))))))))) ?_
            refine am_G.mono (l_P_decode hbt ht m (fw (nev 59) L (i + 1) (Nat.min t (i + 10)) + 1) b1 cap1 h1 (R ++ [by8 (nI k81)]) (by omega) (by omega) hP1 p1 hy1 (Ne.symm hn1) (by rw [show (R ++ [by8 (nI k81)]).length = R.length + 1 by simp]; omega)) (fun r h9 hq => ⟨hq.1, ?_⟩)
            have e9 : R ++ dcd L i t = (R ++ [by8 (nI k81)]) ++ dcd L (fw (nev 59) L (i + 1) (Nat.min t (i + 10)) + 1) t := by rw [hst]; simp [by8_bt (bt_nI (show k81 < 128 by omega))]
            rw [e9]
            exact toB.step c1 m1 (by simp) hq.2
          · rw [hc81]
            refine g_iload (pc := 84) dc_P_decode_84 rfl ?_
            refine g_goto (pc := 86) (tgt := 93) dc_P_decode_86 rfl ?_
            refine g_istore (pc := 93) dc_P_decode_93 (by decide) ?_
            show am_G X mt_P_decode _ 95 [some (.ref a), some (.ref c), some (.int (nI (s + f))), some (.int (nI (s + t))), some (.int (nI (s + i))), some (.int (-1)), some (.int (nI (s + (i + 1)))), some (.int (nI (s + (Nat.min t (i + 10))))), some (.int (nI (s + (fw (nev 59) L (i + 1) (Nat.min t (i + 10))))))] [] _ _
            refine g_aload_n (pc := 95) dc_P_decode_95 rfl ?_
            refine g_getfield (pc := 96) dc_P_decode_96 fl_P_39 hP rfl ?_
            refine g_iload (pc := 99) dc_P_decode_99 rfl ?_
            refine g_iconst (pc := 101) (v := (-1)) dc_P_decode_101 rfl ?_
            refine g_icmp_ne (pc := 102) (tgt := 112) dc_P_decode_102 rfl (fun hc => absurd hc (by decide)) (fun _ => ?_)
            refine g_aload_n (pc := 105) dc_P_decode_105 rfl ?_
            refine g_iload (pc := 106) dc_P_decode_106 rfl ?_
            refine q_tx (pc := 108) i dc_P_decode_108 hc1 hT hs (by omega) hc ?_
            refine g_goto (pc := 109) (tgt := 114) dc_P_decode_109 rfl ?_
            refine g_v1 (pc := 114) (M' := mt_B_put) dc_P_decode_114 mo_B_put im_B_put se_B_put ln_P_131 ha rfl rfl (Nat.le_of_ble_eq_true rfl) (Nat.le_of_ble_eq_true rfl) (am_G.mono (c_B_put (d := d + 3) (v := (gx L i)) hB (by omega)) ?_)
            intro r h1 hq
            obtain ⟨rfl, b1, cap1, p1, c1, m1⟩ := hq
            refine ⟨am_nt0, ?_⟩
            refine g_iload (pc := 117) dc_P_decode_117 rfl ?_
            refine g_istore (pc := 119) dc_P_decode_119 (by decide) ?_
            show am_G X mt_P_decode _ 121 [some (.ref a), some (.ref c), some (.int (nI (s + f))), some (.int (nI (s + t))), some (.int (nI (s + (i + 1)))), some (.int (-1)), some (.int (nI (s + (i + 1)))), some (.int (nI (s + (Nat.min t (i + 10))))), some (.int (nI (s + (fw (nev 59) L (i + 1) (Nat.min t (i + 10))))))] [] _ _
            refine g_goto (pc := 121) (tgt := 10) dc_P_decode_121 rfl ?_
            have hrf : rfb L i t = none := rfb_n3 hc81
            rw [db_n hrf, da_n hrf] at hst
            have hy1 := tt_ch hx0 c1 hca (Ne.symm hbc)
            have hn1 : c ≠ b1 := by have h9 := c1.2.1; have h8 := tt_lt hx0; omega
            have hP1 : h1[a]? = some (.inr (3, [v0, v1, v2, v3, v4, .ref pl])) := (c1.1.2 a (am_lt hP) hap hab).trans hP
            refine am_wk (am_le_s (am_le_s (am_le_s (am_le_s (am_le_s (am_le_n (am_le_n (am_le_n (am_le_n am_le_0))))))))) ?_
            refine am_G.mono (l_P_decode hbt ht m (i + 1) b1 cap1 h1 (R ++ [by8 (gx L i)]) (by omega) (by omega) hP1 p1 hy1 (Ne.symm hn1) (by rw [show (R ++ [by8 (gx L i)]).length = R.length + 1 by simp]; omega)) (fun r h9 hq => ⟨hq.1, ?_⟩)
            have e9 : R ++ dcd L i t = (R ++ [by8 (gx L i)]) ++ dcd L (i + 1) t := by rw [hst]; simp [by8_bt (hbt i)]
            rw [e9]
            exact toB.step c1 m1 (by simp) hq.2
        · refine g_iconst (pc := 64) (v := (-1)) dc_P_decode_64 rfl ?_
          refine g_goto (pc := 65) (tgt := 76) dc_P_decode_65 rfl ?_
          refine g_istore (pc := 76) dc_P_decode_76 (by decide) ?_
          show am_G X mt_P_decode _ 78 [some (.ref a), some (.ref c), some (.int (nI (s + f))), some (.int (nI (s + t))), some (.int (nI (s + i))), some (.int (-1)), some (.int (nI (s + (i + 1)))), some (.int (nI (s + (Nat.min t (i + 10))))), some (.int (nI (s + (fw (nev 59) L (i + 1) (Nat.min t (i + 10))))))] [] _ _
          refine g_iload (pc := 78) dc_P_decode_78 rfl ?_
          refine g_iconst (pc := 80) (v := (-1)) dc_P_decode_80 rfl ?_
          refine g_icmp_ne (pc := 81) (tgt := 89) dc_P_decode_81 rfl (fun hc => absurd hc (by decide)) (fun _ => ?_)
          refine g_iload (pc := 84) dc_P_decode_84 rfl ?_
          refine g_goto (pc := 86) (tgt := 93) dc_P_decode_86 rfl ?_
          refine g_istore (pc := 93) dc_P_decode_93 (by decide) ?_
          show am_G X mt_P_decode _ 95 [some (.ref a), some (.ref c), some (.int (nI (s + f))), some (.int (nI (s + t))), some (.int (nI (s + i))), some (.int (-1)), some (.int (nI (s + (i + 1)))), some (.int (nI (s + (Nat.min t (i + 10))))), some (.int (nI (s + (fw (nev 59) L (i + 1) (Nat.min t (i + 10))))))] [] _ _
          refine g_aload_n (pc := 95) dc_P_decode_95 rfl ?_
          refine g_getfield (pc := 96) dc_P_decode_96 fl_P_39 hP rfl ?_
          refine g_iload (pc := 99) dc_P_decode_99 rfl ?_
          refine g_iconst (pc := 101) (v := (-1)) dc_P_decode_101 rfl ?_
          refine g_icmp_ne (pc := 102) (tgt := 112) dc_P_decode_102 rfl (fun hc => absurd hc (by decide)) (fun _ => ?_)
          refine g_aload_n (pc := 105) dc_P_decode_105 rfl ?_
          refine g_iload (pc := 106) dc_P_decode_106 rfl ?_
          refine q_tx (pc := 108) i dc_P_decode_108 hc1 hT hs (by omega) hc ?_
          refine g_goto (pc := 109) (tgt := 114) dc_P_decode_109 rfl ?_
          refine g_v1 (pc := 114) (M' := mt_B_put) dc_P_decode_114 mo_B_put im_B_put se_B_put ln_P_131 ha rfl rfl (Nat.le_of_ble_eq_true rfl) (Nat.le_of_ble_eq_true rfl) (am_G.mono (c_B_put (d := d + 3) (v := (gx L i)) hB (by omega)) ?_)
          intro r h1 hq
          obtain ⟨rfl, b1, cap1, p1, c1, m1⟩ := hq
          refine ⟨am_nt0, ?_⟩
          refine g_iload (pc := 117) dc_P_decode_117 rfl ?_
          refine g_istore (pc := 119) dc_P_decode_119 (by decide) ?_
          show am_G X mt_P_decode _ 121 [some (.ref a), some (.ref c), some (.int (nI (s + f))), some (.int (nI (s + t))), some (.int (nI (s + (i + 1)))), some (.int (-1)), some (.int (nI (s + (i + 1)))), some (.int (nI (s + (Nat.min t (i + 10))))), some (.int (nI (s + (fw (nev 59) L (i + 1) (Nat.min t (i + 10))))))] [] _ _
          refine g_goto (pc := 121) (tgt := 10) dc_P_decode_121 rfl ?_
          have hrf : rfb L i t = none := rfb_n2 (by omega)
          rw [db_n hrf, da_n hrf] at hst
          have hy1 := tt_ch hx0 c1 hca (Ne.symm hbc)
          have hn1 : c ≠ b1 := by have h9 := c1.2.1; have h8 := tt_lt hx0; omega
          have hP1 : h1[a]? = some (.inr (3, [v0, v1, v2, v3, v4, .ref pl])) := (c1.1.2 a (am_lt hP) hap hab).trans hP
          refine am_wk (am_le_s (am_le_s (am_le_s (am_le_s (am_le_s (am_le_n (am_le_n (am_le_n (am_le_n am_le_0))))))))) ?_
          refine am_G.mono (l_P_decode hbt ht m (i + 1) b1 cap1 h1 (R ++ [by8 (gx L i)]) (by omega) (by omega) hP1 p1 hy1 (Ne.symm hn1) (by rw [show (R ++ [by8 (gx L i)]).length = R.length + 1 by simp]; omega)) (fun r h9 hq => ⟨hq.1, ?_⟩)
          have e9 : R ++ dcd L i t = (R ++ [by8 (gx L i)]) ++ dcd L (i + 1) t := by rw [hst]; simp [by8_bt (hbt i)]
          rw [e9]
          exact toB.step c1 m1 (by simp) hq.2
    · obtain rfl : i = t := by omega
      rw [dcd_nil (Nat.le_refl i), List.append_nil]
      obtain ⟨cp, g, hc1, hT, hs, hc⟩ := hx
      refine g_iload (pc := 10) dc_P_decode_10 rfl ?_
      refine g_iload_n (pc := 12) dc_P_decode_12 rfl ?_
      refine q_icmp_ge (pc := 13) (tgt := 124) (s + i) (s + i) dc_P_decode_13 (by omega) (by omega) rfl (fun hc13 => ?_) (fun hc => absurd hc (by omega))
      exact g_return dc_P_decode_124 rfl ⟨rfl, hB.rf⟩
end DEC
