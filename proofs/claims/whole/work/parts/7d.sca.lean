/-! ===== the class's scanner: attributes, tags ===== -/
def aE (L : List Int32) (p : Nat) : Nat := fw anB L (p + 1) L.length
def aG (L : List Int32) (p : Nat) : Nat := fw isBl L (aE L p) L.length
def aV (L : List Int32) (p : Nat) : Nat := fw isBl L (aG L p + 1) L.length
def aQ (L : List Int32) (p : Nat) : Nat := fw (nev (gx L (aV L p))) L (aV L p + 1) L.length
def aB (L : List Int32) (p : Nat) : Nat := fw bvB L (aV L p) L.length
/-- an attribute that begins at p: where it ends, and its value from, to -/
def atr (L : List Int32) (p : Nat) : Nat × Nat × Nat := if aG L p < L.length ∧ gx L (aG L p) = 61 then (if aV L p < L.length ∧ (gx L (aV L p) = 34 ∨ gx L (aV L p) = 39) then (Nat.min (aQ L p + 1) L.length, aV L p + 1, aQ L p) else (aB L p, aV L p, aB L p)) else (aE L p, aE L p, aE L p)
/-- the first href counts -/
def hqT (L : List Int32) (p e vf vt : Nat) (hq : Option (Nat × Nat)) : Option (Nat × Nat) := match hq with
  | some q => some q
  | none => if isw 20 L p e = true then some (vf, vt) else none
def hto (s : Nat) (hq : Option (Nat × Nat)) (w2 : Int32) : Int32 := match hq with
  | some q => nI (s + q.2)
  | none => w2
def sC (w0 : Int32) (hq : Option (Nat × Nat)) (w2 : Int32) (s p c n : Nat) (w6 w7 w8 : Int32) : va_E := .inr (5, [.int w0, .int (er (hq.map (fun q => s + q.1))), .int (hto s hq w2), .int (nI (s + p)), .ref c, .int (nI (s + n)), .int w6, .int w7, .int w8])
theorem atr_bd {L : List Int32} {p : Nat} (hp : p < L.length) : p < (atr L p).1 ∧ (atr L p).1 ≤ L.length ∧ (atr L p).2.1 ≤ (atr L p).2.2 ∧ (atr L p).2.2 ≤ L.length := by
  have h1 := fw_bd (p := anB) (L := L) (f := p + 1) (t := L.length) (by omega)
  have h2 := fw_bd (p := isBl) (L := L) (f := aE L p) (t := L.length) h1.2
  rw [show fw anB L (p + 1) L.length = aE L p from rfl] at h1
  rw [show fw isBl L (aE L p) L.length = aG L p from rfl] at h2
  unfold atr
  by_cases h3 : aG L p < L.length ∧ gx L (aG L p) = 61
  · rw [if_pos h3]
    have h4 := fw_bd (p := isBl) (L := L) (f := aG L p + 1) (t := L.length) (by omega)
    rw [show fw isBl L (aG L p + 1) L.length = aV L p from rfl] at h4
    by_cases h5 : aV L p < L.length ∧ (gx L (aV L p) = 34 ∨ gx L (aV L p) = 39)
    · rw [if_pos h5]
      have h6 := fw_bd (p := nev (gx L (aV L p))) (L := L) (f := aV L p + 1) (t := L.length) (by omega)
      rw [show fw (nev (gx L (aV L p))) L (aV L p + 1) L.length = aQ L p from rfl] at h6
      have h7 := nmin_bd (aQ L p + 1) L.length
      show p < Nat.min (aQ L p + 1) L.length ∧ Nat.min (aQ L p + 1) L.length ≤ L.length ∧ aV L p + 1 ≤ aQ L p ∧ aQ L p ≤ L.length
      omega
    · rw [if_neg h5]
      have h6 := fw_bd (p := bvB) (L := L) (f := aV L p) (t := L.length) (by omega)
      rw [show fw bvB L (aV L p) L.length = aB L p from rfl] at h6
      show p < aB L p ∧ aB L p ≤ L.length ∧ aV L p ≤ aB L p ∧ aB L p ≤ L.length
      omega
  · rw [if_neg h3]
    show p < aE L p ∧ aE L p ≤ L.length ∧ aE L p ≤ aE L p ∧ aE L p ≤ L.length
    omega
section SCA
variable {X : am_X} {d a c s p e vf vt p1 : Nat} {h : List va_E} {L : List Int32} {w0 w2 w6 w7 w8 : Int32} {hq : Option (Nat × Nat)}
theorem u_S_passAttribute (hal : a < h.length) (hx : tt h c s L) (hac : a ≠ c) (hp : p ≤ e) (he : e ≤ L.length) (hqb : ∀ q, hq = some q → q.1 ≤ q.2 ∧ q.2 ≤ L.length) : am_G X mt_S_passAttribute (d + 5) 187 [some (.ref a), some (.int (nI (s + p))), some (.int (nI (s + e))), some (.int (nI (s + vf))), some (.int (nI (s + vt))), none, none] [] (h.set a (sC w0 hq w2 s p1 c L.length w6 w7 w8)) (fun r h1 => r = none ∧ h1 = h.set a (sC w0 (hqT L p e vf vt hq) w2 s p1 c L.length w6 w7 w8)) := by
  have hx0 := hx
  obtain ⟨cap, g, ha, hT, hs, hc⟩ := hx
  cases hq with
  | some q =>
    have hqb1 := hqb q rfl
    show am_G X mt_S_passAttribute (d + 5) 187 _ [] (h.set a (.inr (5, [.int w0, .int (nI (s + q.1)), .int (nI (s + q.2)), .int (nI (s + p1)), .ref c, .int (nI (s + L.length)), .int w6, .int w7, .int w8]))) _
    refine g_aload_n (pc := 187) dc_S_passAttribute_187 rfl ?_
    refine g_getfield (pc := 188) dc_S_passAttribute_188 fl_S_25 (am_se hal) rfl ?_
    refine g_iconst (pc := 191) (v := (-1)) dc_S_passAttribute_191 rfl ?_
    refine g_icmp_ne (pc := 192) (tgt := 220) dc_S_passAttribute_192 rfl (fun _ => ?_) (fun hc => absurd hc (q_nem1 (by omega)))
    exact g_return dc_S_passAttribute_220 rfl ⟨rfl, rfl⟩
  | none =>
    show am_G X mt_S_passAttribute (d + 5) 187 _ [] (h.set a (.inr (5, [.int w0, .int (-1), .int w2, .int (nI (s + p1)), .ref c, .int (nI (s + L.length)), .int w6, .int w7, .int w8]))) _
    refine g_aload_n (pc := 187) dc_S_passAttribute_187 rfl ?_
    refine g_getfield (pc := 188) dc_S_passAttribute_188 fl_S_25 (am_se hal) rfl ?_
    refine g_iconst (pc := 191) (v := (-1)) dc_S_passAttribute_191 rfl ?_
    refine g_icmp_ne (pc := 192) (tgt := 220) dc_S_passAttribute_192 rfl (fun hc => absurd hc (by decide)) (fun _ => ?_)
    refine g_aload_n (pc := 195) dc_S_passAttribute_195 rfl ?_
    refine g_getfield (pc := 196) dc_S_passAttribute_196 fl_S_9 (am_se hal) rfl ?_
    refine g_iload_n (pc := 199) dc_S_passAttribute_199 rfl ?_
    refine g_iload_n (pc := 200) dc_S_passAttribute_200 rfl ?_
    refine g_ldcS (pc := 201) 20 dc_S_passAttribute_201 (by decide) rfl rfl ?_
    refine g_s4 (pc := 203) (M' := mt_W_isLower) dc_S_passAttribute_203 mo_W_isLower st_W_isLower ln_S_49 (Nat.le_of_ble_eq_true rfl) (Nat.le_of_ble_eq_true rfl) (am_G.mono (t_W_isLower (f := p) (t := e) (i := 20) (tt_set hx0 hac) (by decide) (by omega) (by omega)) ?_)
    intro r h1 hq
    rw [hq.1, hq.2]
    clear hq h1 r
    refine ⟨am_nti _, ?_⟩
    refine q_ifb_eq (pc := 206) (tgt := 220) dc_S_passAttribute_206 rfl (fun hc206 => ?_) (fun hc206 => ?_)
    · exact g_return dc_S_passAttribute_220 rfl ⟨rfl, by rw [show hqT L p e vf vt none = none from if_neg (by rw [hc206]; decide)]; rfl⟩
    · refine g_aload_n (pc := 209) dc_S_passAttribute_209 rfl ?_
      refine g_iload_n (pc := 210) dc_S_passAttribute_210 rfl ?_
      refine g_putfield (pc := 211) dc_S_passAttribute_211 fp_S_passAttribute_25 (am_se hal) (Nat.le_of_ble_eq_true rfl) rfl rfl ?_
      rw [List.set_set]
      show am_G X _ _ _ _ _ (h.set a (.inr (5, [.int w0, .int (nI (s + vf)), .int w2, .int (nI (s + p1)), .ref c, .int (nI (s + L.length)), .int w6, .int w7, .int w8]))) _
      refine g_aload_n (pc := 214) dc_S_passAttribute_214 rfl ?_
      refine g_iload (pc := 215) dc_S_passAttribute_215 rfl ?_
      refine g_putfield (pc := 217) dc_S_passAttribute_217 fp_S_passAttribute_96 (am_se hal) (Nat.le_of_ble_eq_true rfl) rfl rfl ?_
      rw [List.set_set]
      show am_G X _ _ _ _ _ (h.set a (.inr (5, [.int w0, .int (nI (s + vf)), .int (nI (s + vt)), .int (nI (s + p1)), .ref c, .int (nI (s + L.length)), .int w6, .int w7, .int w8]))) _
      exact g_return dc_S_passAttribute_220 rfl ⟨rfl, by rw [show hqT L p e vf vt none = some (vf, vt) from if_pos hc206]; rfl⟩
theorem t_S_passAttribute (hal : a < h.length) (hx : tt h c s L) (hac : a ≠ c) (hp : p < L.length) (hqb : ∀ q, hq = some q → q.1 ≤ q.2 ∧ q.2 ≤ L.length) : am_C X mt_S_passAttribute (d + 5) [.ref a] (h.set a (sC w0 hq w2 s p c L.length w6 w7 w8)) (fun r h1 => r = none ∧ h1 = h.set a (sC w0 (hqT L p (aE L p) (atr L p).2.1 (atr L p).2.2 hq) w2 s (atr L p).1 c L.length w6 w7 w8)) := by
  have hx0 := hx
  obtain ⟨cap, g, ha, hT, hs, hc⟩ := hx
  show am_G X mt_S_passAttribute (d + 5) 0 [some (.ref a), none, none, none, none, none, none] [] (h.set a (.inr (5, [.int w0, .int (er (hq.map (fun q => s + q.1))), .int (hto s hq w2), .int (nI (s + p)), .ref c, .int (nI (s + L.length)), .int w6, .int w7, .int w8]))) _
  refine g_aload_n (pc := 0) dc_S_passAttribute_0 rfl ?_
  refine g_getfield (pc := 1) dc_S_passAttribute_1 fl_S_15 (am_se hal) rfl ?_
  refine g_istore_n (pc := 4) dc_S_passAttribute_4 (by decide) ?_
  show am_G X mt_S_passAttribute _ 5 [some (.ref a), some (.int (nI (s + p))), none, none, none, none, none] [] _ _
  refine g_aload_n (pc := 5) dc_S_passAttribute_5 rfl ?_
  refine g_aload_n (pc := 6) dc_S_passAttribute_6 rfl ?_
  refine g_getfield (pc := 7) dc_S_passAttribute_7 fl_S_15 (am_se hal) rfl ?_
  refine g_iconst (pc := 10) (v := 1) dc_S_passAttribute_10 rfl ?_
  refine g_iadd (pc := 11) (v := (nI (s + (p + 1)))) dc_S_passAttribute_11 (q_as s p 1) ?_
  refine g_v1 (pc := 12) (M' := mt_S_attributeNameEnd) dc_S_passAttribute_12 mo_S_attributeNameEnd im_S_attributeNameEnd se_S_attributeNameEnd ln_S_84 (am_se hal) rfl rfl (Nat.le_of_ble_eq_true rfl) (Nat.le_of_ble_eq_true rfl) (am_G.mono (t_S_attributeNameEnd (p := p) (f := p + 1) (am_se hal) (tt_set hx0 hac) (by omega)) ?_)
  intro r h1 hq
  rw [hq.1, hq.2]
  clear hq h1 r
  refine ⟨am_nti _, ?_⟩
  have hb12 := fw_bd (p := anB) (L := L) (f := p + 1) (t := L.length) (by omega)
  refine g_istore_n (pc := 15) dc_S_passAttribute_15 (by decide) ?_
  show am_G X mt_S_passAttribute _ 16 [some (.ref a), some (.int (nI (s + p))), some (.int (nI (s + (fw anB L (p + 1) L.length)))), none, none, none, none] [] _ _
  refine g_iload_n (pc := 16) dc_S_passAttribute_16 rfl ?_
  refine g_istore_n (pc := 17) dc_S_passAttribute_17 (by decide) ?_
  show am_G X mt_S_passAttribute _ 18 [some (.ref a), some (.int (nI (s + p))), some (.int (nI (s + (fw anB L (p + 1) L.length)))), some (.int (nI (s + (fw anB L (p + 1) L.length)))), none, none, none] [] _ _
  refine g_iload_n (pc := 18) dc_S_passAttribute_18 rfl ?_
  refine g_istore (pc := 19) dc_S_passAttribute_19 (by decide) ?_
  show am_G X mt_S_passAttribute _ 21 [some (.ref a), some (.int (nI (s + p))), some (.int (nI (s + (fw anB L (p + 1) L.length)))), some (.int (nI (s + (fw anB L (p + 1) L.length)))), some (.int (nI (s + (fw anB L (p + 1) L.length)))), none, none] [] _ _
  refine g_aload_n (pc := 21) dc_S_passAttribute_21 rfl ?_
  refine g_iload_n (pc := 22) dc_S_passAttribute_22 rfl ?_
  refine g_putfield (pc := 23) dc_S_passAttribute_23 fp_S_passAttribute_15 (am_se hal) (Nat.le_of_ble_eq_true rfl) rfl rfl ?_
  rw [List.set_set]
  show am_G X _ _ _ _ _ (h.set a (.inr (5, [.int w0, .int (er (hq.map (fun q => s + q.1))), .int (hto s hq w2), .int (nI (s + (fw anB L (p + 1) L.length))), .ref c, .int (nI (s + L.length)), .int w6, .int w7, .int w8]))) _
  refine g_aload_n (pc := 26) dc_S_passAttribute_26 rfl ?_
  refine g_getfield (pc := 27) dc_S_passAttribute_27 fl_S_9 (am_se hal) rfl ?_
  refine g_iload_n (pc := 30) dc_S_passAttribute_30 rfl ?_
  refine g_aload_n (pc := 31) dc_S_passAttribute_31 rfl ?_
  refine g_getfield (pc := 32) dc_S_passAttribute_32 fl_S_19 (am_se hal) rfl ?_
  refine g_s3 (pc := 35) (M' := mt_W_trimmedFrom) dc_S_passAttribute_35 mo_W_trimmedFrom st_W_trimmedFrom ln_S_87 (Nat.le_of_ble_eq_true rfl) (Nat.le_of_ble_eq_true rfl) (am_G.mono (t_W_trimmedFrom  (f := fw anB L (p + 1) L.length) (t := L.length) (tt_set hx0 hac) (by omega) (by omega)) ?_)
  intro r h1 hq
  rw [hq.1, hq.2]
  clear hq h1 r
  refine ⟨am_nti _, ?_⟩
  have hb35 := fw_bd (p := isBl) (L := L) (f := fw anB L (p + 1) L.length) (t := L.length) (by omega)
  refine g_istore (pc := 38) dc_S_passAttribute_38 (by decide) ?_
  show am_G X mt_S_passAttribute _ 40 [some (.ref a), some (.int (nI (s + p))), some (.int (nI (s + (fw anB L (p + 1) L.length)))), some (.int (nI (s + (fw anB L (p + 1) L.length)))), some (.int (nI (s + (fw anB L (p + 1) L.length)))), some (.int (nI (s + (fw isBl L (fw anB L (p + 1) L.length) L.length)))), none] [] _ _
  refine g_iload (pc := 40) dc_S_passAttribute_40 rfl ?_
  refine g_aload_n (pc := 42) dc_S_passAttribute_42 rfl ?_
  refine g_getfield (pc := 43) dc_S_passAttribute_43 fl_S_19 (am_se hal) rfl ?_
  refine q_icmp_ge (pc := 46) (tgt := 187) (s + (fw isBl L (fw anB L (p + 1) L.length) L.length)) (s + L.length) dc_S_passAttribute_46 (by omega) (by omega) rfl (fun hc46 => ?_) (fun hc46 => ?_)
  · refine am_wk (am_le_s (am_le_s (am_le_s (am_le_s (am_le_s (am_le_n (am_le_n am_le_0))))))) ?_
    refine am_G.mono (u_S_passAttribute (p := p) (e := fw anB L (p + 1) L.length) (vf := fw anB L (p + 1) L.length) (vt := fw anB L (p + 1) L.length) (p1 := fw anB L (p + 1) L.length) hal hx0 hac (by omega) (by omega) hqb) (fun r h1 hq9 => ⟨hq9.1, ?_⟩)
    rw [hq9.2]
    exact congrArg (fun z => h.set a (sC w0 (hqT L p (aE L p) z.2.1 z.2.2 hq) w2 s z.1 c L.length w6 w7 w8)) (show (fw anB L (p + 1) L.length, fw anB L (p + 1) L.length, fw anB L (p + 1) L.length) = atr L p from by
      unfold atr
      rw [if_neg (fun h9 => by have h8 : fw isBl L (fw anB L (p + 1) L.length) L.length < L.length := h9.1; omega)]
      rfl)
  · refine g_aload_n (pc := 49) dc_S_passAttribute_49 rfl ?_
    refine g_getfield (pc := 50) dc_S_passAttribute_50 fl_S_9 (am_se hal) rfl ?_
    refine g_iload (pc := 53) dc_S_passAttribute_53 rfl ?_
    refine q_tx (pc := 55) (fw isBl L (fw anB L (p + 1) L.length) L.length) dc_S_passAttribute_55 (am_sn hac ha) hT hs (by omega) hc ?_
    refine g_bipush (pc := 56) (v := 61) dc_S_passAttribute_56 rfl ?_
    refine g_icmp_ne (pc := 58) (tgt := 187) dc_S_passAttribute_58 rfl (fun hc58 => ?_) (fun hc58 => ?_)
    · refine am_wk (am_le_s (am_le_s (am_le_s (am_le_s (am_le_s (am_le_n (am_le_n am_le_0))))))) ?_
      refine am_G.mono (u_S_passAttribute (p := p) (e := fw anB L (p + 1) L.length) (vf := fw anB L (p + 1) L.length) (vt := fw anB L (p + 1) L.length) (p1 := fw anB L (p + 1) L.length) hal hx0 hac (by omega) (by omega) hqb) (fun r h1 hq9 => ⟨hq9.1, ?_⟩)
      rw [hq9.2]
      exact congrArg (fun z => h.set a (sC w0 (hqT L p (aE L p) z.2.1 z.2.2 hq) w2 s z.1 c L.length w6 w7 w8)) (show (fw anB L (p + 1) L.length, fw anB L (p + 1) L.length, fw anB L (p + 1) L.length) = atr L p from by
        unfold atr
        rw [if_neg (fun h9 => by have h8 : fw isBl L (fw anB L (p + 1) L.length) L.length < L.length := h9.1; exact hc58 h9.2)]
        rfl)
    · refine g_aload_n (pc := 61) dc_S_passAttribute_61 rfl ?_
      refine g_getfield (pc := 62) dc_S_passAttribute_62 fl_S_9 (am_se hal) rfl ?_
      refine g_iload (pc := 65) dc_S_passAttribute_65 rfl ?_
      refine g_iconst (pc := 67) (v := 1) dc_S_passAttribute_67 rfl ?_
      refine g_iadd (pc := 68) (v := (nI (s + (fw isBl L (fw anB L (p + 1) L.length) L.length + 1)))) dc_S_passAttribute_68 (q_as s (fw isBl L (fw anB L (p + 1) L.length) L.length) 1) ?_
      refine g_aload_n (pc := 69) dc_S_passAttribute_69 rfl ?_
      refine g_getfield (pc := 70) dc_S_passAttribute_70 fl_S_19 (am_se hal) rfl ?_
      refine g_s3 (pc := 73) (M' := mt_W_trimmedFrom) dc_S_passAttribute_73 mo_W_trimmedFrom st_W_trimmedFrom ln_S_87 (Nat.le_of_ble_eq_true rfl) (Nat.le_of_ble_eq_true rfl) (am_G.mono (t_W_trimmedFrom  (f := fw isBl L (fw anB L (p + 1) L.length) L.length + 1) (t := L.length) (tt_set hx0 hac) (by omega) (by omega)) ?_)
      intro r h1 hq
      rw [hq.1, hq.2]
      clear hq h1 r
      refine ⟨am_nti _, ?_⟩
      have hb73 := fw_bd (p := isBl) (L := L) (f := fw isBl L (fw anB L (p + 1) L.length) L.length + 1) (t := L.length) (by omega)
      refine g_istore_n (pc := 76) dc_S_passAttribute_76 (by decide) ?_
      show am_G X mt_S_passAttribute _ 77 [some (.ref a), some (.int (nI (s + p))), some (.int (nI (s + (fw anB L (p + 1) L.length)))), some (.int (nI (s + (fw isBl L (fw isBl L (fw anB L (p + 1) L.length) L.length + 1) L.length)))), some (.int (nI (s + (fw anB L (p + 1) L.length)))), some (.int (nI (s + (fw isBl L (fw anB L (p + 1) L.length) L.length)))), none] [] _ _
      refine g_iload_n (pc := 77) dc_S_passAttribute_77 rfl ?_
      refine g_aload_n (pc := 78) dc_S_passAttribute_78 rfl ?_
      refine g_getfield (pc := 79) dc_S_passAttribute_79 fl_S_19 (am_se hal) rfl ?_
      refine q_icmp_ge (pc := 82) (tgt := 111) (s + (fw isBl L (fw isBl L (fw anB L (p + 1) L.length) L.length + 1) L.length)) (s + L.length) dc_S_passAttribute_82 (by omega) (by omega) rfl (fun hc82 => ?_) (fun hc82 => ?_)
      · refine g_iconst (pc := 111) (v := 0) dc_S_passAttribute_111 rfl ?_
        refine g_istore (pc := 112) dc_S_passAttribute_112 (by decide) ?_
        show am_G X mt_S_passAttribute _ 114 [some (.ref a), some (.int (nI (s + p))), some (.int (nI (s + (fw anB L (p + 1) L.length)))), some (.int (nI (s + (fw isBl L (fw isBl L (fw anB L (p + 1) L.length) L.length + 1) L.length)))), some (.int (nI (s + (fw anB L (p + 1) L.length)))), some (.int (nI (s + (fw isBl L (fw anB L (p + 1) L.length) L.length)))), some (.int 0)] [] _ _
        refine g_iload (pc := 114) dc_S_passAttribute_114 rfl ?_
        refine g_if_eq (pc := 116) (tgt := 125) dc_S_passAttribute_116 rfl (fun _ => ?_) (fun hc => absurd hc (by decide))
        refine g_iload_n (pc := 125) dc_S_passAttribute_125 rfl ?_
        refine g_istore_n (pc := 126) dc_S_passAttribute_126 (by decide) ?_
        show am_G X mt_S_passAttribute _ 127 [some (.ref a), some (.int (nI (s + p))), some (.int (nI (s + (fw anB L (p + 1) L.length)))), some (.int (nI (s + (fw isBl L (fw isBl L (fw anB L (p + 1) L.length) L.length + 1) L.length)))), some (.int (nI (s + (fw anB L (p + 1) L.length)))), some (.int (nI (s + (fw isBl L (fw anB L (p + 1) L.length) L.length)))), some (.int 0)] [] _ _
        refine g_iload (pc := 127) dc_S_passAttribute_127 rfl ?_
        refine g_if_eq (pc := 129) (tgt := 155) dc_S_passAttribute_129 rfl (fun _ => ?_) (fun hc => absurd hc (by decide))
        refine g_aload_n (pc := 155) dc_S_passAttribute_155 rfl ?_
        refine g_iload_n (pc := 156) dc_S_passAttribute_156 rfl ?_
        refine g_v1 (pc := 157) (M' := mt_S_bareValueTo) dc_S_passAttribute_157 mo_S_bareValueTo im_S_bareValueTo se_S_bareValueTo ln_S_91 (am_se hal) rfl rfl (Nat.le_of_ble_eq_true rfl) (Nat.le_of_ble_eq_true rfl) (am_G.mono (t_S_bareValueTo (p := fw anB L (p + 1) L.length) (f := fw isBl L (fw isBl L (fw anB L (p + 1) L.length) L.length + 1) L.length) (am_se hal) (tt_set hx0 hac) (by omega)) ?_)
        intro r h1 hq
        rw [hq.1, hq.2]
        clear hq h1 r
        refine ⟨am_nti _, ?_⟩
        have hb157 := fw_bd (p := bvB) (L := L) (f := fw isBl L (fw isBl L (fw anB L (p + 1) L.length) L.length + 1) L.length) (t := L.length) (by omega)
        refine g_istore (pc := 160) dc_S_passAttribute_160 (by decide) ?_
        show am_G X mt_S_passAttribute _ 162 [some (.ref a), some (.int (nI (s + p))), some (.int (nI (s + (fw anB L (p + 1) L.length)))), some (.int (nI (s + (fw isBl L (fw isBl L (fw anB L (p + 1) L.length) L.length + 1) L.length)))), some (.int (nI (s + (fw bvB L (fw isBl L (fw isBl L (fw anB L (p + 1) L.length) L.length + 1) L.length) L.length)))), some (.int (nI (s + (fw isBl L (fw anB L (p + 1) L.length) L.length)))), some (.int 0)] [] _ _
        refine g_aload_n (pc := 162) dc_S_passAttribute_162 rfl ?_
        refine g_iload (pc := 163) dc_S_passAttribute_163 rfl ?_
        refine g_if_eq (pc := 165) (tgt := 182) dc_S_passAttribute_165 rfl (fun _ => ?_) (fun hc => absurd hc (by decide))
        refine g_iload (pc := 182) dc_S_passAttribute_182 rfl ?_
        refine g_putfield (pc := 184) dc_S_passAttribute_184 fp_S_passAttribute_15 (am_se hal) (Nat.le_of_ble_eq_true rfl) rfl rfl ?_
        rw [List.set_set]
        show am_G X _ _ _ _ _ (h.set a (.inr (5, [.int w0, .int (er (hq.map (fun q => s + q.1))), .int (hto s hq w2), .int (nI (s + (fw bvB L (fw isBl L (fw isBl L (fw anB L (p + 1) L.length) L.length + 1) L.length) L.length))), .ref c, .int (nI (s + L.length)), .int w6, .int w7, .int w8]))) _
        refine am_wk (am_le_s (am_le_s (am_le_s (am_le_s (am_le_s (am_le_n (am_le_n am_le_0))))))) ?_
        refine am_G.mono (u_S_passAttribute (p := p) (e := fw anB L (p + 1) L.length) (vf := fw isBl L (fw isBl L (fw anB L (p + 1) L.length) L.length + 1) L.length) (vt := fw bvB L (fw isBl L (fw isBl L (fw anB L (p + 1) L.length) L.length + 1) L.length) L.length) (p1 := fw bvB L (fw isBl L (fw isBl L (fw anB L (p + 1) L.length) L.length + 1) L.length) L.length) hal hx0 hac (by omega) (by omega) hqb) (fun r h1 hq9 => ⟨hq9.1, ?_⟩)
        rw [hq9.2]
        exact congrArg (fun z => h.set a (sC w0 (hqT L p (aE L p) z.2.1 z.2.2 hq) w2 s z.1 c L.length w6 w7 w8)) (show (fw bvB L (fw isBl L (fw isBl L (fw anB L (p + 1) L.length) L.length + 1) L.length) L.length, fw isBl L (fw isBl L (fw anB L (p + 1) L.length) L.length + 1) L.length, fw bvB L (fw isBl L (fw isBl L (fw anB L (p + 1) L.length) L.length + 1) L.length) L.length) = atr L p from by
          unfold atr
          rw [if_pos (show aG L p < L.length ∧ gx L (aG L p) = 61 from ⟨by show fw isBl L (fw anB L (p + 1) L.length) L.length < L.length; omega, hc58⟩)]
          rw [if_neg (fun h9 => by have h8 : fw isBl L (fw isBl L (fw anB L (p + 1) L.length) L.length + 1) L.length < L.length := h9.1; omega)]
          rfl)
      · refine g_aload_n (pc := 85) dc_S_passAttribute_85 rfl ?_
        refine g_getfield (pc := 86) dc_S_passAttribute_86 fl_S_9 (am_se hal) rfl ?_
        refine g_iload_n (pc := 89) dc_S_passAttribute_89 rfl ?_
        refine q_tx (pc := 90) (fw isBl L (fw isBl L (fw anB L (p + 1) L.length) L.length + 1) L.length) dc_S_passAttribute_90 (am_sn hac ha) hT hs (by omega) hc ?_
        refine g_bipush (pc := 91) (v := 34) dc_S_passAttribute_91 rfl ?_
        refine g_icmp_eq (pc := 93) (tgt := 107) dc_S_passAttribute_93 rfl (fun hc93 => ?_) (fun hc93 => ?_)
        · refine g_iconst (pc := 107) (v := 1) dc_S_passAttribute_107 rfl ?_
          refine g_goto (pc := 108) (tgt := 112) dc_S_passAttribute_108 rfl ?_
          refine g_istore (pc := 112) dc_S_passAttribute_112 (by decide) ?_
          show am_G X mt_S_passAttribute _ 114 [some (.ref a), some (.int (nI (s + p))), some (.int (nI (s + (fw anB L (p + 1) L.length)))), some (.int (nI (s + (fw isBl L (fw isBl L (fw anB L (p + 1) L.length) L.length + 1) L.length)))), some (.int (nI (s + (fw anB L (p + 1) L.length)))), some (.int (nI (s + (fw isBl L (fw anB L (p + 1) L.length) L.length)))), some (.int 1)] [] _ _
          refine g_iload (pc := 114) dc_S_passAttribute_114 rfl ?_
          refine g_if_eq (pc := 116) (tgt := 125) dc_S_passAttribute_116 rfl (fun hc => absurd hc (by decide)) (fun _ => ?_)
          refine g_iload_n (pc := 119) dc_S_passAttribute_119 rfl ?_
          refine g_iconst (pc := 120) (v := 1) dc_S_passAttribute_120 rfl ?_
          refine g_iadd (pc := 121) (v := (nI (s + (fw isBl L (fw isBl L (fw anB L (p + 1) L.length) L.length + 1) L.length + 1)))) dc_S_passAttribute_121 (q_as s (fw isBl L (fw isBl L (fw anB L (p + 1) L.length) L.length + 1) L.length) 1) ?_
          refine g_goto (pc := 122) (tgt := 126) dc_S_passAttribute_122 rfl ?_
          refine g_istore_n (pc := 126) dc_S_passAttribute_126 (by decide) ?_
          show am_G X mt_S_passAttribute _ 127 [some (.ref a), some (.int (nI (s + p))), some (.int (nI (s + (fw anB L (p + 1) L.length)))), some (.int (nI (s + (fw isBl L (fw isBl L (fw anB L (p + 1) L.length) L.length + 1) L.length + 1)))), some (.int (nI (s + (fw anB L (p + 1) L.length)))), some (.int (nI (s + (fw isBl L (fw anB L (p + 1) L.length) L.length)))), some (.int 1)] [] _ _
          refine g_iload (pc := 127) dc_S_passAttribute_127 rfl ?_
          refine g_if_eq (pc := 129) (tgt := 155) dc_S_passAttribute_129 rfl (fun hc => absurd hc (by decide)) (fun _ => ?_)
          refine g_aload_n (pc := 132) dc_S_passAttribute_132 rfl ?_
          refine g_getfield (pc := 133) dc_S_passAttribute_133 fl_S_9 (am_se hal) rfl ?_
          refine g_aload_n (pc := 136) dc_S_passAttribute_136 rfl ?_
          refine g_getfield (pc := 137) dc_S_passAttribute_137 fl_S_9 (am_se hal) rfl ?_
          refine g_iload_n (pc := 140) dc_S_passAttribute_140 rfl ?_
          refine g_iconst (pc := 141) (v := 1) dc_S_passAttribute_141 rfl ?_
          refine g_isub (pc := 142) (v := (nI (s + (fw isBl L (fw isBl L (fw anB L (p + 1) L.length) L.length + 1) L.length)))) dc_S_passAttribute_142 ((q_sn (s := s) (a := fw isBl L (fw isBl L (fw anB L (p + 1) L.length) L.length + 1) L.length + 1) (b := 1) (by omega)).trans (congrArg nI (by omega))) ?_
          refine q_tx (pc := 143) (fw isBl L (fw isBl L (fw anB L (p + 1) L.length) L.length + 1) L.length) dc_S_passAttribute_143 (am_sn hac ha) hT hs (by omega) hc ?_
          refine g_iload_n (pc := 144) dc_S_passAttribute_144 rfl ?_
          refine g_aload_n (pc := 145) dc_S_passAttribute_145 rfl ?_
          refine g_getfield (pc := 146) dc_S_passAttribute_146 fl_S_19 (am_se hal) rfl ?_
          refine g_s4 (pc := 149) (M' := mt_W_indexOf) dc_S_passAttribute_149 mo_W_indexOf st_W_indexOf ln_S_62 (Nat.le_of_ble_eq_true rfl) (Nat.le_of_ble_eq_true rfl) (am_G.mono (t_W_indexOf (v := (gx L (fw isBl L (fw isBl L (fw anB L (p + 1) L.length) L.length + 1) L.length))) (f := fw isBl L (fw isBl L (fw anB L (p + 1) L.length) L.length + 1) L.length + 1) (t := L.length) (tt_set hx0 hac) (by omega) (by omega)) ?_)
          intro r h1 hq
          rw [hq.1, hq.2]
          clear hq h1 r
          refine ⟨am_nti _, ?_⟩
          have hb149 := fw_bd (p := nev (gx L (fw isBl L (fw isBl L (fw anB L (p + 1) L.length) L.length + 1) L.length))) (L := L) (f := fw isBl L (fw isBl L (fw anB L (p + 1) L.length) L.length + 1) L.length + 1) (t := L.length) (by omega)
          refine g_goto (pc := 152) (tgt := 160) dc_S_passAttribute_152 rfl ?_
          refine g_istore (pc := 160) dc_S_passAttribute_160 (by decide) ?_
          show am_G X mt_S_passAttribute _ 162 [some (.ref a), some (.int (nI (s + p))), some (.int (nI (s + (fw anB L (p + 1) L.length)))), some (.int (nI (s + (fw isBl L (fw isBl L (fw anB L (p + 1) L.length) L.length + 1) L.length + 1)))), some (.int (nI (s + (fw (nev (gx L (fw isBl L (fw isBl L (fw anB L (p + 1) L.length) L.length + 1) L.length))) L (fw isBl L (fw isBl L (fw anB L (p + 1) L.length) L.length + 1) L.length + 1) L.length)))), some (.int (nI (s + (fw isBl L (fw anB L (p + 1) L.length) L.length)))), some (.int 1)] [] _ _
          refine g_aload_n (pc := 162) dc_S_passAttribute_162 rfl ?_
          refine g_iload (pc := 163) dc_S_passAttribute_163 rfl ?_
          refine g_if_eq (pc := 165) (tgt := 182) dc_S_passAttribute_165 rfl (fun hc => absurd hc (by decide)) (fun _ => ?_)
          refine g_iload (pc := 168) dc_S_passAttribute_168 rfl ?_
          refine g_iconst (pc := 170) (v := 1) dc_S_passAttribute_170 rfl ?_
          refine g_iadd (pc := 171) (v := (nI (s + (fw (nev (gx L (fw isBl L (fw isBl L (fw anB L (p + 1) L.length) L.length + 1) L.length))) L (fw isBl L (fw isBl L (fw anB L (p + 1) L.length) L.length + 1) L.length + 1) L.length + 1)))) dc_S_passAttribute_171 (q_as s (fw (nev (gx L (fw isBl L (fw isBl L (fw anB L (p + 1) L.length) L.length + 1) L.length))) L (fw isBl L (fw isBl L (fw anB L (p + 1) L.length) L.length + 1) L.length + 1) L.length) 1) ?_
          refine g_aload_n (pc := 172) dc_S_passAttribute_172 rfl ?_
          refine g_getfield (pc := 173) dc_S_passAttribute_173 fl_S_19 (am_se hal) rfl ?_
          refine g_s2 (pc := 176) (M' := mt_JMath_min) dc_S_passAttribute_176 mo_JMath_min st_JMath_min ln_S_66 (Nat.le_of_ble_eq_true rfl) (Nat.le_of_ble_eq_true rfl) (am_G.mono (t_min (s := s) (x := fw (nev (gx L (fw isBl L (fw isBl L (fw anB L (p + 1) L.length) L.length + 1) L.length))) L (fw isBl L (fw isBl L (fw anB L (p + 1) L.length) L.length + 1) L.length + 1) L.length + 1) (y := L.length) (by omega) (by omega)) ?_)
          intro r h1 hq
          rw [hq.1, hq.2]
          clear hq h1 r
          refine ⟨am_nti _, ?_⟩
          have hb176 := nmin_bd (fw (nev (gx L (fw isBl L (fw isBl L (fw anB L (p + 1) L.length) L.length + 1) L.length))) L (fw isBl L (fw isBl L (fw anB L (p + 1) L.length) L.length + 1) L.length + 1) L.length + 1) L.length
          refine g_goto (pc := 179) (tgt := 184) dc_S_passAttribute_179 rfl ?_
          refine g_putfield (pc := 184) dc_S_passAttribute_184 fp_S_passAttribute_15 (am_se hal) (Nat.le_of_ble_eq_true rfl) rfl rfl ?_
          rw [List.set_set]
          show am_G X _ _ _ _ _ (h.set a (.inr (5, [.int w0, .int (er (hq.map (fun q => s + q.1))), .int (hto s hq w2), .int (nI (s + (Nat.min (fw (nev (gx L (fw isBl L (fw isBl L (fw anB L (p + 1) L.length) L.length + 1) L.length))) L (fw isBl L (fw isBl L (fw anB L (p + 1) L.length) L.length + 1) L.length + 1) L.length + 1) L.length))), .ref c, .int (nI (s + L.length)), .int w6, .int w7, .int w8]))) _
          refine am_wk (am_le_s (am_le_s (am_le_s (am_le_s (am_le_s (am_le_n (am_le_n am_le_0))))))) ?_
          refine am_G.mono (u_S_passAttribute (p := p) (e := fw anB L (p + 1) L.length) (vf := fw isBl L (fw isBl L (fw anB L (p + 1) L.length) L.length + 1) L.length + 1) (vt := fw (nev (gx L (fw isBl L (fw isBl L (fw anB L (p + 1) L.length) L.length + 1) L.length))) L (fw isBl L (fw isBl L (fw anB L (p + 1) L.length) L.length + 1) L.length + 1) L.length) (p1 := Nat.min (fw (nev (gx L (fw isBl L (fw isBl L (fw anB L (p + 1) L.length) L.length + 1) L.length))) L (fw isBl L (fw isBl L (fw anB L (p + 1) L.length) L.length + 1) L.length + 1) L.length + 1) L.length) hal hx0 hac (by omega) (by omega) hqb) (fun r h1 hq9 => ⟨hq9.1, ?_⟩)
          rw [hq9.2]
          exact congrArg (fun z => h.set a (sC w0 (hqT L p (aE L p) z.2.1 z.2.2 hq) w2 s z.1 c L.length w6 w7 w8)) (show (Nat.min (fw (nev (gx L (fw isBl L (fw isBl L (fw anB L (p + 1) L.length) L.length + 1) L.length))) L (fw isBl L (fw isBl L (fw anB L (p + 1) L.length) L.length + 1) L.length + 1) L.length + 1) L.length, fw isBl L (fw isBl L (fw anB L (p + 1) L.length) L.length + 1) L.length + 1, fw (nev (gx L (fw isBl L (fw isBl L (fw anB L (p + 1) L.length) L.length + 1) L.length))) L (fw isBl L (fw isBl L (fw anB L (p + 1) L.length) L.length + 1) L.length + 1) L.length) = atr L p from by
            unfold atr
            rw [if_pos (show aG L p < L.length ∧ gx L (aG L p) = 61 from ⟨by show fw isBl L (fw anB L (p + 1) L.length) L.length < L.length; omega, hc58⟩)]
            rw [if_pos (show aV L p < L.length ∧ (gx L (aV L p) = 34 ∨ gx L (aV L p) = 39) from ⟨by show fw isBl L (fw isBl L (fw anB L (p + 1) L.length) L.length + 1) L.length < L.length; omega, Or.inl hc93⟩)]
            rfl)
        · refine g_aload_n (pc := 96) dc_S_passAttribute_96 rfl ?_
          refine g_getfield (pc := 97) dc_S_passAttribute_97 fl_S_9 (am_se hal) rfl ?_
          refine g_iload_n (pc := 100) dc_S_passAttribute_100 rfl ?_
          refine q_tx (pc := 101) (fw isBl L (fw isBl L (fw anB L (p + 1) L.length) L.length + 1) L.length) dc_S_passAttribute_101 (am_sn hac ha) hT hs (by omega) hc ?_
          refine g_bipush (pc := 102) (v := 39) dc_S_passAttribute_102 rfl ?_
          refine g_icmp_ne (pc := 104) (tgt := 111) dc_S_passAttribute_104 rfl (fun hc104 => ?_) (fun hc104 => ?_)
          · refine g_iconst (pc := 111) (v := 0) dc_S_passAttribute_111 rfl ?_
            refine g_istore (pc := 112) dc_S_passAttribute_112 (by decide) ?_
            show am_G X mt_S_passAttribute _ 114 [some (.ref a), some (.int (nI (s + p))), some (.int (nI (s + (fw anB L (p + 1) L.length)))), some (.int (nI (s + (fw isBl L (fw isBl L (fw anB L (p + 1) L.length) L.length + 1) L.length)))), some (.int (nI (s + (fw anB L (p + 1) L.length)))), some (.int (nI (s + (fw isBl L (fw anB L (p + 1) L.length) L.length)))), some (.int 0)] [] _ _
            refine g_iload (pc := 114) dc_S_passAttribute_114 rfl ?_
            refine g_if_eq (pc := 116) (tgt := 125) dc_S_passAttribute_116 rfl (fun _ => ?_) (fun hc => absurd hc (by decide))
            refine g_iload_n (pc := 125) dc_S_passAttribute_125 rfl ?_
            refine g_istore_n (pc := 126) dc_S_passAttribute_126 (by decide) ?_
            show am_G X mt_S_passAttribute _ 127 [some (.ref a), some (.int (nI (s + p))), some (.int (nI (s + (fw anB L (p + 1) L.length)))), some (.int (nI (s + (fw isBl L (fw isBl L (fw anB L (p + 1) L.length) L.length + 1) L.length)))), some (.int (nI (s + (fw anB L (p + 1) L.length)))), some (.int (nI (s + (fw isBl L (fw anB L (p + 1) L.length) L.length)))), some (.int 0)] [] _ _
            refine g_iload (pc := 127) dc_S_passAttribute_127 rfl ?_
            refine g_if_eq (pc := 129) (tgt := 155) dc_S_passAttribute_129 rfl (fun _ => ?_) (fun hc => absurd hc (by decide))
            refine g_aload_n (pc := 155) dc_S_passAttribute_155 rfl ?_
            refine g_iload_n (pc := 156) dc_S_passAttribute_156 rfl ?_
            refine g_v1 (pc := 157) (M' := mt_S_bareValueTo) dc_S_passAttribute_157 mo_S_bareValueTo im_S_bareValueTo se_S_bareValueTo ln_S_91 (am_se hal) rfl rfl (Nat.le_of_ble_eq_true rfl) (Nat.le_of_ble_eq_true rfl) (am_G.mono (t_S_bareValueTo (p := fw anB L (p + 1) L.length) (f := fw isBl L (fw isBl L (fw anB L (p + 1) L.length) L.length + 1) L.length) (am_se hal) (tt_set hx0 hac) (by omega)) ?_)
            intro r h1 hq
            rw [hq.1, hq.2]
            clear hq h1 r
            refine ⟨am_nti _, ?_⟩
            have hb157 := fw_bd (p := bvB) (L := L) (f := fw isBl L (fw isBl L (fw anB L (p + 1) L.length) L.length + 1) L.length) (t := L.length) (by omega)
            refine g_istore (pc := 160) dc_S_passAttribute_160 (by decide) ?_
            show am_G X mt_S_passAttribute _ 162 [some (.ref a), some (.int (nI (s + p))), some (.int (nI (s + (fw anB L (p + 1) L.length)))), some (.int (nI (s + (fw isBl L (fw isBl L (fw anB L (p + 1) L.length) L.length + 1) L.length)))), some (.int (nI (s + (fw bvB L (fw isBl L (fw isBl L (fw anB L (p + 1) L.length) L.length + 1) L.length) L.length)))), some (.int (nI (s + (fw isBl L (fw anB L (p + 1) L.length) L.length)))), some (.int 0)] [] _ _
            refine g_aload_n (pc := 162) dc_S_passAttribute_162 rfl ?_
            refine g_iload (pc := 163) dc_S_passAttribute_163 rfl ?_
            refine g_if_eq (pc := 165) (tgt := 182) dc_S_passAttribute_165 rfl (fun _ => ?_) (fun hc => absurd hc (by decide))
            refine g_iload (pc := 182) dc_S_passAttribute_182 rfl ?_
            refine g_putfield (pc := 184) dc_S_passAttribute_184 fp_S_passAttribute_15 (am_se hal) (Nat.le_of_ble_eq_true rfl) rfl rfl ?_
            rw [List.set_set]
            show am_G X _ _ _ _ _ (h.set a (.inr (5, [.int w0, .int (er (hq.map (fun q => s + q.1))), .int (hto s hq w2), .int (nI (s + (fw bvB L (fw isBl L (fw isBl L (fw anB L (p + 1) L.length) L.length + 1) L.length) L.length))), .ref c, .int (nI (s + L.length)), .int w6, .int w7, .int w8]))) _
            refine am_wk (am_le_s (am_le_s (am_le_s (am_le_s (am_le_s (am_le_n (am_le_n am_le_0))))))) ?_
            refine am_G.mono (u_S_passAttribute (p := p) (e := fw anB L (p + 1) L.length) (vf := fw isBl L (fw isBl L (fw anB L (p + 1) L.length) L.length + 1) L.length) (vt := fw bvB L (fw isBl L (fw isBl L (fw anB L (p + 1) L.length) L.length + 1) L.length) L.length) (p1 := fw bvB L (fw isBl L (fw isBl L (fw anB L (p + 1) L.length) L.length + 1) L.length) L.length) hal hx0 hac (by omega) (by omega) hqb) (fun r h1 hq9 => ⟨hq9.1, ?_⟩)
            rw [hq9.2]
            exact congrArg (fun z => h.set a (sC w0 (hqT L p (aE L p) z.2.1 z.2.2 hq) w2 s z.1 c L.length w6 w7 w8)) (show (fw bvB L (fw isBl L (fw isBl L (fw anB L (p + 1) L.length) L.length + 1) L.length) L.length, fw isBl L (fw isBl L (fw anB L (p + 1) L.length) L.length + 1) L.length, fw bvB L (fw isBl L (fw isBl L (fw anB L (p + 1) L.length) L.length + 1) L.length) L.length) = atr L p from by
              unfold atr
              rw [if_pos (show aG L p < L.length ∧ gx L (aG L p) = 61 from ⟨by show fw isBl L (fw anB L (p + 1) L.length) L.length < L.length; omega, hc58⟩)]
              rw [if_neg (fun h9 => h9.2.elim hc93 hc104)]
              rfl)
          · refine g_iconst (pc := 107) (v := 1) dc_S_passAttribute_107 rfl ?_
            refine g_goto (pc := 108) (tgt := 112) dc_S_passAttribute_108 rfl ?_
            refine g_istore (pc := 112) dc_S_passAttribute_112 (by decide) ?_
            show am_G X mt_S_passAttribute _ 114 [some (.ref a), some (.int (nI (s + p))), some (.int (nI (s + (fw anB L (p + 1) L.length)))), some (.int (nI (s + (fw isBl L (fw isBl L (fw anB L (p + 1) L.length) L.length + 1) L.length)))), some (.int (nI (s + (fw anB L (p + 1) L.length)))), some (.int (nI (s + (fw isBl L (fw anB L (p + 1) L.length) L.length)))), some (.int 1)] [] _ _
            refine g_iload (pc := 114) dc_S_passAttribute_114 rfl ?_
            refine g_if_eq (pc := 116) (tgt := 125) dc_S_passAttribute_116 rfl (fun hc => absurd hc (by decide)) (fun _ => ?_)
            refine g_iload_n (pc := 119) dc_S_passAttribute_119 rfl ?_
            refine g_iconst (pc := 120) (v := 1) dc_S_passAttribute_120 rfl ?_
            refine g_iadd (pc := 121) (v := (nI (s + (fw isBl L (fw isBl L (fw anB L (p + 1) L.length) L.length + 1) L.length + 1)))) dc_S_passAttribute_121 (q_as s (fw isBl L (fw isBl L (fw anB L (p + 1) L.length) L.length + 1) L.length) 1) ?_
            refine g_goto (pc := 122) (tgt := 126) dc_S_passAttribute_122 rfl ?_
            refine g_istore_n (pc := 126) dc_S_passAttribute_126 (by decide) ?_
            show am_G X mt_S_passAttribute _ 127 [some (.ref a), some (.int (nI (s + p))), some (.int (nI (s + (fw anB L (p + 1) L.length)))), some (.int (nI (s + (fw isBl L (fw isBl L (fw anB L (p + 1) L.length) L.length + 1) L.length + 1)))), some (.int (nI (s + (fw anB L (p + 1) L.length)))), some (.int (nI (s + (fw isBl L (fw anB L (p + 1) L.length) L.length)))), some (.int 1)] [] _ _
            refine g_iload (pc := 127) dc_S_passAttribute_127 rfl ?_
            refine g_if_eq (pc := 129) (tgt := 155) dc_S_passAttribute_129 rfl (fun hc => absurd hc (by decide)) (fun _ => ?_)
            refine g_aload_n (pc := 132) dc_S_passAttribute_132 rfl ?_
            refine g_getfield (pc := 133) dc_S_passAttribute_133 fl_S_9 (am_se hal) rfl ?_
            refine g_aload_n (pc := 136) dc_S_passAttribute_136 rfl ?_
            refine g_getfield (pc := 137) dc_S_passAttribute_137 fl_S_9 (am_se hal) rfl ?_
            refine g_iload_n (pc := 140) dc_S_passAttribute_140 rfl ?_
            refine g_iconst (pc := 141) (v := 1) dc_S_passAttribute_141 rfl ?_
            refine g_isub (pc := 142) (v := (nI (s + (fw isBl L (fw isBl L (fw anB L (p + 1) L.length) L.length + 1) L.length)))) dc_S_passAttribute_142 ((q_sn (s := s) (a := fw isBl L (fw isBl L (fw anB L (p + 1) L.length) L.length + 1) L.length + 1) (b := 1) (by omega)).trans (congrArg nI (by omega))) ?_
            refine q_tx (pc := 143) (fw isBl L (fw isBl L (fw anB L (p + 1) L.length) L.length + 1) L.length) dc_S_passAttribute_143 (am_sn hac ha) hT hs (by omega) hc ?_
            refine g_iload_n (pc := 144) dc_S_passAttribute_144 rfl ?_
            refine g_aload_n (pc := 145) dc_S_passAttribute_145 rfl ?_
            refine g_getfield (pc := 146) dc_S_passAttribute_146 fl_S_19 (am_se hal) rfl ?_
            refine g_s4 (pc := 149) (M' := mt_W_indexOf) dc_S_passAttribute_149 mo_W_indexOf st_W_indexOf ln_S_62 (Nat.le_of_ble_eq_true rfl) (Nat.le_of_ble_eq_true rfl) (am_G.mono (t_W_indexOf (v := (gx L (fw isBl L (fw isBl L (fw anB L (p + 1) L.length) L.length + 1) L.length))) (f := fw isBl L (fw isBl L (fw anB L (p + 1) L.length) L.length + 1) L.length + 1) (t := L.length) (tt_set hx0 hac) (by omega) (by omega)) ?_)
            intro r h1 hq
            rw [hq.1, hq.2]
            clear hq h1 r
            refine ⟨am_nti _, ?_⟩
            have hb149 := fw_bd (p := nev (gx L (fw isBl L (fw isBl L (fw anB L (p + 1) L.length) L.length + 1) L.length))) (L := L) (f := fw isBl L (fw isBl L (fw anB L (p + 1) L.length) L.length + 1) L.length + 1) (t := L.length) (by omega)
            refine g_goto (pc := 152) (tgt := 160) dc_S_passAttribute_152 rfl ?_
            refine g_istore (pc := 160) dc_S_passAttribute_160 (by decide) ?_
            show am_G X mt_S_passAttribute _ 162 [some (.ref a), some (.int (nI (s + p))), some (.int (nI (s + (fw anB L (p + 1) L.length)))), some (.int (nI (s + (fw isBl L (fw isBl L (fw anB L (p + 1) L.length) L.length + 1) L.length + 1)))), some (.int (nI (s + (fw (nev (gx L (fw isBl L (fw isBl L (fw anB L (p + 1) L.length) L.length + 1) L.length))) L (fw isBl L (fw isBl L (fw anB L (p + 1) L.length) L.length + 1) L.length + 1) L.length)))), some (.int (nI (s + (fw isBl L (fw anB L (p + 1) L.length) L.length)))), some (.int 1)] [] _ _
            refine g_aload_n (pc := 162) dc_S_passAttribute_162 rfl ?_
            refine g_iload (pc := 163) dc_S_passAttribute_163 rfl ?_
            refine g_if_eq (pc := 165) (tgt := 182) dc_S_passAttribute_165 rfl (fun hc => absurd hc (by decide)) (fun _ => ?_)
            refine g_iload (pc := 168) dc_S_passAttribute_168 rfl ?_
            refine g_iconst (pc := 170) (v := 1) dc_S_passAttribute_170 rfl ?_
            refine g_iadd (pc := 171) (v := (nI (s + (fw (nev (gx L (fw isBl L (fw isBl L (fw anB L (p + 1) L.length) L.length + 1) L.length))) L (fw isBl L (fw isBl L (fw anB L (p + 1) L.length) L.length + 1) L.length + 1) L.length + 1)))) dc_S_passAttribute_171 (q_as s (fw (nev (gx L (fw isBl L (fw isBl L (fw anB L (p + 1) L.length) L.length + 1) L.length))) L (fw isBl L (fw isBl L (fw anB L (p + 1) L.length) L.length + 1) L.length + 1) L.length) 1) ?_
            refine g_aload_n (pc := 172) dc_S_passAttribute_172 rfl ?_
            refine g_getfield (pc := 173) dc_S_passAttribute_173 fl_S_19 (am_se hal) rfl ?_
            refine g_s2 (pc := 176) (M' := mt_JMath_min) dc_S_passAttribute_176 mo_JMath_min st_JMath_min ln_S_66 (Nat.le_of_ble_eq_true rfl) (Nat.le_of_ble_eq_true rfl) (am_G.mono (t_min (s := s) (x := fw (nev (gx L (fw isBl L (fw isBl L (fw anB L (p + 1) L.length) L.length + 1) L.length))) L (fw isBl L (fw isBl L (fw anB L (p + 1) L.length) L.length + 1) L.length + 1) L.length + 1) (y := L.length) (by omega) (by omega)) ?_)
            intro r h1 hq
            rw [hq.1, hq.2]
            clear hq h1 r
            refine ⟨am_nti _, ?_⟩
            have hb176 := nmin_bd (fw (nev (gx L (fw isBl L (fw isBl L (fw anB L (p + 1) L.length) L.length + 1) L.length))) L (fw isBl L (fw isBl L (fw anB L (p + 1) L.length) L.length + 1) L.length + 1) L.length + 1) L.length
            refine g_goto (pc := 179) (tgt := 184) dc_S_passAttribute_179 rfl ?_
            refine g_putfield (pc := 184) dc_S_passAttribute_184 fp_S_passAttribute_15 (am_se hal) (Nat.le_of_ble_eq_true rfl) rfl rfl ?_
            rw [List.set_set]
            show am_G X _ _ _ _ _ (h.set a (.inr (5, [.int w0, .int (er (hq.map (fun q => s + q.1))), .int (hto s hq w2), .int (nI (s + (Nat.min (fw (nev (gx L (fw isBl L (fw isBl L (fw anB L (p + 1) L.length) L.length + 1) L.length))) L (fw isBl L (fw isBl L (fw anB L (p + 1) L.length) L.length + 1) L.length + 1) L.length + 1) L.length))), .ref c, .int (nI (s + L.length)), .int w6, .int w7, .int w8]))) _
            refine am_wk (am_le_s (am_le_s (am_le_s (am_le_s (am_le_s (am_le_n (am_le_n am_le_0))))))) ?_
            refine am_G.mono (u_S_passAttribute (p := p) (e := fw anB L (p + 1) L.length) (vf := fw isBl L (fw isBl L (fw anB L (p + 1) L.length) L.length + 1) L.length + 1) (vt := fw (nev (gx L (fw isBl L (fw isBl L (fw anB L (p + 1) L.length) L.length + 1) L.length))) L (fw isBl L (fw isBl L (fw anB L (p + 1) L.length) L.length + 1) L.length + 1) L.length) (p1 := Nat.min (fw (nev (gx L (fw isBl L (fw isBl L (fw anB L (p + 1) L.length) L.length + 1) L.length))) L (fw isBl L (fw isBl L (fw anB L (p + 1) L.length) L.length + 1) L.length + 1) L.length + 1) L.length) hal hx0 hac (by omega) (by omega) hqb) (fun r h1 hq9 => ⟨hq9.1, ?_⟩)
            rw [hq9.2]
            exact congrArg (fun z => h.set a (sC w0 (hqT L p (aE L p) z.2.1 z.2.2 hq) w2 s z.1 c L.length w6 w7 w8)) (show (Nat.min (fw (nev (gx L (fw isBl L (fw isBl L (fw anB L (p + 1) L.length) L.length + 1) L.length))) L (fw isBl L (fw isBl L (fw anB L (p + 1) L.length) L.length + 1) L.length + 1) L.length + 1) L.length, fw isBl L (fw isBl L (fw anB L (p + 1) L.length) L.length + 1) L.length + 1, fw (nev (gx L (fw isBl L (fw isBl L (fw anB L (p + 1) L.length) L.length + 1) L.length))) L (fw isBl L (fw isBl L (fw anB L (p + 1) L.length) L.length + 1) L.length + 1) L.length) = atr L p from by
              unfold atr
              rw [if_pos (show aG L p < L.length ∧ gx L (aG L p) = 61 from ⟨by show fw isBl L (fw anB L (p + 1) L.length) L.length < L.length; omega, hc58⟩)]
              rw [if_pos (show aV L p < L.length ∧ (gx L (aV L p) = 34 ∨ gx L (aV L p) = 39) from ⟨by show fw isBl L (fw isBl L (fw anB L (p + 1) L.length) L.length + 1) L.length < L.length; omega, Or.inr hc104⟩)]
              rfl)
theorem hqT_bd {L : List Int32} {p : Nat} {hq : Option (Nat × Nat)} (hp : p < L.length) (hqb : ∀ q, hq = some q → q.1 ≤ q.2 ∧ q.2 ≤ L.length) : ∀ q, hqT L p (aE L p) (atr L p).2.1 (atr L p).2.2 hq = some q → q.1 ≤ q.2 ∧ q.2 ≤ L.length := by
  intro q h9
  cases hq with
  | some q1 => exact hqb q h9
  | none =>
    have hb := atr_bd hp
    by_cases hw : isw 20 L p (aE L p) = true
    · rw [show hqT L p (aE L p) (atr L p).2.1 (atr L p).2.2 none = some (atr L p).2 from if_pos hw] at h9
      cases h9
      exact hb.2.2
    · rw [show hqT L p (aE L p) (atr L p).2.1 (atr L p).2.2 none = none from if_neg hw] at h9
      cases h9
/-- through a tag from p on, behind its name: where its > is (or the end), and the first href -/
def tgl (L : List Int32) : Nat → Nat → Option (Nat × Nat) → Nat × Option (Nat × Nat)
  | 0, p, hq => (p, hq)
  | m + 1, p, hq => if p < L.length then (if gx L p = 62 then (p, hq) else if isBl (gx L p) = true ∨ gx L p = 47 then tgl L m (p + 1) hq else tgl L m (atr L p).1 (hqT L p (aE L p) (atr L p).2.1 (atr L p).2.2 hq)) else (p, hq)
theorem tgl_out {L : List Int32} {m p : Nat} {hq : Option (Nat × Nat)} (h : L.length ≤ p) : tgl L m p hq = (p, hq) := by
  cases m with
  | zero => rfl
  | succ m => exact if_neg (by omega)
theorem tgl_e {L : List Int32} {m p : Nat} {hq : Option (Nat × Nat)} (h : gx L p = 62) : tgl L m p hq = (p, hq) := by
  cases m with
  | zero => rfl
  | succ m =>
    show (if p < L.length then (if gx L p = 62 then (p, hq) else _) else (p, hq)) = (p, hq)
    rw [if_pos h]
    exact ite_self _
theorem tgl_b {L : List Int32} {m p : Nat} {hq : Option (Nat × Nat)} (h : p < L.length) (h2 : ¬ gx L p = 62) (h3 : isBl (gx L p) = true ∨ gx L p = 47) : tgl L (m + 1) p hq = tgl L m (p + 1) hq := by
  show (if p < L.length then (if gx L p = 62 then (p, hq) else if isBl (gx L p) = true ∨ gx L p = 47 then tgl L m (p + 1) hq else _) else _) = _
  rw [if_pos h, if_neg h2, if_pos h3]
theorem tgl_a {L : List Int32} {m p : Nat} {hq : Option (Nat × Nat)} (h : p < L.length) (h2 : ¬ gx L p = 62) (h3 : ¬ (isBl (gx L p) = true ∨ gx L p = 47)) : tgl L (m + 1) p hq = tgl L m (atr L p).1 (hqT L p (aE L p) (atr L p).2.1 (atr L p).2.2 hq) := by
  show (if p < L.length then (if gx L p = 62 then (p, hq) else if isBl (gx L p) = true ∨ gx L p = 47 then _ else tgl L m (atr L p).1 (hqT L p (aE L p) (atr L p).2.1 (atr L p).2.2 hq)) else _) = _
  rw [if_pos h, if_neg h2, if_neg h3]
theorem tgl_bd {L : List Int32} : ∀ (m p : Nat) (hq : Option (Nat × Nat)), p ≤ L.length → L.length - p ≤ m → (∀ q, hq = some q → q.1 ≤ q.2 ∧ q.2 ≤ L.length) → p ≤ (tgl L m p hq).1 ∧ (tgl L m p hq).1 ≤ L.length ∧ ((tgl L m p hq).1 < L.length → gx L (tgl L m p hq).1 = 62) ∧ ∀ q, (tgl L m p hq).2 = some q → q.1 ≤ q.2 ∧ q.2 ≤ L.length
  | 0, p, hq, h1, h2, h3 => ⟨Nat.le_refl _, h1, fun h9 => absurd h9 (by show ¬ p < L.length; omega), h3⟩
  | m + 1, p, hq, h1, h2, h3 => by
    by_cases hp : p < L.length
    · by_cases he : gx L p = 62
      · rw [tgl_e he]; exact ⟨Nat.le_refl _, h1, fun _ => he, h3⟩
      · by_cases hb : isBl (gx L p) = true ∨ gx L p = 47
        · rw [tgl_b hp he hb]
          have h9 := tgl_bd m (p + 1) hq (by omega) (by omega) h3
          exact ⟨by omega, h9.2⟩
        · rw [tgl_a hp he hb]
          have ha := atr_bd hp
          have h9 := tgl_bd m (atr L p).1 _ ha.2.1 (by omega) (hqT_bd hp h3)
          exact ⟨by omega, h9.2⟩
    · rw [tgl_out (by omega)]; exact ⟨Nat.le_refl _, h1, fun h9 => absurd h9 hp, h3⟩
def tgC (L : List Int32) (p : Nat) : Bool := decide (gx L (p + 1) = 47)
def tgF (L : List Int32) (p : Nat) : Nat := if gx L (p + 1) = 47 then p + 2 else p + 1
def tgN (L : List Int32) (p : Nat) : Nat := fw tnB L (tgF L p) L.length
def tgE (L : List Int32) (p : Nat) : Nat := (tgl L (L.length - tgN L p) (tgN L p) none).1
def tgH (L : List Int32) (p : Nat) : Option (Nat × Nat) := (tgl L (L.length - tgN L p) (tgN L p) none).2
/-- what stands at p is passed: its kind, where it ends, its href -/
def nxK (L : List Int32) (p : Nat) : Nat := if kdA L p = 2 then (if tgE L p < L.length then 2 else 3) else kdA L p
def nxT (L : List Int32) (p : Nat) : Nat := if kdA L p = 2 then (if tgE L p < L.length then rwT L (tgF L p) (tgN L p) (tgC L p) (tgE L p + 1) else L.length) else if kdA L p = 3 then rmT L p else fx (fun j => decide (kdA L j = 1)) (p + 1) L.length
def nxH (L : List Int32) (p : Nat) : Option (Nat × Nat) := if kdA L p = 2 ∧ tgE L p < L.length then tgH L p else none
theorem kdA_2 {L : List Int32} {p : Nat} (h : kdA L p = 2) : p + 1 < L.length ∧ (gx L (p + 1) = 47 → p + 2 < L.length) := by
  unfold kdA at h
  by_cases h1 : gx L p = 60 ∧ p + 1 < L.length
  · rw [if_pos h1] at h
    refine ⟨h1.2, fun h4 => ?_⟩
    by_cases h2 : isLe (gx L (p + 1)) = true ∨ (gx L (p + 1) = 47 ∧ p + 2 < L.length ∧ isLe (gx L (p + 2)) = true)
    · rcases h2 with q | q
      · rw [h4] at q; exact absurd q (by decide)
      · exact q.2.1
    · rw [if_neg h2] at h
      by_cases h3 : gx L (p + 1) = 33 ∨ gx L (p + 1) = 63 ∨ gx L (p + 1) = 47
      · rw [if_pos h3] at h; cases h
      · rw [if_neg h3] at h; cases h
  · rw [if_neg h1] at h; cases h
theorem tg_bd {L : List Int32} {p : Nat} (h : kdA L p = 2) : p < tgF L p ∧ tgF L p ≤ tgN L p ∧ tgN L p ≤ tgE L p ∧ tgE L p ≤ L.length ∧ (tgE L p < L.length → gx L (tgE L p) = 62) ∧ ∀ q, tgH L p = some q → q.1 ≤ q.2 ∧ q.2 ≤ L.length := by
  have h1 := kdA_2 h
  have hf : p < tgF L p ∧ tgF L p ≤ L.length := by
    unfold tgF
    by_cases h4 : gx L (p + 1) = 47
    · rw [if_pos h4]; have := h1.2 h4; omega
    · rw [if_neg h4]; omega
  have hn := fw_bd (p := tnB) (L := L) (f := tgF L p) (t := L.length) hf.2
  have ht := tgl_bd (L := L) (L.length - tgN L p) (tgN L p) none hn.2 (Nat.le_refl _) (fun q h9 => by cases h9)
  exact ⟨hf.1, hn.1, ht.1, ht.2⟩
theorem l_S_passTag (hal : a < h.length) (hx : tt h c s L) (hac : a ≠ c) {nf nt m9 : Nat} {cl : Bool} (hn : nf ≤ nt) (hnt : nt ≤ L.length) : ∀ (m p : Nat) (hq : Option (Nat × Nat)), L.length - p ≤ m → m ≤ m9 → m9 < 2 ^ 31 → p ≤ L.length → (∀ q, hq = some q → q.1 ≤ q.2 ∧ q.2 ≤ L.length) → am_G X mt_S_passTag (d + 6) 81 [some (.ref a), some (.int (nI m)), none] [] (h.set a (sC w0 hq w2 s p c L.length (nI (s + nf)) (nI (s + nt)) (b1 cl))) (fun r h1 => if (tgl L m p hq).1 < L.length then r = some (.int 2) ∧ h1 = h.set a (sC w0 (tgl L m p hq).2 w2 s (rwT L nf nt cl ((tgl L m p hq).1 + 1)) c L.length (nI (s + nf)) (nI (s + nt)) (b1 cl)) else r = some (.int 3) ∧ ∃ w3, h1 = h.set a (sC w0 none w3 s L.length c L.length (nI (s + nf)) (nI (s + nt)) (b1 cl)))
  | m, p, hq, h1, h1a, h1b, h2, hqb => by
    have hx0 := hx
    obtain ⟨cap, g, ha, hT, hs, hc⟩ := hx
    show am_G X mt_S_passTag (d + 6) 81 _ [] (h.set a (.inr (5, [.int w0, .int (er (hq.map (fun q => s + q.1))), .int (hto s hq w2), .int (nI (s + p)), .ref c, .int (nI (s + L.length)), .int (nI (s + nf)), .int (nI (s + nt)), .int (b1 cl)]))) _
    refine g_iload_n (pc := 81) dc_S_passTag_81 rfl ?_
    refine q_if_le (pc := 82) (tgt := 164) m dc_S_passTag_82 (by omega) rfl (fun hc82 => ?_) (fun hc82 => ?_)
    · refine g_aload_n (pc := 164) dc_S_passTag_164 rfl ?_
      refine g_iconst (pc := 165) (v := (-1)) dc_S_passTag_165 rfl ?_
      refine g_putfield (pc := 166) dc_S_passTag_166 fp_S_passTag_25 (am_se hal) (Nat.le_of_ble_eq_true rfl) rfl rfl ?_
      rw [List.set_set]
      refine g_iconst (pc := 169) (v := 3) dc_S_passTag_169 rfl ?_
      refine g_ireturn dc_S_passTag_170 rfl ?_
      rw [tgl_out (by omega), if_neg (show ¬ p < L.length by omega)]
      refine ⟨rfl, hto s hq w2, ?_⟩
      have ep : p = L.length := by omega
      rw [← ep]
      rfl
    · refine g_aload_n (pc := 85) dc_S_passTag_85 rfl ?_
      refine g_getfield (pc := 86) dc_S_passTag_86 fl_S_15 (am_se hal) rfl ?_
      refine g_aload_n (pc := 89) dc_S_passTag_89 rfl ?_
      refine g_getfield (pc := 90) dc_S_passTag_90 fl_S_19 (am_se hal) rfl ?_
      refine q_icmp_ge (pc := 93) (tgt := 164) (s + p) (s + L.length) dc_S_passTag_93 (by omega) (by omega) rfl (fun hc93 => ?_) (fun hc93 => ?_)
      · refine g_aload_n (pc := 164) dc_S_passTag_164 rfl ?_
        refine g_iconst (pc := 165) (v := (-1)) dc_S_passTag_165 rfl ?_
        refine g_putfield (pc := 166) dc_S_passTag_166 fp_S_passTag_25 (am_se hal) (Nat.le_of_ble_eq_true rfl) rfl rfl ?_
        rw [List.set_set]
        refine g_iconst (pc := 169) (v := 3) dc_S_passTag_169 rfl ?_
        refine g_ireturn dc_S_passTag_170 rfl ?_
        rw [tgl_out (by omega), if_neg (show ¬ p < L.length by omega)]
        refine ⟨rfl, hto s hq w2, ?_⟩
        have ep : p = L.length := by omega
        rw [← ep]
        rfl
      · have hc93 : p < L.length := by omega
        refine g_aload_n (pc := 96) dc_S_passTag_96 rfl ?_
        refine g_getfield (pc := 97) dc_S_passTag_97 fl_S_9 (am_se hal) rfl ?_
        refine g_aload_n (pc := 100) dc_S_passTag_100 rfl ?_
        refine g_getfield (pc := 101) dc_S_passTag_101 fl_S_15 (am_se hal) rfl ?_
        refine q_tx (pc := 104) p dc_S_passTag_104 (am_sn hac ha) hT hs (by omega) hc ?_
        refine g_istore_n (pc := 105) dc_S_passTag_105 (by decide) ?_
        show am_G X mt_S_passTag _ 106 [some (.ref a), some (.int (nI m)), some (.int (gx L p))] [] _ _
        refine g_iload_n (pc := 106) dc_S_passTag_106 rfl ?_
        refine g_bipush (pc := 107) (v := 62) dc_S_passTag_107 rfl ?_
        refine g_icmp_ne (pc := 109) (tgt := 128) dc_S_passTag_109 rfl (fun hc109 => ?_) (fun hc109 => ?_)
        · refine g_iload_n (pc := 128) dc_S_passTag_128 rfl ?_
          refine g_s1 (pc := 129) (M' := mt_W_isBlank) dc_S_passTag_129 mo_W_isBlank st_W_isBlank ln_S_78 (Nat.le_of_ble_eq_true rfl) (Nat.le_of_ble_eq_true rfl) (am_G.mono (c_W_isBlank (v := (gx L p))) ?_)
          intro r h1 hq
          rw [hq.1, hq.2]
          clear hq h1 r
          refine ⟨am_nti _, ?_⟩
          refine q_ifb_ne (pc := 132) (tgt := 141) dc_S_passTag_132 rfl (fun hc132 => ?_) (fun hc132 => ?_)
          · refine g_aload_n (pc := 141) dc_S_passTag_141 rfl ?_
            refine g_dup (pc := 142) dc_S_passTag_142 rfl ?_
            refine g_getfield (pc := 143) dc_S_passTag_143 fl_S_15 (am_se hal) rfl ?_
            refine g_iconst (pc := 146) (v := 1) dc_S_passTag_146 rfl ?_
            refine g_iadd (pc := 147) (v := (nI (s + (p + 1)))) dc_S_passTag_147 (q_as s p 1) ?_
            refine g_putfield (pc := 148) dc_S_passTag_148 fp_S_passTag_15 (am_se hal) (Nat.le_of_ble_eq_true rfl) rfl rfl ?_
            rw [List.set_set]
            show am_G X _ _ _ _ _ (h.set a (.inr (5, [.int w0, .int (er (hq.map (fun q => s + q.1))), .int (hto s hq w2), .int (nI (s + (p + 1))), .ref c, .int (nI (s + L.length)), .int (nI (s + nf)), .int (nI (s + nt)), .int (b1 cl)]))) _
            refine g_goto (pc := 151) (tgt := 158) dc_S_passTag_151 rfl ?_
            refine g_iinc (pc := 158) (v := (nI (m - 1))) dc_S_passTag_158 rfl (q_m1 (x := m) (by omega)) (by decide) ?_
            show am_G X mt_S_passTag _ 161 [some (.ref a), some (.int (nI (m - 1))), some (.int (gx L p))] [] _ _
            refine g_goto (pc := 161) (tgt := 81) dc_S_passTag_161 rfl ?_
            refine am_wk (am_le_s (am_le_s (am_le_n am_le_0))) ?_
            cases m with
            | zero => exact absurd hc82 (by omega)
            | succ m =>
              rw [tgl_b hc93 hc109 (Or.inl hc132)]
              exact l_S_passTag hal hx0 hac hn hnt m (p + 1) hq (by omega) (by omega) h1b (by omega) hqb
          · refine g_iload_n (pc := 135) dc_S_passTag_135 rfl ?_
            refine g_bipush (pc := 136) (v := 47) dc_S_passTag_136 rfl ?_
            refine g_icmp_ne (pc := 138) (tgt := 154) dc_S_passTag_138 rfl (fun hc138 => ?_) (fun hc138 => ?_)
            · refine g_aload_n (pc := 154) dc_S_passTag_154 rfl ?_
              refine g_v0 (pc := 155) (M' := mt_S_passAttribute) dc_S_passTag_155 mo_S_passAttribute im_S_passAttribute se_S_passAttribute ln_S_81 (am_se hal) rfl rfl (Nat.le_of_ble_eq_true rfl) (Nat.le_of_ble_eq_true rfl) (am_G.mono (t_S_passAttribute (p := p) (hq := hq) (w2 := w2) hal hx0 hac hc93 hqb) ?_)
              intro r h1 hq
              rw [hq.1, hq.2]
              clear hq h1 r
              refine ⟨am_nt0, ?_⟩
              show am_G X _ _ _ _ _ (h.set a (sC w0 (hqT L p (aE L p) (atr L p).2.1 (atr L p).2.2 hq) w2 s (atr L p).1 c L.length (nI (s + nf)) (nI (s + nt)) (b1 cl))) _
              refine g_iinc (pc := 158) (v := (nI (m - 1))) dc_S_passTag_158 rfl (q_m1 (x := m) (by omega)) (by decide) ?_
              show am_G X mt_S_passTag _ 161 [some (.ref a), some (.int (nI (m - 1))), some (.int (gx L p))] [] _ _
              refine g_goto (pc := 161) (tgt := 81) dc_S_passTag_161 rfl ?_
              refine am_wk (am_le_s (am_le_s (am_le_n am_le_0))) ?_
              have ha9 := atr_bd hc93
              cases m with
              | zero => exact absurd hc82 (by omega)
              | succ m =>
                rw [tgl_a hc93 hc109 (fun h9 => h9.elim (fun h8 => by rw [hc132] at h8; cases h8) hc138)]
                exact l_S_passTag hal hx0 hac hn hnt m (atr L p).1 _ (by omega) (by omega) h1b ha9.2.1 (hqT_bd hc93 hqb)
            · refine g_aload_n (pc := 141) dc_S_passTag_141 rfl ?_
              refine g_dup (pc := 142) dc_S_passTag_142 rfl ?_
              refine g_getfield (pc := 143) dc_S_passTag_143 fl_S_15 (am_se hal) rfl ?_
              refine g_iconst (pc := 146) (v := 1) dc_S_passTag_146 rfl ?_
              refine g_iadd (pc := 147) (v := (nI (s + (p + 1)))) dc_S_passTag_147 (q_as s p 1) ?_
              refine g_putfield (pc := 148) dc_S_passTag_148 fp_S_passTag_15 (am_se hal) (Nat.le_of_ble_eq_true rfl) rfl rfl ?_
              rw [List.set_set]
              show am_G X _ _ _ _ _ (h.set a (.inr (5, [.int w0, .int (er (hq.map (fun q => s + q.1))), .int (hto s hq w2), .int (nI (s + (p + 1))), .ref c, .int (nI (s + L.length)), .int (nI (s + nf)), .int (nI (s + nt)), .int (b1 cl)]))) _
              refine g_goto (pc := 151) (tgt := 158) dc_S_passTag_151 rfl ?_
              refine g_iinc (pc := 158) (v := (nI (m - 1))) dc_S_passTag_158 rfl (q_m1 (x := m) (by omega)) (by decide) ?_
              show am_G X mt_S_passTag _ 161 [some (.ref a), some (.int (nI (m - 1))), some (.int (gx L p))] [] _ _
              refine g_goto (pc := 161) (tgt := 81) dc_S_passTag_161 rfl ?_
              refine am_wk (am_le_s (am_le_s (am_le_n am_le_0))) ?_
              cases m with
              | zero => exact absurd hc82 (by omega)
              | succ m =>
                rw [tgl_b hc93 hc109 (Or.inr hc138)]
                exact l_S_passTag hal hx0 hac hn hnt m (p + 1) hq (by omega) (by omega) h1b (by omega) hqb
        · refine g_aload_n (pc := 112) dc_S_passTag_112 rfl ?_
          refine g_aload_n (pc := 113) dc_S_passTag_113 rfl ?_
          refine g_aload_n (pc := 114) dc_S_passTag_114 rfl ?_
          refine g_getfield (pc := 115) dc_S_passTag_115 fl_S_15 (am_se hal) rfl ?_
          refine g_iconst (pc := 118) (v := 1) dc_S_passTag_118 rfl ?_
          refine g_iadd (pc := 119) (v := (nI (s + (p + 1)))) dc_S_passTag_119 (q_as s p 1) ?_
          refine g_v1 (pc := 120) (M' := mt_S_rawTo) dc_S_passTag_120 mo_S_rawTo im_S_rawTo se_S_rawTo ln_S_75 (am_se hal) rfl rfl (Nat.le_of_ble_eq_true rfl) (Nat.le_of_ble_eq_true rfl) (am_G.mono (t_S_rawTo (p := p) (f := p + 1) (nf := nf) (nt := nt) (cl := cl) (am_se hal) (tt_set hx0 hac) (by omega) hn hnt) ?_)
          intro r h1 hq
          rw [hq.1, hq.2]
          clear hq h1 r
          refine ⟨am_nti _, ?_⟩
          refine g_putfield (pc := 123) dc_S_passTag_123 fp_S_passTag_15 (am_se hal) (Nat.le_of_ble_eq_true rfl) rfl rfl ?_
          rw [List.set_set]
          show am_G X _ _ _ _ _ (h.set a (.inr (5, [.int w0, .int (er (hq.map (fun q => s + q.1))), .int (hto s hq w2), .int (nI (s + (rwT L nf nt cl (p + 1)))), .ref c, .int (nI (s + L.length)), .int (nI (s + nf)), .int (nI (s + nt)), .int (b1 cl)]))) _
          refine g_iconst (pc := 126) (v := 2) dc_S_passTag_126 rfl ?_
          exact g_ireturn dc_S_passTag_127 rfl (by rw [tgl_e hc109, if_pos (show p < L.length by omega)]; exact ⟨rfl, rfl⟩)
  termination_by m => m
end SCA
