/-! ===== hosts, ports, dots, remarks ===== -/
theorem b1_f' {b : Bool} (h : b = false) : (0 : Int32) = b1 b := by rw [h]; rfl
theorem b1_t' {b : Bool} (h : b = true) : (1 : Int32) = b1 b := by rw [h]; rfl
def hoB (v : Int32) : Bool := isLe v || isDi v || decide (v = 45) || decide (v = 46)
def plB (v : Int32) : Bool := isLe v || isDi v || decide (v = 45) || decide (v = 46) || decide (v = 95) || decide (v = 126)
def isHo (L : List Int32) (f t : Nat) : Bool := decide (f < t ∧ t - f ≤ 60) && alp (fun j => hoB (gx L j)) f t
def dg (v : Int32) : Nat := v.toInt.toNat - 48
/-- the number that n digits make -/
def dgs (L : List Int32) (f : Nat) : Nat → Nat
  | 0 => 0
  | n + 1 => 10 * dgs L f n + dg (gx L (f + n))
theorem dgs_lt {L : List Int32} {f : Nat} : ∀ n : Nat, (∀ j, f ≤ j → j < f + n → isDi (gx L j) = true) → dgs L f n < 10 ^ n
  | 0, _ => by show 0 < 1; omega
  | n + 1, h => by
    have ih := dgs_lt n (fun j h1 h2 => h j h1 (by omega))
    have h1 := isDi_iff.mp (h (f + n) (by omega) (by omega))
    show 10 * dgs L f n + dg (gx L (f + n)) < 10 ^ (n + 1)
    have h2 : dg (gx L (f + n)) ≤ 9 := by unfold dg; omega
    rw [Nat.pow_succ]
    omega
theorem dgs_l5 {L : List Int32} {f n : Nat} (hn : n ≤ 5) (h : ∀ j, f ≤ j → j < f + n → isDi (gx L j) = true) : dgs L f n < 100000 := Nat.lt_of_lt_of_le (dgs_lt n h) (Nat.pow_le_pow_right (by decide) hn)
theorem dg_add {v : Int32} {p : Nat} (h : isDi v = true) : nI (10 * p) + v = nI (10 * p + (dg v + 48)) := by
  have h1 := isDi_iff.mp h
  have e := i_nat (v := v) (by omega)
  rw [← nI_add, show dg v + 48 = v.toInt.toNat by unfold dg; omega, ← e]
def prt (L : List Int32) (f t : Nat) : Option Nat := if 5 < t - f then none else if alp (fun j => isDi (gx L j)) f t = true then (if f = t then some 80 else if 65535 < dgs L f (t - f) then none else some (dgs L f (t - f))) else none
/-- behind a remark's --> -/
def rmk (L : List Int32) (f t : Nat) : Nat := fx (fun j => !(decide (gx L j = 45 ∧ gx L (j + 1) = 45 ∧ gx L (j + 2) = 62))) f (t - 2)
section TXE
variable {X : am_X} {d : Nat} {h : List va_E} {v : Int32} {a s f t k : Nat} {L : List Int32}
theorem c_M_isPlainByte : am_C X mt_M_isPlainByte (d + 1) [.int v] h (fun r h1 => r = some (.int (b1 (plB v))) ∧ h1 = h) := by
  show am_G X mt_M_isPlainByte (d + 1) 0 [some (.int v)] [] h _
  refine g_iload_n (pc := 0) dc_M_isPlainByte_0 rfl ?_
  refine g_s1 (pc := 1) (M' := mt_M_isLetter) dc_M_isPlainByte_1 mo_M_isLetter st_M_isLetter ln_M_58 (Nat.le_of_ble_eq_true rfl) (Nat.le_of_ble_eq_true rfl) (am_G.mono (c_M_isLetter (v := v)) ?_)
  intro r h1 hq
  rw [hq.1, hq.2]
  clear hq h1 r
  refine ⟨am_nti _, ?_⟩
  refine q_ifb_ne (pc := 4) (tgt := 38) dc_M_isPlainByte_4 rfl (fun hc4 => ?_) (fun hc4 => ?_)
  · refine g_iconst (pc := 38) (v := 1) dc_M_isPlainByte_38 rfl ?_
    refine g_goto (pc := 39) (tgt := 43) dc_M_isPlainByte_39 rfl ?_
    exact g_zreturn dc_M_isPlainByte_43 rfl rfl ⟨by simp [plB, b1, hc4], rfl⟩
  · refine g_iload_n (pc := 7) dc_M_isPlainByte_7 rfl ?_
    refine g_s1 (pc := 8) (M' := mt_M_isDigit) dc_M_isPlainByte_8 mo_M_isDigit st_M_isDigit ln_M_11 (Nat.le_of_ble_eq_true rfl) (Nat.le_of_ble_eq_true rfl) (am_G.mono (c_M_isDigit (v := v)) ?_)
    intro r h1 hq
    rw [hq.1, hq.2]
    clear hq h1 r
    refine ⟨am_nti _, ?_⟩
    refine q_ifb_ne (pc := 11) (tgt := 38) dc_M_isPlainByte_11 rfl (fun hc11 => ?_) (fun hc11 => ?_)
    · refine g_iconst (pc := 38) (v := 1) dc_M_isPlainByte_38 rfl ?_
      refine g_goto (pc := 39) (tgt := 43) dc_M_isPlainByte_39 rfl ?_
      exact g_zreturn dc_M_isPlainByte_43 rfl rfl ⟨by simp [plB, b1, hc4, hc11], rfl⟩
    · refine g_iload_n (pc := 14) dc_M_isPlainByte_14 rfl ?_
      refine g_bipush (pc := 15) (v := 45) dc_M_isPlainByte_15 rfl ?_
      refine g_icmp_eq (pc := 17) (tgt := 38) dc_M_isPlainByte_17 rfl (fun hc17 => ?_) (fun hc17 => ?_)
      · refine g_iconst (pc := 38) (v := 1) dc_M_isPlainByte_38 rfl ?_
        refine g_goto (pc := 39) (tgt := 43) dc_M_isPlainByte_39 rfl ?_
        exact g_zreturn dc_M_isPlainByte_43 rfl rfl ⟨by simp [plB, b1, hc4, hc11, hc17], rfl⟩
      · refine g_iload_n (pc := 20) dc_M_isPlainByte_20 rfl ?_
        refine g_bipush (pc := 21) (v := 46) dc_M_isPlainByte_21 rfl ?_
        refine g_icmp_eq (pc := 23) (tgt := 38) dc_M_isPlainByte_23 rfl (fun hc23 => ?_) (fun hc23 => ?_)
        · refine g_iconst (pc := 38) (v := 1) dc_M_isPlainByte_38 rfl ?_
          refine g_goto (pc := 39) (tgt := 43) dc_M_isPlainByte_39 rfl ?_
          exact g_zreturn dc_M_isPlainByte_43 rfl rfl ⟨by simp [plB, b1, hc4, hc11, hc17, hc23], rfl⟩
        · refine g_iload_n (pc := 26) dc_M_isPlainByte_26 rfl ?_
          refine g_bipush (pc := 27) (v := 95) dc_M_isPlainByte_27 rfl ?_
          refine g_icmp_eq (pc := 29) (tgt := 38) dc_M_isPlainByte_29 rfl (fun hc29 => ?_) (fun hc29 => ?_)
          · refine g_iconst (pc := 38) (v := 1) dc_M_isPlainByte_38 rfl ?_
            refine g_goto (pc := 39) (tgt := 43) dc_M_isPlainByte_39 rfl ?_
            exact g_zreturn dc_M_isPlainByte_43 rfl rfl ⟨by simp [plB, b1, hc4, hc11, hc17, hc23, hc29], rfl⟩
          · refine g_iload_n (pc := 32) dc_M_isPlainByte_32 rfl ?_
            refine g_bipush (pc := 33) (v := 126) dc_M_isPlainByte_33 rfl ?_
            refine g_icmp_ne (pc := 35) (tgt := 42) dc_M_isPlainByte_35 rfl (fun hc35 => ?_) (fun hc35 => ?_)
            · refine g_iconst (pc := 42) (v := 0) dc_M_isPlainByte_42 rfl ?_
              exact g_zreturn dc_M_isPlainByte_43 rfl rfl ⟨by simp [plB, b1, hc4, hc11, hc17, hc23, hc29, hc35], rfl⟩
            · refine g_iconst (pc := 38) (v := 1) dc_M_isPlainByte_38 rfl ?_
              refine g_goto (pc := 39) (tgt := 43) dc_M_isPlainByte_39 rfl ?_
              exact g_zreturn dc_M_isPlainByte_43 rfl rfl ⟨by simp [plB, b1, hc4, hc11, hc17, hc23, hc29, hc35], rfl⟩
theorem v_A_isHost {Q : Option Value → List va_E → Prop}  (hx : tt h a s L) (ht : t ≤ L.length) : ∀ n i : Nat, i + n = t → am_G X mt_A_isHost (d + 1) 17 [some (.ref a), some (.int (nI (s + f))), some (.int (nI (s + t))), some (.int (nI (s + (fx (fun j => hoB (gx L j)) i t)))), none] [] h Q → am_G X mt_A_isHost (d + 1) 17 [some (.ref a), some (.int (nI (s + f))), some (.int (nI (s + t))), some (.int (nI (s + i))), none] [] h Q
  | 0, i, e, K => by
    have e1 : fx (fun j => hoB (gx L j)) i t = i := fx_0 (by omega)
    rw [e1] at K
    exact K
  | n + 1, i, e, K => by
    by_cases hp : (fun j => hoB (gx L j)) i = true
    · rw [fx_t (P := fun j => hoB (gx L j)) (f := i) (t := t) (by omega) hp] at K
      have hx0 := hx
      obtain ⟨cap, g, ha, hT, hs, hc⟩ := hx
      refine g_iload_n (pc := 17) dc_A_isHost_17 rfl ?_
      refine g_iload_n (pc := 18) dc_A_isHost_18 rfl ?_
      refine q_icmp_ge (pc := 19) (tgt := 65) (s + i) (s + t) dc_A_isHost_19 (by omega) (by omega) rfl (fun hc => absurd hc (by omega)) (fun hc19 => ?_)
      refine g_aload_n (pc := 22) dc_A_isHost_22 rfl ?_
      refine g_iload_n (pc := 23) dc_A_isHost_23 rfl ?_
      refine q_tx (pc := 24) i dc_A_isHost_24 ha hT hs (by omega) hc ?_
      refine g_istore (pc := 25) dc_A_isHost_25 (by decide) ?_
      refine g_iload (pc := 27) dc_A_isHost_27 rfl ?_
      refine g_s1 (pc := 29) (M' := mt_W_isLetter) dc_A_isHost_29 mo_W_isLetter st_W_isLetter ln_A_107 (Nat.le_of_ble_eq_true rfl) (Nat.le_of_ble_eq_true rfl) (am_G.mono (c_W_isLetter (v := (gx L i))) ?_)
      intro r h1 hq
      rw [hq.1, hq.2]
      clear hq h1 r
      refine ⟨am_nti _, ?_⟩
      refine q_ifb_ne (pc := 32) (tgt := 59) dc_A_isHost_32 rfl (fun hc32 => ?_) (fun hc32 => ?_)
      · refine g_iinc (pc := 59) (v := (nI (s + (i + 1)))) dc_A_isHost_59 rfl (q_as s i 1) (by decide) ?_
        refine g_goto (pc := 62) (tgt := 17) dc_A_isHost_62 rfl ?_
        refine am_wk (am_le_s (am_le_s (am_le_s (am_le_s (am_le_n am_le_0))))) ?_
        exact v_A_isHost hx0 ht n (i + 1) (by omega) K
      · refine g_iload (pc := 35) dc_A_isHost_35 rfl ?_
        refine g_s1 (pc := 37) (M' := mt_W_isDigit) dc_A_isHost_37 mo_W_isDigit st_W_isDigit ln_A_111 (Nat.le_of_ble_eq_true rfl) (Nat.le_of_ble_eq_true rfl) (am_G.mono (c_W_isDigit (v := (gx L i))) ?_)
        intro r h1 hq
        rw [hq.1, hq.2]
        clear hq h1 r
        refine ⟨am_nti _, ?_⟩
        refine q_ifb_ne (pc := 40) (tgt := 59) dc_A_isHost_40 rfl (fun hc40 => ?_) (fun hc40 => ?_)
        · refine g_iinc (pc := 59) (v := (nI (s + (i + 1)))) dc_A_isHost_59 rfl (q_as s i 1) (by decide) ?_
          refine g_goto (pc := 62) (tgt := 17) dc_A_isHost_62 rfl ?_
          refine am_wk (am_le_s (am_le_s (am_le_s (am_le_s (am_le_n am_le_0))))) ?_
          exact v_A_isHost hx0 ht n (i + 1) (by omega) K
        · refine g_iload (pc := 43) dc_A_isHost_43 rfl ?_
          refine g_bipush (pc := 45) (v := 45) dc_A_isHost_45 rfl ?_
          refine g_icmp_eq (pc := 47) (tgt := 59) dc_A_isHost_47 rfl (fun hc47 => ?_) (fun hc47 => ?_)
          · refine g_iinc (pc := 59) (v := (nI (s + (i + 1)))) dc_A_isHost_59 rfl (q_as s i 1) (by decide) ?_
            refine g_goto (pc := 62) (tgt := 17) dc_A_isHost_62 rfl ?_
            refine am_wk (am_le_s (am_le_s (am_le_s (am_le_s (am_le_n am_le_0))))) ?_
            exact v_A_isHost hx0 ht n (i + 1) (by omega) K
          · refine g_iload (pc := 50) dc_A_isHost_50 rfl ?_
            refine g_bipush (pc := 52) (v := 46) dc_A_isHost_52 rfl ?_
            refine g_icmp_eq (pc := 54) (tgt := 59) dc_A_isHost_54 rfl (fun hc54 => ?_) (fun hc54 => ?_)
            · refine g_iinc (pc := 59) (v := (nI (s + (i + 1)))) dc_A_isHost_59 rfl (q_as s i 1) (by decide) ?_
              refine g_goto (pc := 62) (tgt := 17) dc_A_isHost_62 rfl ?_
              refine am_wk (am_le_s (am_le_s (am_le_s (am_le_s (am_le_n am_le_0))))) ?_
              exact v_A_isHost hx0 ht n (i + 1) (by omega) K
            · exact absurd hp (by show ¬ hoB (gx L i) = true; simp [hoB, hc32, hc40, hc47, hc54])
    · rw [fx_f (P := fun j => hoB (gx L j)) (f := i) (t := t) hp] at K
      exact K
theorem t_A_isHost (hx : tt h a s L) (hft : f ≤ t) (ht : t ≤ L.length) : am_C X mt_A_isHost (d + 1) [.ref a, .int (nI (s + f)), .int (nI (s + t))] h (fun r h1 => r = some (.int (b1 (isHo L f t))) ∧ h1 = h) := by
  show am_G X mt_A_isHost (d + 1) 0 [some (.ref a), some (.int (nI (s + f))), some (.int (nI (s + t))), none, none] [] h _
  have hx0 := hx
  obtain ⟨cap, g, ha, hT, hs, hc⟩ := hx
  refine g_iload_n (pc := 0) dc_A_isHost_0 rfl ?_
  refine g_iload_n (pc := 1) dc_A_isHost_1 rfl ?_
  refine q_icmp_eq (pc := 2) (tgt := 13) (s + t) (s + f) dc_A_isHost_2 (by omega) (by omega) rfl (fun hc2 => ?_) (fun hc2 => ?_)
  · refine g_iconst (pc := 13) (v := 0) dc_A_isHost_13 rfl ?_
    exact g_zreturn dc_A_isHost_14 rfl rfl ⟨congrArg (fun z => some (Value.int z)) (b1_f' (by unfold isHo; rw [decide_eq_false (by omega), Bool.false_and])), rfl⟩
  · refine g_iload_n (pc := 5) dc_A_isHost_5 rfl ?_
    refine g_iload_n (pc := 6) dc_A_isHost_6 rfl ?_
    refine g_isub (pc := 7) (v := (nI (t - f))) dc_A_isHost_7 (q_ss (s := s) (a := t) (b := f) (by omega)) ?_
    refine g_bipush (pc := 8) (v := 60) dc_A_isHost_8 rfl ?_
    refine q_icmp_le (pc := 10) (tgt := 15) (t - f) 60 dc_A_isHost_10 (by omega) (by omega) rfl (fun hc10 => ?_) (fun hc10 => ?_)
    · refine g_iload_n (pc := 15) dc_A_isHost_15 rfl ?_
      refine g_istore_n (pc := 16) dc_A_isHost_16 (by decide) ?_
      refine v_A_isHost hx0 ht (t - f) f (by omega) ?_
      have hb := fx_bd (P := fun j => hoB (gx L j)) hft
      have ho := fx_out (P := fun j => hoB (gx L j)) (f := f) (t := t)
      have he : isHo L f t = alp (fun j => hoB (gx L j)) f t := by unfold isHo; rw [decide_eq_true ⟨by omega, by omega⟩, Bool.true_and]
      rw [he]
      have he0 := alp_0 (P := fun j => hoB (gx L j)) (f := f) (t := t)
      have he1 := alp_1 (P := fun j => hoB (gx L j)) (f := f) (t := t)
      generalize fx (fun j => hoB (gx L j)) f t = i at *
      refine g_iload_n (pc := 17) dc_A_isHost_17 rfl ?_
      refine g_iload_n (pc := 18) dc_A_isHost_18 rfl ?_
      refine q_icmp_ge (pc := 19) (tgt := 65) (s + i) (s + t) dc_A_isHost_19 (by omega) (by omega) rfl (fun hc19 => ?_) (fun hc19 => ?_)
      · refine g_iconst (pc := 65) (v := 1) dc_A_isHost_65 rfl ?_
        exact g_zreturn dc_A_isHost_66 rfl rfl ⟨congrArg (fun z => some (Value.int z)) (he1 (by omega)), rfl⟩
      · refine g_aload_n (pc := 22) dc_A_isHost_22 rfl ?_
        refine g_iload_n (pc := 23) dc_A_isHost_23 rfl ?_
        refine q_tx (pc := 24) i dc_A_isHost_24 ha hT hs (by omega) hc ?_
        refine g_istore (pc := 25) dc_A_isHost_25 (by decide) ?_
        refine g_iload (pc := 27) dc_A_isHost_27 rfl ?_
        refine g_s1 (pc := 29) (M' := mt_W_isLetter) dc_A_isHost_29 mo_W_isLetter st_W_isLetter ln_A_107 (Nat.le_of_ble_eq_true rfl) (Nat.le_of_ble_eq_true rfl) (am_G.mono (c_W_isLetter (v := (gx L i))) ?_)
        intro r h1 hq
        rw [hq.1, hq.2]
        clear hq h1 r
        refine ⟨am_nti _, ?_⟩
        refine q_ifb_ne (pc := 32) (tgt := 59) dc_A_isHost_32 rfl (fun hc32 => ?_) (fun hc32 => ?_)
        · exact absurd (ho (by omega)) (by show ¬ hoB (gx L i) = false; simp [hoB, hc32])
        · refine g_iload (pc := 35) dc_A_isHost_35 rfl ?_
          refine g_s1 (pc := 37) (M' := mt_W_isDigit) dc_A_isHost_37 mo_W_isDigit st_W_isDigit ln_A_111 (Nat.le_of_ble_eq_true rfl) (Nat.le_of_ble_eq_true rfl) (am_G.mono (c_W_isDigit (v := (gx L i))) ?_)
          intro r h1 hq
          rw [hq.1, hq.2]
          clear hq h1 r
          refine ⟨am_nti _, ?_⟩
          refine q_ifb_ne (pc := 40) (tgt := 59) dc_A_isHost_40 rfl (fun hc40 => ?_) (fun hc40 => ?_)
          · exact absurd (ho (by omega)) (by show ¬ hoB (gx L i) = false; simp [hoB, hc32, hc40])
          · refine g_iload (pc := 43) dc_A_isHost_43 rfl ?_
            refine g_bipush (pc := 45) (v := 45) dc_A_isHost_45 rfl ?_
            refine g_icmp_eq (pc := 47) (tgt := 59) dc_A_isHost_47 rfl (fun hc47 => ?_) (fun hc47 => ?_)
            · exact absurd (ho (by omega)) (by show ¬ hoB (gx L i) = false; simp [hoB, hc32, hc40, hc47])
            · refine g_iload (pc := 50) dc_A_isHost_50 rfl ?_
              refine g_bipush (pc := 52) (v := 46) dc_A_isHost_52 rfl ?_
              refine g_icmp_eq (pc := 54) (tgt := 59) dc_A_isHost_54 rfl (fun hc54 => ?_) (fun hc54 => ?_)
              · exact absurd (ho (by omega)) (by show ¬ hoB (gx L i) = false; simp [hoB, hc32, hc40, hc47, hc54])
              · refine g_iconst (pc := 57) (v := 0) dc_A_isHost_57 rfl ?_
                exact g_zreturn dc_A_isHost_58 rfl rfl ⟨congrArg (fun z => some (Value.int z)) (he0 (by omega)), rfl⟩
    · refine g_iconst (pc := 13) (v := 0) dc_A_isHost_13 rfl ?_
      exact g_zreturn dc_A_isHost_14 rfl rfl ⟨congrArg (fun z => some (Value.int z)) (b1_f' (by unfold isHo; rw [decide_eq_false (by omega), Bool.false_and])), rfl⟩
theorem l_A_portOf (hx : tt h a s L) (hft : f ≤ t) (h5 : t - f ≤ 5) (ht : t ≤ L.length) : ∀ n i : Nat, i + n = t → f ≤ i → (∀ j, f ≤ j → j < i → isDi (gx L j) = true) → am_G X mt_A_portOf (d + 1) 14 [some (.ref a), some (.int (nI (s + f))), some (.int (nI (s + t))), some (.int (nI (dgs L f (i - f)))), some (.int (nI (s + i)))] [] h (fun r h1 => r = some (.int (er (prt L f t))) ∧ h1 = h)
  | 0, i, e, hfi, hp => by
    obtain rfl : i = t := by omega
    have hlt := dgs_l5 (L := L) (f := f) h5 (fun j h1 h2 => hp j h1 (by omega))
    have ha1 : alp (fun j => isDi (gx L j)) f i = true := alp_iff.mpr hp
    obtain ⟨cap, g, ha, hT, hs, hc⟩ := hx
    refine g_iload (pc := 14) dc_A_portOf_14 rfl ?_
    refine g_iload_n (pc := 16) dc_A_portOf_16 rfl ?_
    refine q_icmp_ge (pc := 17) (tgt := 51) (s + i) (s + i) dc_A_portOf_17 (by omega) (by omega) rfl (fun hc17 => ?_) (fun hc => absurd hc (by omega))
    refine g_iload_n (pc := 51) dc_A_portOf_51 rfl ?_
    refine g_iload_n (pc := 52) dc_A_portOf_52 rfl ?_
    refine q_icmp_ne (pc := 53) (tgt := 59) (s + f) (s + i) dc_A_portOf_53 (by omega) (by omega) rfl (fun hc53 => ?_) (fun hc53 => ?_)
    · refine g_iload_n (pc := 59) dc_A_portOf_59 rfl ?_
      refine g_ldc (pc := 60) dc_A_portOf_60 cs_A_114 ?_
      refine q_icmp_le (pc := 62) (tgt := 69) (dgs L f (i - f)) 65535 dc_A_portOf_62 (by omega) (by omega) rfl (fun hc62 => ?_) (fun hc62 => ?_)
      · refine g_iload_n (pc := 69) dc_A_portOf_69 rfl ?_
        exact g_ireturn dc_A_portOf_70 rfl ⟨congrArg (fun z => some (Value.int z)) (by unfold prt; rw [if_neg (by omega), if_pos ha1, if_neg (by omega), if_neg (by omega)]; rfl), rfl⟩
      · refine g_iconst (pc := 65) (v := (-1)) dc_A_portOf_65 rfl ?_
        refine g_goto (pc := 66) (tgt := 70) dc_A_portOf_66 rfl ?_
        exact g_ireturn dc_A_portOf_70 rfl ⟨congrArg (fun z => some (Value.int z)) (by unfold prt; rw [if_neg (by omega), if_pos ha1, if_neg (by omega), if_pos (by omega)]; rfl), rfl⟩
    · refine g_bipush (pc := 56) (v := 80) dc_A_portOf_56 rfl ?_
      exact g_ireturn dc_A_portOf_58 rfl ⟨congrArg (fun z => some (Value.int z)) (by unfold prt; rw [if_neg (by omega), if_pos ha1, if_pos (by omega)]; rfl), rfl⟩
  | n + 1, i, e, hfi, hp => by
    have hlt := dgs_l5 (L := L) (f := f) (n := i - f) (by omega) (fun j h1 h2 => hp j h1 (by omega))
    have hx0 := hx
    obtain ⟨cap, g, ha, hT, hs, hc⟩ := hx
    refine g_iload (pc := 14) dc_A_portOf_14 rfl ?_
    refine g_iload_n (pc := 16) dc_A_portOf_16 rfl ?_
    refine q_icmp_ge (pc := 17) (tgt := 51) (s + i) (s + t) dc_A_portOf_17 (by omega) (by omega) rfl (fun hc => absurd hc (by omega)) (fun hc17 => ?_)
    refine g_aload_n (pc := 20) dc_A_portOf_20 rfl ?_
    refine g_iload (pc := 21) dc_A_portOf_21 rfl ?_
    refine q_tx (pc := 23) i dc_A_portOf_23 ha hT hs (by omega) hc ?_
    refine g_s1 (pc := 24) (M' := mt_W_isDigit) dc_A_portOf_24 mo_W_isDigit st_W_isDigit ln_A_111 (Nat.le_of_ble_eq_true rfl) (Nat.le_of_ble_eq_true rfl) (am_G.mono (c_W_isDigit (v := (gx L i))) ?_)
    intro r h1 hq
    rw [hq.1, hq.2]
    clear hq h1 r
    refine ⟨am_nti _, ?_⟩
    refine q_ifb_ne (pc := 27) (tgt := 32) dc_A_portOf_27 rfl (fun hc27 => ?_) (fun hc27 => ?_)
    · refine g_bipush (pc := 32) (v := 10) dc_A_portOf_32 rfl ?_
      refine g_iload_n (pc := 34) dc_A_portOf_34 rfl ?_
      refine g_imul (pc := 35) (v := (nI (10 * (dgs L f (i - f))))) dc_A_portOf_35 (pk_mul 10 (dgs L f (i - f))) ?_
      refine g_aload_n (pc := 36) dc_A_portOf_36 rfl ?_
      refine g_iload (pc := 37) dc_A_portOf_37 rfl ?_
      refine q_tx (pc := 39) i dc_A_portOf_39 ha hT hs (by omega) hc ?_
      refine g_iadd (pc := 40) (v := (nI (10 * dgs L f (i - f) + (dg (gx L i) + 48)))) dc_A_portOf_40 (dg_add hc27) ?_
      refine g_bipush (pc := 41) (v := 48) dc_A_portOf_41 rfl ?_
      refine g_isub (pc := 43) (v := (nI (dgs L f (i + 1 - f)))) dc_A_portOf_43 (by rw [show (48 : Int32) = nI 48 from rfl, pk_sub (by omega), show i + 1 - f = (i - f) + 1 by omega]; show _ = nI (10 * dgs L f (i - f) + dg (gx L (f + (i - f)))); rw [show f + (i - f) = i by omega]; exact congrArg nI (by omega)) ?_
      refine g_istore_n (pc := 44) dc_A_portOf_44 (by decide) ?_
      refine g_iinc (pc := 45) (v := (nI (s + (i + 1)))) dc_A_portOf_45 rfl (q_as s i 1) (by decide) ?_
      refine g_goto (pc := 48) (tgt := 14) dc_A_portOf_48 rfl ?_
      exact l_A_portOf hx0 hft h5 ht n (i + 1) (by omega) (by omega) (fun j h1 h2 => by
        rcases Nat.eq_or_lt_of_le (Nat.le_of_lt_succ h2) with e9 | e9
        · rw [e9]; exact hc27
        · exact hp j h1 e9)
    · refine g_iconst (pc := 30) (v := (-1)) dc_A_portOf_30 rfl ?_
      exact g_ireturn dc_A_portOf_31 rfl ⟨congrArg (fun z => some (Value.int z)) (by unfold prt; rw [if_neg (by omega), if_neg (fun h9 => by rw [alp_iff.mp h9 i hfi (by omega)] at hc27; cases hc27)]; rfl), rfl⟩
theorem t_A_portOf (hx : tt h a s L) (hft : f ≤ t) (ht : t ≤ L.length) : am_C X mt_A_portOf (d + 1) [.ref a, .int (nI (s + f)), .int (nI (s + t))] h (fun r h1 => r = some (.int (er (prt L f t))) ∧ h1 = h) := by
  show am_G X mt_A_portOf (d + 1) 0 [some (.ref a), some (.int (nI (s + f))), some (.int (nI (s + t))), none, none] [] h _
  have hx0 := hx
  obtain ⟨cap, g, ha, hT, hs, hc⟩ := hx
  refine g_iload_n (pc := 0) dc_A_portOf_0 rfl ?_
  refine g_iload_n (pc := 1) dc_A_portOf_1 rfl ?_
  refine g_isub (pc := 2) (v := (nI (t - f))) dc_A_portOf_2 (q_ss (s := s) (a := t) (b := f) (by omega)) ?_
  refine g_iconst (pc := 3) (v := 5) dc_A_portOf_3 rfl ?_
  refine q_icmp_le (pc := 4) (tgt := 9) (t - f) 5 dc_A_portOf_4 (by omega) (by omega) rfl (fun hc4 => ?_) (fun hc4 => ?_)
  · refine g_iconst (pc := 9) (v := 0) dc_A_portOf_9 rfl ?_
    refine g_istore_n (pc := 10) dc_A_portOf_10 (by decide) ?_
    refine g_iload_n (pc := 11) dc_A_portOf_11 rfl ?_
    refine g_istore (pc := 12) dc_A_portOf_12 (by decide) ?_
    have h9 := l_A_portOf (X := X) (d := d) hx0 hft (by omega) ht (t - f) f (by omega) (Nat.le_refl _) (fun j h1 h2 => absurd h2 (by omega))
    rw [Nat.sub_self] at h9
    exact h9
  · refine g_iconst (pc := 7) (v := (-1)) dc_A_portOf_7 rfl ?_
    exact g_ireturn dc_A_portOf_8 rfl ⟨congrArg (fun z => some (Value.int z)) (by unfold prt; rw [if_pos (by omega)]; rfl), rfl⟩
theorem v_A_behindLastSlash {Q : Option Value → List va_E → Prop} (hx : tt h a s L) : ∀ n i : Nat, i = f + n → i ≤ L.length → am_G X mt_A_behindLastSlash d 2 [some (.ref a), some (.int (nI (s + f))), some (.int (nI (s + t))), some (.int (nI (s + (bw (nev 47) L f i))))] [] h Q → am_G X mt_A_behindLastSlash d 2 [some (.ref a), some (.int (nI (s + f))), some (.int (nI (s + t))), some (.int (nI (s + i)))] [] h Q
  | 0, i, e, hl, K => by
    have e1 : bw (nev 47) L f i = i := (bw_0 (by omega)).trans (by omega)
    rw [e1] at K
    exact K
  | n + 1, i, e, hl, K => by
    obtain ⟨j, rfl⟩ : ∃ j, i = j + 1 := ⟨i - 1, by omega⟩
    by_cases hp : nev 47 (gx L j) = true
    · rw [bw_t (by omega) hp] at K
      have hx0 := hx
      obtain ⟨cap, g, ha, hT, hs, hc⟩ := hx
      refine g_iload_n (pc := 2) dc_A_behindLastSlash_2 rfl ?_
      refine g_iload_n (pc := 3) dc_A_behindLastSlash_3 rfl ?_
      refine q_icmp_le (pc := 4) (tgt := 23) (s + (j + 1)) (s + f) dc_A_behindLastSlash_4 (by omega) (by omega) rfl (fun hc => absurd hc (by omega)) (fun hc4 => ?_)
      refine g_aload_n (pc := 7) dc_A_behindLastSlash_7 rfl ?_
      refine g_iload_n (pc := 8) dc_A_behindLastSlash_8 rfl ?_
      refine g_iconst (pc := 9) (v := 1) dc_A_behindLastSlash_9 rfl ?_
      refine g_isub (pc := 10) (v := (nI (s + j))) dc_A_behindLastSlash_10 (q_sn (s := s) (a := j + 1) (b := 1) (by omega)) ?_
      refine q_tx (pc := 11) j dc_A_behindLastSlash_11 ha hT hs (by omega) hc ?_
      refine g_bipush (pc := 12) (v := 47) dc_A_behindLastSlash_12 rfl ?_
      refine g_icmp_eq (pc := 14) (tgt := 23) dc_A_behindLastSlash_14 rfl (fun hc => absurd hc (fun h9 => by rw [nev_f h9] at hp; cases hp)) (fun hc14 => ?_)
      refine g_iinc (pc := 17) (v := (nI (s + j))) dc_A_behindLastSlash_17 rfl (q_sm1 (s := s) (a := j + 1) (by omega)) (by decide) ?_
      refine g_goto (pc := 20) (tgt := 2) dc_A_behindLastSlash_20 rfl ?_
      exact v_A_behindLastSlash hx0 n j (by omega) (by omega) K
    · rw [bw_f (by omega) hp] at K
      exact K
theorem t_A_behindLastSlash (hx : tt h a s L) (hft : f ≤ t) (ht : t ≤ L.length) : am_C X mt_A_behindLastSlash d [.ref a, .int (nI (s + f)), .int (nI (s + t))] h (fun r h1 => r = some (.int (nI (s + bw (nev 47) L f t))) ∧ h1 = h) := by
  show am_G X mt_A_behindLastSlash d 0 [some (.ref a), some (.int (nI (s + f))), some (.int (nI (s + t))), none] [] h _
  have hb := bw_bd (p := nev 47) (L := L) hft
  refine g_iload_n (pc := 0) dc_A_behindLastSlash_0 rfl ?_
  refine g_istore_n (pc := 1) dc_A_behindLastSlash_1 (by decide) ?_
  refine v_A_behindLastSlash hx (t - f) t (by omega) ht ?_
  obtain ⟨cap, g, ha, hT, hs, hc⟩ := hx
  have ho := bw_out (p := nev 47) (L := L) (f := f) (t - f)
  refine g_iload_n (pc := 2) dc_A_behindLastSlash_2 rfl ?_
  refine g_iload_n (pc := 3) dc_A_behindLastSlash_3 rfl ?_
  refine q_icmp_le (pc := 4) (tgt := 23) (s + (bw (nev 47) L f t)) (s + f) dc_A_behindLastSlash_4 (by omega) (by omega) rfl (fun hc4 => ?_) (fun hc4 => ?_)
  · refine g_iload_n (pc := 23) dc_A_behindLastSlash_23 rfl ?_
    exact g_ireturn dc_A_behindLastSlash_24 rfl ⟨rfl, rfl⟩
  · refine g_aload_n (pc := 7) dc_A_behindLastSlash_7 rfl ?_
    refine g_iload_n (pc := 8) dc_A_behindLastSlash_8 rfl ?_
    refine g_iconst (pc := 9) (v := 1) dc_A_behindLastSlash_9 rfl ?_
    refine g_isub (pc := 10) (v := (nI (s + (bw (nev 47) L f t - 1)))) dc_A_behindLastSlash_10 (q_sn (s := s) (a := bw (nev 47) L f t) (b := 1) (by omega)) ?_
    refine q_tx (pc := 11) (bw (nev 47) L f t - 1) dc_A_behindLastSlash_11 ha hT hs (by omega) hc ?_
    refine g_bipush (pc := 12) (v := 47) dc_A_behindLastSlash_12 rfl ?_
    refine g_icmp_eq (pc := 14) (tgt := 23) dc_A_behindLastSlash_14 rfl (fun hc14 => ?_) (fun hc => absurd hc (fun h9 => by have h8 := ho (by show f < bw (nev 47) L f t; omega); rw [show bwd (nev 47) L f (t - f) = bw (nev 47) L f t from rfl, nev_t h9] at h8; cases h8))
    refine g_iload_n (pc := 23) dc_A_behindLastSlash_23 rfl ?_
    exact g_ireturn dc_A_behindLastSlash_24 rfl ⟨rfl, rfl⟩
theorem l_M_isDots (hx : tt h a s L) (hft : f ≤ t) (hk : t - f = k) (ht : t ≤ L.length) : ∀ n i : Nat, i + n = t → f ≤ i → (∀ j, f ≤ j → j < i → gx L j = 46) → am_G X mt_M_isDots d 17 [some (.ref a), some (.int (nI (s + f))), some (.int (nI (s + t))), some (.int (nI k)), some (.int 1), some (.int (nI (s + i)))] [] h (fun r h1 => r = some (.int (b1 (decide (t - f = k) && alp (fun j => decide (gx L j = 46)) f t))) ∧ h1 = h)
  | 0, i, e, hfi, hp => by
    have he : (1 : Int32) = b1 (decide (t - f = k) && alp (fun j => decide (gx L j = 46)) f t) := by rw [decide_eq_true hk, Bool.true_and]; exact b1_t' (alp_iff.mpr (fun j h1 h2 => decide_eq_true (hp j h1 (by omega))))
    obtain ⟨cap, g, ha, hT, hs, hc⟩ := hx
    refine g_iload (pc := 17) dc_M_isDots_17 rfl ?_
    refine g_iload_n (pc := 19) dc_M_isDots_19 rfl ?_
    refine q_icmp_ge (pc := 20) (tgt := 50) (s + i) (s + t) dc_M_isDots_20 (by omega) (by omega) rfl (fun hc20 => ?_) (fun hc => absurd hc (by omega))
    refine g_iload (pc := 50) dc_M_isDots_50 rfl ?_
    exact g_zreturn dc_M_isDots_52 rfl rfl ⟨congrArg (fun z => some (Value.int z)) he, rfl⟩
  | n + 1, i, e, hfi, hp => by
    have hx0 := hx
    obtain ⟨cap, g, ha, hT, hs, hc⟩ := hx
    refine g_iload (pc := 17) dc_M_isDots_17 rfl ?_
    refine g_iload_n (pc := 19) dc_M_isDots_19 rfl ?_
    refine q_icmp_ge (pc := 20) (tgt := 50) (s + i) (s + t) dc_M_isDots_20 (by omega) (by omega) rfl (fun hc => absurd hc (by omega)) (fun hc20 => ?_)
    refine g_iload (pc := 23) dc_M_isDots_23 rfl ?_
    refine g_if_eq (pc := 25) (tgt := 50) dc_M_isDots_25 rfl (fun hc => absurd hc (by decide)) (fun _ => ?_)
    refine g_aload_n (pc := 28) dc_M_isDots_28 rfl ?_
    refine g_iload (pc := 29) dc_M_isDots_29 rfl ?_
    refine q_tx (pc := 31) i dc_M_isDots_31 ha hT hs (by omega) hc ?_
    refine g_bipush (pc := 32) (v := 46) dc_M_isDots_32 rfl ?_
    refine g_icmp_ne (pc := 34) (tgt := 41) dc_M_isDots_34 rfl (fun hc34 => ?_) (fun hc34 => ?_)
    · refine g_iconst (pc := 41) (v := 0) dc_M_isDots_41 rfl ?_
      refine g_istore (pc := 42) dc_M_isDots_42 (by decide) ?_
      refine g_iinc (pc := 44) (v := (nI (s + (i + 1)))) dc_M_isDots_44 rfl (q_as s i 1) (by decide) ?_
      refine g_goto (pc := 47) (tgt := 17) dc_M_isDots_47 rfl ?_
      refine g_iload (pc := 17) dc_M_isDots_17 rfl ?_
      refine g_iload_n (pc := 19) dc_M_isDots_19 rfl ?_
      refine q_icmp_ge (pc := 20) (tgt := 50) (s + (i + 1)) (s + t) dc_M_isDots_20 (by omega) (by omega) rfl (fun hc20 => ?_) (fun hc20 => ?_)
      · refine g_iload (pc := 50) dc_M_isDots_50 rfl ?_
        exact g_zreturn dc_M_isDots_52 rfl rfl ⟨congrArg (fun z => some (Value.int z)) (b1_f' (by rw [show alp (fun j => decide (gx L j = 46)) f t = false from Bool.eq_false_iff.mpr (fun h9 => hc34 (of_decide_eq_true (alp_iff.mp h9 i hfi (by omega)))), Bool.and_false])), rfl⟩
      · refine g_iload (pc := 23) dc_M_isDots_23 rfl ?_
        refine g_if_eq (pc := 25) (tgt := 50) dc_M_isDots_25 rfl (fun _ => ?_) (fun hc => absurd hc (by decide))
        refine g_iload (pc := 50) dc_M_isDots_50 rfl ?_
        exact g_zreturn dc_M_isDots_52 rfl rfl ⟨congrArg (fun z => some (Value.int z)) (b1_f' (by rw [show alp (fun j => decide (gx L j = 46)) f t = false from Bool.eq_false_iff.mpr (fun h9 => hc34 (of_decide_eq_true (alp_iff.mp h9 i hfi (by omega)))), Bool.and_false])), rfl⟩
    · refine g_iconst (pc := 37) (v := 1) dc_M_isDots_37 rfl ?_
      refine g_goto (pc := 38) (tgt := 42) dc_M_isDots_38 rfl ?_
      refine g_istore (pc := 42) dc_M_isDots_42 (by decide) ?_
      refine g_iinc (pc := 44) (v := (nI (s + (i + 1)))) dc_M_isDots_44 rfl (q_as s i 1) (by decide) ?_
      refine g_goto (pc := 47) (tgt := 17) dc_M_isDots_47 rfl ?_
      exact l_M_isDots hx0 hft hk ht n (i + 1) (by omega) (by omega) (fun j h1 h2 => by
        rcases Nat.eq_or_lt_of_le (Nat.le_of_lt_succ h2) with e9 | e9
        · rw [e9]; exact hc34
        · exact hp j h1 e9)
theorem t_M_isDots (hx : tt h a s L) (hft : f ≤ t) (hk : k < 2 ^ 30) (ht : t ≤ L.length) : am_C X mt_M_isDots d [.ref a, .int (nI (s + f)), .int (nI (s + t)), .int (nI k)] h (fun r h1 => r = some (.int (b1 (decide (t - f = k) && alp (fun j => decide (gx L j = 46)) f t))) ∧ h1 = h) := by
  show am_G X mt_M_isDots d 0 [some (.ref a), some (.int (nI (s + f))), some (.int (nI (s + t))), some (.int (nI k)), none, none] [] h _
  have hx0 := hx
  obtain ⟨cap, g, ha, hT, hs, hc⟩ := hx
  refine g_iload_n (pc := 0) dc_M_isDots_0 rfl ?_
  refine g_iload_n (pc := 1) dc_M_isDots_1 rfl ?_
  refine g_isub (pc := 2) (v := (nI (t - f))) dc_M_isDots_2 (q_ss (s := s) (a := t) (b := f) (by omega)) ?_
  refine g_iload_n (pc := 3) dc_M_isDots_3 rfl ?_
  refine q_icmp_ne (pc := 4) (tgt := 11) (t - f) k dc_M_isDots_4 (by omega) (by omega) rfl (fun hc4 => ?_) (fun hc4 => ?_)
  · refine g_iconst (pc := 11) (v := 0) dc_M_isDots_11 rfl ?_
    refine g_istore (pc := 12) dc_M_isDots_12 (by decide) ?_
    refine g_iload_n (pc := 14) dc_M_isDots_14 rfl ?_
    refine g_istore (pc := 15) dc_M_isDots_15 (by decide) ?_
    refine g_iload (pc := 17) dc_M_isDots_17 rfl ?_
    refine g_iload_n (pc := 19) dc_M_isDots_19 rfl ?_
    refine q_icmp_ge (pc := 20) (tgt := 50) (s + f) (s + t) dc_M_isDots_20 (by omega) (by omega) rfl (fun hc20 => ?_) (fun hc20 => ?_)
    · refine g_iload (pc := 50) dc_M_isDots_50 rfl ?_
      exact g_zreturn dc_M_isDots_52 rfl rfl ⟨congrArg (fun z => some (Value.int z)) (b1_f' (by rw [decide_eq_false hc4, Bool.false_and])), rfl⟩
    · refine g_iload (pc := 23) dc_M_isDots_23 rfl ?_
      refine g_if_eq (pc := 25) (tgt := 50) dc_M_isDots_25 rfl (fun _ => ?_) (fun hc => absurd hc (by decide))
      refine g_iload (pc := 50) dc_M_isDots_50 rfl ?_
      exact g_zreturn dc_M_isDots_52 rfl rfl ⟨congrArg (fun z => some (Value.int z)) (b1_f' (by rw [decide_eq_false hc4, Bool.false_and])), rfl⟩
  · refine g_iconst (pc := 7) (v := 1) dc_M_isDots_7 rfl ?_
    refine g_goto (pc := 8) (tgt := 12) dc_M_isDots_8 rfl ?_
    refine g_istore (pc := 12) dc_M_isDots_12 (by decide) ?_
    refine g_iload_n (pc := 14) dc_M_isDots_14 rfl ?_
    refine g_istore (pc := 15) dc_M_isDots_15 (by decide) ?_
    exact l_M_isDots hx0 hft hc4 ht (t - f) f (by omega) (Nat.le_refl _) (fun j h1 h2 => absurd h2 (by omega))
theorem v_M_remarkEnd {Q : Option Value → List va_E → Prop}  (hx : tt h a s L) (ht : t ≤ L.length) : ∀ n i : Nat, i + n = (t - 2) → am_G X mt_M_remarkEnd d 2 [some (.ref a), some (.int (nI (s + f))), some (.int (nI (s + t))), some (.int (nI (s + (fx (fun j => !(decide (gx L j = 45 ∧ gx L (j + 1) = 45 ∧ gx L (j + 2) = 62))) i (t - 2)))))] [] h Q → am_G X mt_M_remarkEnd d 2 [some (.ref a), some (.int (nI (s + f))), some (.int (nI (s + t))), some (.int (nI (s + i)))] [] h Q
  | 0, i, e, K => by
    have e1 : fx (fun j => !(decide (gx L j = 45 ∧ gx L (j + 1) = 45 ∧ gx L (j + 2) = 62))) i (t - 2) = i := fx_0 (by omega)
    rw [e1] at K
    exact K
  | n + 1, i, e, K => by
    by_cases hp : (fun j => !(decide (gx L j = 45 ∧ gx L (j + 1) = 45 ∧ gx L (j + 2) = 62))) i = true
    · rw [fx_t (P := fun j => !(decide (gx L j = 45 ∧ gx L (j + 1) = 45 ∧ gx L (j + 2) = 62))) (f := i) (t := (t - 2)) (by omega) hp] at K
      have hx0 := hx
      obtain ⟨cap, g, ha, hT, hs, hc⟩ := hx
      refine g_iload_n (pc := 2) dc_M_remarkEnd_2 rfl ?_
      refine g_iconst (pc := 3) (v := 2) dc_M_remarkEnd_3 rfl ?_
      refine g_iadd (pc := 4) (v := (nI (s + (i + 2)))) dc_M_remarkEnd_4 (q_as s i 2) ?_
      refine g_iload_n (pc := 5) dc_M_remarkEnd_5 rfl ?_
      refine q_icmp_ge (pc := 6) (tgt := 43) (s + (i + 2)) (s + t) dc_M_remarkEnd_6 (by omega) (by omega) rfl (fun hc => absurd hc (by omega)) (fun hc6 => ?_)
      refine g_aload_n (pc := 9) dc_M_remarkEnd_9 rfl ?_
      refine g_iload_n (pc := 10) dc_M_remarkEnd_10 rfl ?_
      refine q_tx (pc := 11) i dc_M_remarkEnd_11 ha hT hs (by omega) hc ?_
      refine g_bipush (pc := 12) (v := 45) dc_M_remarkEnd_12 rfl ?_
      refine g_icmp_ne (pc := 14) (tgt := 37) dc_M_remarkEnd_14 rfl (fun hc14 => ?_) (fun hc14 => ?_)
      · refine g_iinc (pc := 37) (v := (nI (s + (i + 1)))) dc_M_remarkEnd_37 rfl (q_as s i 1) (by decide) ?_
        refine g_goto (pc := 40) (tgt := 2) dc_M_remarkEnd_40 rfl ?_
        exact v_M_remarkEnd hx0 ht n (i + 1) (by omega) K
      · refine g_aload_n (pc := 17) dc_M_remarkEnd_17 rfl ?_
        refine g_iload_n (pc := 18) dc_M_remarkEnd_18 rfl ?_
        refine g_iconst (pc := 19) (v := 1) dc_M_remarkEnd_19 rfl ?_
        refine g_iadd (pc := 20) (v := (nI (s + (i + 1)))) dc_M_remarkEnd_20 (q_as s i 1) ?_
        refine q_tx (pc := 21) (i + 1) dc_M_remarkEnd_21 ha hT hs (by omega) hc ?_
        refine g_bipush (pc := 22) (v := 45) dc_M_remarkEnd_22 rfl ?_
        refine g_icmp_ne (pc := 24) (tgt := 37) dc_M_remarkEnd_24 rfl (fun hc24 => ?_) (fun hc24 => ?_)
        · refine g_iinc (pc := 37) (v := (nI (s + (i + 1)))) dc_M_remarkEnd_37 rfl (q_as s i 1) (by decide) ?_
          refine g_goto (pc := 40) (tgt := 2) dc_M_remarkEnd_40 rfl ?_
          exact v_M_remarkEnd hx0 ht n (i + 1) (by omega) K
        · refine g_aload_n (pc := 27) dc_M_remarkEnd_27 rfl ?_
          refine g_iload_n (pc := 28) dc_M_remarkEnd_28 rfl ?_
          refine g_iconst (pc := 29) (v := 2) dc_M_remarkEnd_29 rfl ?_
          refine g_iadd (pc := 30) (v := (nI (s + (i + 2)))) dc_M_remarkEnd_30 (q_as s i 2) ?_
          refine q_tx (pc := 31) (i + 2) dc_M_remarkEnd_31 ha hT hs (by omega) hc ?_
          refine g_bipush (pc := 32) (v := 62) dc_M_remarkEnd_32 rfl ?_
          refine g_icmp_eq (pc := 34) (tgt := 43) dc_M_remarkEnd_34 rfl (fun hc34 => ?_) (fun hc34 => ?_)
          · exact absurd hp (by simp [hc14, hc24, hc34])
          · refine g_iinc (pc := 37) (v := (nI (s + (i + 1)))) dc_M_remarkEnd_37 rfl (q_as s i 1) (by decide) ?_
            refine g_goto (pc := 40) (tgt := 2) dc_M_remarkEnd_40 rfl ?_
            exact v_M_remarkEnd hx0 ht n (i + 1) (by omega) K
    · rw [fx_f (P := fun j => !(decide (gx L j = 45 ∧ gx L (j + 1) = 45 ∧ gx L (j + 2) = 62))) (f := i) (t := (t - 2)) hp] at K
      exact K
theorem t_M_remarkEnd (hx : tt h a s L) (hft : f ≤ t) (ht : t ≤ L.length) : am_C X mt_M_remarkEnd d [.ref a, .int (nI (s + f)), .int (nI (s + t))] h (fun r h1 => r = some (.int (nI (s + (if rmk L f t + 2 < t then rmk L f t + 3 else t)))) ∧ h1 = h) := by
  show am_G X mt_M_remarkEnd d 0 [some (.ref a), some (.int (nI (s + f))), some (.int (nI (s + t))), none] [] h _
  refine g_iload_n (pc := 0) dc_M_remarkEnd_0 rfl ?_
  refine g_istore_n (pc := 1) dc_M_remarkEnd_1 (by decide) ?_
  have hK : am_G X mt_M_remarkEnd d 2 [some (.ref a), some (.int (nI (s + f))), some (.int (nI (s + t))), some (.int (nI (s + (rmk L f t))))] [] h (fun r h1 => r = some (.int (nI (s + (if rmk L f t + 2 < t then rmk L f t + 3 else t)))) ∧ h1 = h) := by
    have hb : f ≤ rmk L f t := fx_ge f (t - 2)
    have hb2 : f ≤ t - 2 → rmk L f t ≤ t - 2 := fun h9 => fx_le h9
    have hb3 : t - 2 ≤ f → rmk L f t = f := fun h9 => fx_0 h9
    have ho : rmk L f t < t - 2 → (!(decide (gx L (rmk L f t) = 45 ∧ gx L (rmk L f t + 1) = 45 ∧ gx L (rmk L f t + 2) = 62))) = false := fun h9 => fx_out (P := fun j => !(decide (gx L j = 45 ∧ gx L (j + 1) = 45 ∧ gx L (j + 2) = 62))) h9
    generalize rmk L f t = i at *
    obtain ⟨cap, g, ha, hT, hs, hc⟩ := hx
    refine g_iload_n (pc := 2) dc_M_remarkEnd_2 rfl ?_
    refine g_iconst (pc := 3) (v := 2) dc_M_remarkEnd_3 rfl ?_
    refine g_iadd (pc := 4) (v := (nI (s + (i + 2)))) dc_M_remarkEnd_4 (q_as s i 2) ?_
    refine g_iload_n (pc := 5) dc_M_remarkEnd_5 rfl ?_
    refine q_icmp_ge (pc := 6) (tgt := 43) (s + (i + 2)) (s + t) dc_M_remarkEnd_6 (by omega) (by omega) rfl (fun hc6 => ?_) (fun hc6 => ?_)
    · refine g_iload_n (pc := 43) dc_M_remarkEnd_43 rfl ?_
      refine g_iconst (pc := 44) (v := 2) dc_M_remarkEnd_44 rfl ?_
      refine g_iadd (pc := 45) (v := (nI (s + (i + 2)))) dc_M_remarkEnd_45 (q_as s i 2) ?_
      refine g_iload_n (pc := 46) dc_M_remarkEnd_46 rfl ?_
      refine q_icmp_ge (pc := 47) (tgt := 56) (s + (i + 2)) (s + t) dc_M_remarkEnd_47 (by omega) (by omega) rfl (fun hc47 => ?_) (fun hc47 => ?_)
      · refine g_iload_n (pc := 56) dc_M_remarkEnd_56 rfl ?_
        exact g_ireturn dc_M_remarkEnd_57 rfl ⟨by rw [if_neg (by omega)], rfl⟩
      · refine g_iload_n (pc := 50) dc_M_remarkEnd_50 rfl ?_
        refine g_iconst (pc := 51) (v := 3) dc_M_remarkEnd_51 rfl ?_
        refine g_iadd (pc := 52) (v := (nI (s + (i + 3)))) dc_M_remarkEnd_52 (q_as s i 3) ?_
        refine g_goto (pc := 53) (tgt := 57) dc_M_remarkEnd_53 rfl ?_
        exact g_ireturn dc_M_remarkEnd_57 rfl ⟨by rw [if_pos (by omega)], rfl⟩
    · refine g_aload_n (pc := 9) dc_M_remarkEnd_9 rfl ?_
      refine g_iload_n (pc := 10) dc_M_remarkEnd_10 rfl ?_
      refine q_tx (pc := 11) i dc_M_remarkEnd_11 ha hT hs (by omega) hc ?_
      refine g_bipush (pc := 12) (v := 45) dc_M_remarkEnd_12 rfl ?_
      refine g_icmp_ne (pc := 14) (tgt := 37) dc_M_remarkEnd_14 rfl (fun hc14 => ?_) (fun hc14 => ?_)
      · exact absurd (ho (by omega)) (by simp [hc14])
      · refine g_aload_n (pc := 17) dc_M_remarkEnd_17 rfl ?_
        refine g_iload_n (pc := 18) dc_M_remarkEnd_18 rfl ?_
        refine g_iconst (pc := 19) (v := 1) dc_M_remarkEnd_19 rfl ?_
        refine g_iadd (pc := 20) (v := (nI (s + (i + 1)))) dc_M_remarkEnd_20 (q_as s i 1) ?_
        refine q_tx (pc := 21) (i + 1) dc_M_remarkEnd_21 ha hT hs (by omega) hc ?_
        refine g_bipush (pc := 22) (v := 45) dc_M_remarkEnd_22 rfl ?_
        refine g_icmp_ne (pc := 24) (tgt := 37) dc_M_remarkEnd_24 rfl (fun hc24 => ?_) (fun hc24 => ?_)
        · exact absurd (ho (by omega)) (by simp [hc14, hc24])
        · refine g_aload_n (pc := 27) dc_M_remarkEnd_27 rfl ?_
          refine g_iload_n (pc := 28) dc_M_remarkEnd_28 rfl ?_
          refine g_iconst (pc := 29) (v := 2) dc_M_remarkEnd_29 rfl ?_
          refine g_iadd (pc := 30) (v := (nI (s + (i + 2)))) dc_M_remarkEnd_30 (q_as s i 2) ?_
          refine q_tx (pc := 31) (i + 2) dc_M_remarkEnd_31 ha hT hs (by omega) hc ?_
          refine g_bipush (pc := 32) (v := 62) dc_M_remarkEnd_32 rfl ?_
          refine g_icmp_eq (pc := 34) (tgt := 43) dc_M_remarkEnd_34 rfl (fun hc34 => ?_) (fun hc34 => ?_)
          · refine g_iload_n (pc := 43) dc_M_remarkEnd_43 rfl ?_
            refine g_iconst (pc := 44) (v := 2) dc_M_remarkEnd_44 rfl ?_
            refine g_iadd (pc := 45) (v := (nI (s + (i + 2)))) dc_M_remarkEnd_45 (q_as s i 2) ?_
            refine g_iload_n (pc := 46) dc_M_remarkEnd_46 rfl ?_
            refine q_icmp_ge (pc := 47) (tgt := 56) (s + (i + 2)) (s + t) dc_M_remarkEnd_47 (by omega) (by omega) rfl (fun hc47 => ?_) (fun hc47 => ?_)
            · refine g_iload_n (pc := 56) dc_M_remarkEnd_56 rfl ?_
              exact g_ireturn dc_M_remarkEnd_57 rfl ⟨by rw [if_neg (by omega)], rfl⟩
            · refine g_iload_n (pc := 50) dc_M_remarkEnd_50 rfl ?_
              refine g_iconst (pc := 51) (v := 3) dc_M_remarkEnd_51 rfl ?_
              refine g_iadd (pc := 52) (v := (nI (s + (i + 3)))) dc_M_remarkEnd_52 (q_as s i 3) ?_
              refine g_goto (pc := 53) (tgt := 57) dc_M_remarkEnd_53 rfl ?_
              exact g_ireturn dc_M_remarkEnd_57 rfl ⟨by rw [if_pos (by omega)], rfl⟩
          · exact absurd (ho (by omega)) (by simp [hc14, hc24, hc34])
  by_cases hle : f ≤ t - 2
  · exact v_M_remarkEnd hx ht (t - 2 - f) f (by omega) hK
  · have e9 : rmk L f t = f := fx_0 (by omega)
    rw [e9] at hK ⊢
    exact hK
end TXE
