/-! ===== the model's hex; a % with its two ===== -/
theorem toLo_i (v : Int32) : (65 ≤ v.toInt ∧ v.toInt ≤ 90 → (toLo v).toInt = v.toInt + 32) ∧ (¬ (65 ≤ v.toInt ∧ v.toInt ≤ 90) → toLo v = v) := by
  refine ⟨fun h => ?_, fun h => (toLo_f h).symm⟩
  rw [← toLo_t h, i_nat (v := v) (by omega)]
  have h1 : v.toInt.toNat ≤ 90 := by omega
  generalize v.toInt.toNat = j at *
  show (nI j + nI 32).toInt = _
  rw [nI_add, nI_toInt (by omega), nI_toInt (by omega)]
  omega
theorem hx_5 {v : Int32} (h0 : ¬ (48 ≤ v.toInt ∧ v.toInt ≤ 57)) (h : 97 ≤ (toLo v).toInt ∧ (toLo v).toInt ≤ 102) : toLo v - 97 + 10 = hxr v := by
  by_cases hu : 65 ≤ v.toInt ∧ v.toInt ≤ 90
  · have e := (toLo_i v).1 hu
    unfold hxr hx
    rw [if_neg h0, if_neg (by omega), if_pos (by omega)]
    show toLo v - nI 97 + nI 10 = nI (v.toInt.toNat - 55)
    rw [i_sub (c := 97) h.1, nI_add]
    exact congrArg nI (by omega)
  · have e := (toLo_i v).2 hu
    rw [e] at h ⊢
    exact hx_2 h
theorem hx_6 {v : Int32} (h0 : ¬ (48 ≤ v.toInt ∧ v.toInt ≤ 57)) (h : ¬ (97 ≤ (toLo v).toInt ∧ (toLo v).toInt ≤ 102)) : -1 = hxr v := by
  refine hx_4 h0 (fun h9 => ?_) (fun h9 => ?_)
  · have e := (toLo_i v).2 (by omega)
    rw [e] at h
    exact h h9
  · have e := (toLo_i v).1 (by omega)
    exact h (by omega)
theorem isDi_iff {v : Int32} : isDi v = true ↔ (48 ≤ v.toInt ∧ v.toInt ≤ 57) := by unfold isDi; exact decide_eq_true_iff
theorem hx_lt {v : Int32} {k : Nat} (h : hx v = some k) : k < 16 := by
  unfold hx at h
  split at h
  · cases h; omega
  · split at h
    · cases h; omega
    · split at h
      · cases h; omega
      · cases h
theorem hxr_n {v : Int32} (h : hxr v = -1) : hx v = none := by
  unfold hxr at h
  cases e : hx v with
  | none => rfl
  | some k =>
    rw [e] at h
    have h1 := hx_lt e
    have h2 : (nI k).toInt = (-1 : Int32).toInt := congrArg Int32.toInt h
    rw [nI_toInt (by omega)] at h2
    have h3 : ((-1 : Int32)).toInt = -1 := by decide
    omega
theorem hxr_s {v : Int32} (h : ¬ hxr v = -1) : ∃ k, hx v = some k ∧ hxr v = nI k ∧ k < 16 := by
  cases e : hx v with
  | none => exact absurd (by unfold hxr; rw [e]) h
  | some k => exact ⟨k, rfl, by unfold hxr; rw [e], hx_lt e⟩
/-- the byte that a % with its two makes -/
def esc : List Int32 → Option Nat
  | x :: y :: z :: _ => if x = 37 then (match hx y, hx z with | some p, some q => some (16 * p + q) | _, _ => none) else none
  | _ => none
def er (x : Option Nat) : Int32 := match x with
  | some k => nI k
  | none => -1
section AMU2
variable {X : am_X} {d : Nat} {h : List va_E} {v : Int32} {a c cap cc i n : Nat} {f g : Nat → Int32}
theorem esc_h (h0 : ¬ g i = 37) : esc (sl g i n) = none := by
  match n with
  | 0 => rfl
  | 1 => rfl
  | 2 => rfl
  | n + 3 => exact if_neg h0
theorem esc_n (h0 : n ≤ 2) : esc (sl g i n) = none := by
  match n, h0 with
  | 0, _ => rfl
  | 1, _ => rfl
  | 2, _ => rfl
theorem esc_3 (h0 : g i = 37) (hn : 3 ≤ n) : esc (sl g i n) = (match hx (g (i + 1)), hx (g (i + 2)) with | some p, some q => some (16 * p + q) | _, _ => none) := by
  match n, hn with
  | n + 3, _ => exact if_pos h0
theorem c_M_hex : am_C X mt_M_hex (d + 1) [.int v] h (fun r h1 => r = some (.int (hxr v)) ∧ h1 = h) := by
  show am_G X mt_M_hex (d + 1) 0 [some (.int v), none] [] h _
  refine g_iload_n (pc := 0) dc_M_hex_0 rfl ?_
  refine g_s1 (pc := 1) (M' := mt_M_lower) dc_M_hex_1 mo_M_lower st_M_lower ln_M_7 (Nat.le_of_ble_eq_true rfl) (Nat.le_of_ble_eq_true rfl) (am_G.mono c_M_lower ?_)
  intro r h1 hq
  rw [hq.1, hq.2]
  clear hq h1 r
  refine ⟨am_nti _, ?_⟩
  refine g_istore_n (pc := 4) dc_M_hex_4 (by decide) ?_
  refine g_iload_n (pc := 5) dc_M_hex_5 rfl ?_
  refine g_s1 (pc := 6) (M' := mt_M_isDigit) dc_M_hex_6 mo_M_isDigit st_M_isDigit ln_M_11 (Nat.le_of_ble_eq_true rfl) (Nat.le_of_ble_eq_true rfl) (am_G.mono c_M_isDigit ?_)
  intro r h1 hq
  rw [hq.1, hq.2]
  clear hq h1 r
  refine ⟨am_nti _, ?_⟩
  refine g_if_eq (pc := 9) (tgt := 19) dc_M_hex_9 rfl (fun hc9 => ?_) (fun hc9 => ?_)
  · have hi9 : _ = (0 : Int) := Int32.toInt_inj.symm.mp hc9
    have hd : ¬ (48 ≤ v.toInt ∧ v.toInt ≤ 57) := fun h9 => b1_eq0.mp hc9 (isDi_iff.mpr h9)
    refine g_iload_n (pc := 19) dc_M_hex_19 rfl ?_
    refine g_bipush (pc := 20) (v := 97) dc_M_hex_20 rfl ?_
    refine g_icmp_lt (pc := 22) (tgt := 41) dc_M_hex_22 rfl (fun hc22 => ?_) (fun hc22 => ?_)
    · have hi22 : _ < (97 : Int) := Int32.lt_iff_toInt_lt.mp hc22
      refine g_iconst (pc := 41) (v := (-1)) dc_M_hex_41 rfl ?_
      exact g_ireturn dc_M_hex_42 rfl ⟨congrArg (fun z => some (Value.int z)) (by first | exact hx_1 hd | exact hx_5 hd (by omega) | exact hx_6 hd (by omega)), rfl⟩
    · have hi22 : ¬ (_ < (97 : Int)) := fun h9 => hc22 (Int32.lt_iff_toInt_lt.mpr h9)
      refine g_iload_n (pc := 25) dc_M_hex_25 rfl ?_
      refine g_bipush (pc := 26) (v := 102) dc_M_hex_26 rfl ?_
      refine g_icmp_gt (pc := 28) (tgt := 41) dc_M_hex_28 rfl (fun hc28 => ?_) (fun hc28 => ?_)
      · have hi28 : (102 : Int) < _ := Int32.lt_iff_toInt_lt.mp hc28
        refine g_iconst (pc := 41) (v := (-1)) dc_M_hex_41 rfl ?_
        exact g_ireturn dc_M_hex_42 rfl ⟨congrArg (fun z => some (Value.int z)) (by first | exact hx_1 hd | exact hx_5 hd (by omega) | exact hx_6 hd (by omega)), rfl⟩
      · have hi28 : ¬ ((102 : Int) < _) := fun h9 => hc28 (Int32.lt_iff_toInt_lt.mpr h9)
        refine g_iload_n (pc := 31) dc_M_hex_31 rfl ?_
        refine g_bipush (pc := 32) (v := 97) dc_M_hex_32 rfl ?_
        refine g_isub (pc := 34) dc_M_hex_34 rfl ?_
        refine g_bipush (pc := 35) (v := 10) dc_M_hex_35 rfl ?_
        refine g_iadd (pc := 37) dc_M_hex_37 rfl ?_
        refine g_goto (pc := 38) (tgt := 42) dc_M_hex_38 rfl ?_
        exact g_ireturn dc_M_hex_42 rfl ⟨congrArg (fun z => some (Value.int z)) (by first | exact hx_1 hd | exact hx_5 hd (by omega) | exact hx_6 hd (by omega)), rfl⟩
  · have hi9 : ¬ (_ = (0 : Int)) := fun h9 => hc9 (Int32.toInt_inj.symm.mpr h9)
    have hd : 48 ≤ v.toInt ∧ v.toInt ≤ 57 := isDi_iff.mp (Decidable.not_not.mp (fun h9 => hc9 (b1_eq0.mpr h9)))
    refine g_iload_n (pc := 12) dc_M_hex_12 rfl ?_
    refine g_bipush (pc := 13) (v := 48) dc_M_hex_13 rfl ?_
    refine g_isub (pc := 15) dc_M_hex_15 rfl ?_
    refine g_goto (pc := 16) (tgt := 42) dc_M_hex_16 rfl ?_
    exact g_ireturn dc_M_hex_42 rfl ⟨congrArg (fun z => some (Value.int z)) (by first | exact hx_1 hd | exact hx_5 hd (by omega) | exact hx_6 hd (by omega)), rfl⟩
theorem c_W_escapedByte (ha : h[a]? = some (.inl (0, cap, .inl g))) (hcap : cap < 2 ^ 30) (hn : i + n ≤ cap) (h1n : 1 ≤ n) : am_C X mt_W_escapedByte (d + 1) [.ref a, .int (nI i), .int (nI (i + n))] h (fun r h1 => r = some (.int (er (esc (sl g i n)))) ∧ h1 = h) := by
  show am_G X mt_W_escapedByte (d + 1) 0 [some (.ref a), some (.int (nI i)), some (.int (nI (i + n))), none, none] [] h _
  refine g_aload_n (pc := 0) dc_W_escapedByte_0 rfl ?_
  refine g_iload_n (pc := 1) dc_W_escapedByte_1 rfl ?_
  refine g_baload (pc := 2) dc_W_escapedByte_2 ha (vp_in_nI (by omega) (by omega)) ?_
  rw [nI_clamp (show i < 2 ^ 31 by omega)]
  refine g_bipush (pc := 3) (v := 37) dc_W_escapedByte_3 rfl ?_
  refine g_icmp_ne (pc := 5) (tgt := 15) dc_W_escapedByte_5 rfl (fun hc5 => ?_) (fun hc5 => ?_)
  · have e0 : esc (sl g i n) = none := esc_h hc5
    refine g_iconst (pc := 15) (v := (-1)) dc_W_escapedByte_15 rfl ?_
    exact g_ireturn dc_W_escapedByte_16 rfl ⟨by rw [e0]; rfl, rfl⟩
  · refine g_iload_n (pc := 8) dc_W_escapedByte_8 rfl ?_
    refine g_iconst (pc := 9) (v := 2) dc_W_escapedByte_9 rfl ?_
    refine g_iadd (pc := 10) dc_W_escapedByte_10 (nI_add i 2) ?_
    refine g_iload_n (pc := 11) dc_W_escapedByte_11 rfl ?_
    refine g_icmp_lt (pc := 12) (tgt := 17) dc_W_escapedByte_12 rfl (fun hc12 => ?_) (fun hc12 => ?_)
    · have h3n : 3 ≤ n := by have h9 := (nI_ltI (by omega) (by omega)).mp hc12; omega
      have e3 := esc_3 (n := n) hc5 h3n
      refine g_aload_n (pc := 17) dc_W_escapedByte_17 rfl ?_
      refine g_iload_n (pc := 18) dc_W_escapedByte_18 rfl ?_
      refine g_iconst (pc := 19) (v := 1) dc_W_escapedByte_19 rfl ?_
      refine g_iadd (pc := 20) dc_W_escapedByte_20 (nI_add i 1) ?_
      refine g_baload (pc := 21) dc_W_escapedByte_21 ha (vp_in_nI (by omega) (by omega)) ?_
      rw [nI_clamp (show i + 1 < 2 ^ 31 by omega)]
      refine g_s1 (pc := 22) (M' := mt_W_hexValue) dc_W_escapedByte_22 mo_W_hexValue st_W_hexValue ln_W_302 (Nat.le_of_ble_eq_true rfl) (Nat.le_of_ble_eq_true rfl) (am_G.mono c_W_hexValue ?_)
      intro r h1 hq
      rw [hq.1, hq.2]
      clear hq h1 r
      refine ⟨am_nti _, ?_⟩
      refine g_istore_n (pc := 25) dc_W_escapedByte_25 (by decide) ?_
      refine g_aload_n (pc := 26) dc_W_escapedByte_26 rfl ?_
      refine g_iload_n (pc := 27) dc_W_escapedByte_27 rfl ?_
      refine g_iconst (pc := 28) (v := 2) dc_W_escapedByte_28 rfl ?_
      refine g_iadd (pc := 29) dc_W_escapedByte_29 (nI_add i 2) ?_
      refine g_baload (pc := 30) dc_W_escapedByte_30 ha (vp_in_nI (by omega) (by omega)) ?_
      rw [nI_clamp (show i + 2 < 2 ^ 31 by omega)]
      refine g_s1 (pc := 31) (M' := mt_W_hexValue) dc_W_escapedByte_31 mo_W_hexValue st_W_hexValue ln_W_302 (Nat.le_of_ble_eq_true rfl) (Nat.le_of_ble_eq_true rfl) (am_G.mono c_W_hexValue ?_)
      intro r h1 hq
      rw [hq.1, hq.2]
      clear hq h1 r
      refine ⟨am_nti _, ?_⟩
      refine g_istore (pc := 34) dc_W_escapedByte_34 (by decide) ?_
      refine g_iload_n (pc := 36) dc_W_escapedByte_36 rfl ?_
      refine g_iconst (pc := 37) (v := (-1)) dc_W_escapedByte_37 rfl ?_
      refine g_icmp_eq (pc := 38) (tgt := 47) dc_W_escapedByte_38 rfl (fun hc38 => ?_) (fun hc38 => ?_)
      · have e0 : esc (sl g i n) = none := by rw [e3, hxr_n hc38]
        refine g_iconst (pc := 47) (v := (-1)) dc_W_escapedByte_47 rfl ?_
        refine g_goto (pc := 48) (tgt := 58) dc_W_escapedByte_48 rfl ?_
        exact g_ireturn dc_W_escapedByte_58 rfl ⟨by rw [e0]; rfl, rfl⟩
      · obtain ⟨p, hp1, hp2, hp3⟩ := hxr_s hc38
        refine g_iload (pc := 41) dc_W_escapedByte_41 rfl ?_
        refine g_iconst (pc := 43) (v := (-1)) dc_W_escapedByte_43 rfl ?_
        refine g_icmp_ne (pc := 44) (tgt := 51) dc_W_escapedByte_44 rfl (fun hc44 => ?_) (fun hc44 => ?_)
        · obtain ⟨q, hq1, hq2, hq3⟩ := hxr_s hc44
          have e0 : esc (sl g i n) = some (16 * p + q) := by rw [e3, hp1, hq1]
          rw [hp2, hq2]
          refine g_bipush (pc := 51) (v := 16) dc_W_escapedByte_51 rfl ?_
          refine g_iload_n (pc := 53) dc_W_escapedByte_53 rfl ?_
          refine g_imul (pc := 54) dc_W_escapedByte_54 (pk_mul 16 p) ?_
          refine g_iload (pc := 55) dc_W_escapedByte_55 rfl ?_
          refine g_iadd (pc := 57) dc_W_escapedByte_57 (nI_add (16 * p) q) ?_
          exact g_ireturn dc_W_escapedByte_58 rfl ⟨by rw [e0]; rfl, rfl⟩
        · have e0 : esc (sl g i n) = none := by rw [e3, hp1, hxr_n hc44]
          refine g_iconst (pc := 47) (v := (-1)) dc_W_escapedByte_47 rfl ?_
          refine g_goto (pc := 48) (tgt := 58) dc_W_escapedByte_48 rfl ?_
          exact g_ireturn dc_W_escapedByte_58 rfl ⟨by rw [e0]; rfl, rfl⟩
    · have e0 : esc (sl g i n) = none := esc_n (by have h9 : ¬ i + 2 < i + n := fun h9 => hc12 ((nI_ltI (by omega) (by omega)).mpr h9); omega)
      refine g_iconst (pc := 15) (v := (-1)) dc_W_escapedByte_15 rfl ?_
      exact g_ireturn dc_W_escapedByte_16 rfl ⟨by rw [e0]; rfl, rfl⟩
end AMU2
