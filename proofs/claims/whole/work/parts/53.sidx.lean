/-! ===== String.indexOf on the constants ===== -/
theorem i8_nn {v : Int32} (h : 0 ≤ v.toInt ∧ v.toInt ≤ 255) {b : Int32} (hb : chok b = true) : v.toInt8.toInt32 = b ↔ v = b := by
  unfold chok at hb
  rw [Bool.and_eq_true, Bool.and_eq_true, decide_eq_true_eq, decide_eq_true_eq, decide_eq_true_eq] at hb
  obtain ⟨-, hb⟩ := hb
  by_cases hv : v.toInt ≤ 127
  · rw [i8_bt (bt_iff.mpr ⟨by omega, hv⟩)]
  · constructor
    · intro h9
      have h1 : (v.toInt8.toInt32).toInt = b.toInt := by rw [h9]
      rw [Int8.toInt_toInt32, Int32.toInt_toInt8] at h1
      have h2 : v.toInt.bmod (2 ^ 8) = v.toInt - 256 := by
        unfold Int.bmod
        rw [Int.emod_eq_of_lt (by omega) (by omega)]
        rw [if_neg (by omega)]
        rfl
      omega
    · intro h9
      rw [h9] at hv
      omega
theorem cb64 {x : Option Nat} (h : ∀ k, x = some k → k < 64) : ∀ k, x = some k → k < 2 ^ 31 := fun k hk => by have := h k hk; omega
/-- whether the byte stands in constant i -/
def inc (i : Nat) (v : Int32) : Bool := decide (∃ j, j < cln i ∧ ch i j = v)
section TXC
variable {X : am_X} {d : Nat} {h : List va_E} {v w : Int32} {i : Nat}
theorem l_JStringLatin1_indexOfChar (hi : i < 42) : ∀ m k : Nat, k + m = cln i → (∀ j, j < k → ¬ ch i j = w) → am_G X mt_JStringLatin1_indexOfChar d 7 [some (.retAddr (100 + i)), some (.int v), some (.int (nI 0)), some (.int (nI (cln i))), some (.int w), some (.int (nI k))] [] h (fun r h1 => (∃ x : Option Nat, r = some (.int (er x)) ∧ (∀ k, x = some k → k < 64) ∧ (x = none ↔ ∀ j, j < cln i → ¬ ch i j = w)) ∧ h1 = h)
  | 0, k, e, hp => by
    have hcl := ch_len hi
    refine g_iload (pc := 7) dc_JStringLatin1_indexOfChar_7 rfl ?_
    refine g_iload_n (pc := 9) dc_JStringLatin1_indexOfChar_9 rfl ?_
    refine q_icmp_ge (pc := 10) (tgt := 31) k (cln i) dc_JStringLatin1_indexOfChar_10 (by omega) (by omega) rfl (fun hc10 => ?_) (fun hc => absurd hc (by omega))
    refine g_iconst (pc := 31) (v := (-1)) dc_JStringLatin1_indexOfChar_31 rfl ?_
    exact g_ireturn dc_JStringLatin1_indexOfChar_32 rfl ⟨⟨none, rfl, fun k9 h9 => (by cases h9), ⟨fun _ j hj => hp j (by omega), fun _ => rfl⟩⟩, rfl⟩
  | m + 1, k, e, hp => by
    have hcl := ch_len hi
    refine g_iload (pc := 7) dc_JStringLatin1_indexOfChar_7 rfl ?_
    refine g_iload_n (pc := 9) dc_JStringLatin1_indexOfChar_9 rfl ?_
    refine q_icmp_ge (pc := 10) (tgt := 31) k (cln i) dc_JStringLatin1_indexOfChar_10 (by omega) (by omega) rfl (fun hc => absurd hc (by omega)) (fun hc10 => ?_)
    refine g_xload_n (pc := 13) dc_JStringLatin1_indexOfChar_13 rfl ?_
    refine g_iload (pc := 14) dc_JStringLatin1_indexOfChar_14 rfl ?_
    refine g_sLoad (pc := 16) (v := ch i k) dc_JStringLatin1_indexOfChar_16 hi (vp_in_nI (by show k < cln i; omega) (by show cln i < _; omega)) (by rw [nI_clamp (by omega)]; rfl) ?_
    refine g_iload (pc := 17) dc_JStringLatin1_indexOfChar_17 rfl ?_
    refine g_icmp_ne (pc := 19) (tgt := 25) dc_JStringLatin1_indexOfChar_19 rfl (fun hc19 => ?_) (fun hc19 => ?_)
    · refine g_iinc (pc := 25) (v := (nI (k + 1))) dc_JStringLatin1_indexOfChar_25 rfl (nI_add k 1) (by decide) ?_
      refine g_goto (pc := 28) (tgt := 7) dc_JStringLatin1_indexOfChar_28 rfl ?_
      exact l_JStringLatin1_indexOfChar hi m (k + 1) (by omega) (fun j hj => by
        rcases Nat.eq_or_lt_of_le (Nat.le_of_lt_succ hj) with e9 | e9
        · rw [e9]; exact hc19
        · exact hp j e9)
    · refine g_iload (pc := 22) dc_JStringLatin1_indexOfChar_22 rfl ?_
      exact g_ireturn dc_JStringLatin1_indexOfChar_24 rfl ⟨⟨some k, rfl, fun k9 h9 => (by cases h9; omega), ⟨fun h9 => by (cases h9), fun h9 => absurd hc19 (h9 k (by omega))⟩⟩, rfl⟩
theorem c_JStringLatin1_canEncode (hv : 0 ≤ v.toInt ∧ v.toInt ≤ 255) : am_C X mt_JStringLatin1_canEncode d [.int v] h (fun r h1 => r = some (.int 1) ∧ h1 = h) := by
  show am_G X mt_JStringLatin1_canEncode d 0 [some (.int v)] [] h _
  have e0 : ((0 : Int32)).toInt = 0 := by decide
  have e1 : ((255 : Int32)).toInt = 255 := by decide
  refine g_iload_n (pc := 0) dc_JStringLatin1_canEncode_0 rfl ?_
  refine g_if_lt (pc := 1) (tgt := 15) dc_JStringLatin1_canEncode_1 rfl (fun hc => absurd hc (fun h9 => by have h8 := Int32.lt_iff_toInt_lt.mp h9; omega)) (fun hc1 => ?_)
  refine g_iload_n (pc := 4) dc_JStringLatin1_canEncode_4 rfl ?_
  refine g_sipush (pc := 5) (v := 255) dc_JStringLatin1_canEncode_5 rfl ?_
  refine g_icmp_gt (pc := 8) (tgt := 15) dc_JStringLatin1_canEncode_8 rfl (fun hc => absurd hc (fun h9 => by have h8 := Int32.lt_iff_toInt_lt.mp h9; omega)) (fun hc8 => ?_)
  refine g_iconst (pc := 11) (v := 1) dc_JStringLatin1_canEncode_11 rfl ?_
  refine g_goto (pc := 12) (tgt := 16) dc_JStringLatin1_canEncode_12 rfl ?_
  exact g_zreturn dc_JStringLatin1_canEncode_16 rfl rfl ⟨rfl, rfl⟩
theorem inc_n (hi : i < 42) (hv : 0 ≤ v.toInt ∧ v.toInt ≤ 255) : (∀ j, j < cln i → ¬ ch i j = v.toInt8.toInt32) ↔ inc i v = false := by
  unfold inc
  rw [decide_eq_false_iff_not]
  constructor
  · rintro h9 ⟨j, hj, e⟩
    exact h9 j hj ((i8_nn hv (ch_ok hi hj)).mpr e.symm).symm
  · intro h9 j hj e
    exact h9 ⟨j, hj, ((i8_nn hv (ch_ok hi hj)).mp e.symm).symm⟩
theorem c_JStringLatin1_indexOfChar (hi : i < 42) : am_C X mt_JStringLatin1_indexOfChar d [.retAddr (100 + i), .int v, .int 0, .int (nI (cln i))] h (fun r h1 => (∃ x : Option Nat, r = some (.int (er x)) ∧ (∀ k, x = some k → k < 64) ∧ (x = none ↔ ∀ j, j < cln i → ¬ ch i j = v.toInt8.toInt32)) ∧ h1 = h) := by
  show am_G X mt_JStringLatin1_indexOfChar d 0 [some (.retAddr (100 + i)), some (.int v), some (.int 0), some (.int (nI (cln i))), none, none] [] h _
  refine g_iload_n (pc := 0) dc_JStringLatin1_indexOfChar_0 rfl ?_
  refine g_i2b (pc := 1) dc_JStringLatin1_indexOfChar_1 rfl ?_
  refine g_istore (pc := 2) dc_JStringLatin1_indexOfChar_2 (by decide) ?_
  refine g_iload_n (pc := 4) dc_JStringLatin1_indexOfChar_4 rfl ?_
  refine g_istore (pc := 5) dc_JStringLatin1_indexOfChar_5 (by decide) ?_
  exact l_JStringLatin1_indexOfChar hi (cln i) 0 (by omega) (fun j hj => absurd hj (by omega))
theorem c_JStringLatin1_indexOf (hi : i < 42) (h0 : 0 < cln i) (hv : 0 ≤ v.toInt ∧ v.toInt ≤ 255) : am_C X mt_JStringLatin1_indexOf (d + 1) [.retAddr (100 + i), .int v, .int 0, .int (nI (cln i))] h (fun r h1 => (∃ x : Option Nat, r = some (.int (er x)) ∧ (∀ k, x = some k → k < 64) ∧ (x = none ↔ inc i v = false)) ∧ h1 = h) := by
  have hcl := ch_len hi
  show am_G X mt_JStringLatin1_indexOf (d + 1) 0 [some (.retAddr (100 + i)), some (.int v), some (.int 0), some (.int (nI (cln i)))] [] h _
  refine g_iload_n (pc := 0) dc_JStringLatin1_indexOf_0 rfl ?_
  refine g_s1 (pc := 1) (M' := mt_JStringLatin1_canEncode) dc_JStringLatin1_indexOf_1 mo_JStringLatin1_canEncode st_JStringLatin1_canEncode ln_J_88 (Nat.le_of_ble_eq_true rfl) (Nat.le_of_ble_eq_true rfl) (am_G.mono (c_JStringLatin1_canEncode hv) ?_)
  intro r h1 hq
  rw [hq.1, hq.2]
  clear hq h1 r
  refine ⟨am_nti _, ?_⟩
  refine g_if_ne (pc := 4) (tgt := 9) dc_JStringLatin1_indexOf_4 rfl (fun _ => ?_) (fun hc => absurd hc (by decide))
  refine g_iload_n (pc := 9) dc_JStringLatin1_indexOf_9 rfl ?_
  refine g_iconst (pc := 10) (v := 0) dc_JStringLatin1_indexOf_10 rfl ?_
  refine g_s2 (pc := 11) (M' := mt_JMath_max) dc_JStringLatin1_indexOf_11 mo_JMath_max st_JMath_max ln_J_92 (Nat.le_of_ble_eq_true rfl) (Nat.le_of_ble_eq_true rfl) (am_G.mono (c_JMath_max (x := 0) (y := 0) (by omega) (by omega)) ?_)
  intro r h1 hq
  rw [hq.1, hq.2]
  clear hq h1 r
  refine ⟨am_nti _, ?_⟩
  refine g_istore_n (pc := 14) dc_JStringLatin1_indexOf_14 (by decide) ?_
  refine g_iload_n (pc := 15) dc_JStringLatin1_indexOf_15 rfl ?_
  refine g_xload_n (pc := 16) dc_JStringLatin1_indexOf_16 rfl ?_
  refine g_sLen (pc := 17) (n := nI (cln i)) dc_JStringLatin1_indexOf_17 hi rfl ?_
  refine g_s2 (pc := 18) (M' := mt_JMath_min) dc_JStringLatin1_indexOf_18 mo_JMath_min st_JMath_min ln_J_38 (Nat.le_of_ble_eq_true rfl) (Nat.le_of_ble_eq_true rfl) (am_G.mono (c_JMath_min (x := cln i) (y := cln i) (by omega) (by omega)) ?_)
  intro r h1 hq
  rw [hq.1, hq.2]
  clear hq h1 r
  refine ⟨am_nti _, ?_⟩
  rw [show Nat.min (cln i) (cln i) = cln i from Nat.min_self _]
  refine g_istore_n (pc := 21) dc_JStringLatin1_indexOf_21 (by decide) ?_
  refine g_iload_n (pc := 22) dc_JStringLatin1_indexOf_22 rfl ?_
  refine g_iload_n (pc := 23) dc_JStringLatin1_indexOf_23 rfl ?_
  refine q_icmp_lt (pc := 24) (tgt := 29) 0 (cln i) dc_JStringLatin1_indexOf_24 (by omega) (by omega) rfl (fun hc24 => ?_) (fun hc => absurd hc (by omega))
  refine g_xload_n (pc := 29) dc_JStringLatin1_indexOf_29 rfl ?_
  refine g_iload_n (pc := 30) dc_JStringLatin1_indexOf_30 rfl ?_
  refine g_iload_n (pc := 31) dc_JStringLatin1_indexOf_31 rfl ?_
  refine g_iload_n (pc := 32) dc_JStringLatin1_indexOf_32 rfl ?_
  refine g_s4 (pc := 33) (M' := mt_JStringLatin1_indexOfChar) dc_JStringLatin1_indexOf_33 mo_JStringLatin1_indexOfChar st_JStringLatin1_indexOfChar ln_J_95 (Nat.le_of_ble_eq_true rfl) (Nat.le_of_ble_eq_true rfl) (am_G.mono (c_JStringLatin1_indexOfChar hi) ?_)
  intro r h1 hq
  obtain ⟨⟨x, hq1, hx1, hx2⟩, hq2⟩ := hq
  rw [hq1, hq2]
  clear hq1 hq2 h1 r
  refine ⟨am_nti _, ?_⟩
  exact g_ireturn dc_JStringLatin1_indexOf_36 rfl ⟨⟨x, rfl, hx1, hx2.trans (inc_n hi hv)⟩, rfl⟩
theorem c_JString_indexOf_1 (hi : i < 42) (h0 : 0 < cln i) (hv : 0 ≤ v.toInt ∧ v.toInt ≤ 255) : am_C X mt_JString_indexOf_1 (d + 2) [.retAddr i, .int v, .int 0] h (fun r h1 => (∃ x : Option Nat, r = some (.int (er x)) ∧ (∀ k, x = some k → k < 64) ∧ (x = none ↔ inc i v = false)) ∧ h1 = h) := by
  have hcl := ch_len hi
  show am_G X mt_JString_indexOf_1 (d + 2) 0 [some (.retAddr i), some (.int v), some (.int 0)] [] h _
  refine g_xload_n (pc := 0) dc_JString_indexOf_1_0 rfl ?_
  refine g_x0 (pc := 1) (M' := mt_JString_isLatin1) dc_JString_indexOf_1_1 mo_JString_isLatin1 im_JString_isLatin1 se_JString_isLatin1 (am_t2 226 rfl rfl) hi (Nat.le_of_ble_eq_true rfl) (Nat.le_of_ble_eq_true rfl) (am_G.mono (c_isLatin1 hi) ?_)
  intro r h1 hq
  rw [hq.1, hq.2]
  clear hq h1 r
  refine ⟨am_nti _, ?_⟩
  refine g_if_eq (pc := 4) (tgt := 23) dc_JString_indexOf_1_4 rfl (fun hc => absurd hc (by decide)) (fun _ => ?_)
  refine g_xload_n (pc := 7) dc_JString_indexOf_1_7 rfl ?_
  refine g_sValue (pc := 8) dc_JString_indexOf_1_8 hi (am_t4 204 rfl rfl) ?_
  refine g_iload_n (pc := 11) dc_JString_indexOf_1_11 rfl ?_
  refine g_iload_n (pc := 12) dc_JString_indexOf_1_12 rfl ?_
  refine g_xload_n (pc := 13) dc_JString_indexOf_1_13 rfl ?_
  refine g_x0 (pc := 14) (M' := mt_JString_length) dc_JString_indexOf_1_14 mo_JString_length im_JString_length se_JString_length (am_t2 232 rfl rfl) hi (Nat.le_of_ble_eq_true rfl) (Nat.le_of_ble_eq_true rfl) (am_G.mono (c_strLen hi) ?_)
  intro r h1 hq
  rw [hq.1, hq.2]
  clear hq h1 r
  refine ⟨am_nti _, ?_⟩
  refine g_s4 (pc := 17) (M' := mt_JStringLatin1_indexOf) dc_JString_indexOf_1_17 mo_JStringLatin1_indexOf st_JStringLatin1_indexOf ln_J_637 (Nat.le_of_ble_eq_true rfl) (Nat.le_of_ble_eq_true rfl) (am_G.mono (c_JStringLatin1_indexOf hi h0 hv) ?_)
  intro r h1 hq
  obtain ⟨⟨x, hq1, hx1, hx2⟩, hq2⟩ := hq
  rw [hq1, hq2]
  clear hq1 hq2 h1 r
  refine ⟨am_nti _, ?_⟩
  refine g_goto (pc := 20) (tgt := 36) dc_JString_indexOf_1_20 rfl ?_
  exact g_ireturn dc_JString_indexOf_1_36 rfl ⟨⟨x, rfl, hx1, hx2⟩, rfl⟩
theorem c_JString_indexOf_0 (hi : i < 42) (h0 : 0 < cln i) (hv : 0 ≤ v.toInt ∧ v.toInt ≤ 255) : am_C X mt_JString_indexOf_0 (d + 3) [.retAddr i, .int v] h (fun r h1 => (∃ x : Option Nat, r = some (.int (er x)) ∧ (∀ k, x = some k → k < 64) ∧ (x = none ↔ inc i v = false)) ∧ h1 = h) := by
  show am_G X mt_JString_indexOf_0 (d + 3) 0 [some (.retAddr i), some (.int v)] [] h _
  refine g_xload_n (pc := 0) dc_JString_indexOf_0_0 rfl ?_
  refine g_iload_n (pc := 1) dc_JString_indexOf_0_1 rfl ?_
  refine g_iconst (pc := 2) (v := 0) dc_JString_indexOf_0_2 rfl ?_
  refine g_x2 (pc := 3) (M' := mt_JString_indexOf_1) dc_JString_indexOf_0_3 mo_JString_indexOf_1 im_JString_indexOf_1 se_JString_indexOf_1 (am_t2 222 rfl rfl) hi (Nat.le_of_ble_eq_true rfl) (Nat.le_of_ble_eq_true rfl) (am_G.mono (c_JString_indexOf_1 hi h0 hv) ?_)
  intro r h1 hq
  obtain ⟨⟨x, hq1, hx1, hx2⟩, hq2⟩ := hq
  rw [hq1, hq2]
  clear hq1 hq2 h1 r
  refine ⟨am_nti _, ?_⟩
  exact g_ireturn dc_JString_indexOf_0_6 rfl ⟨⟨x, rfl, hx1, hx2⟩, rfl⟩
end TXC
