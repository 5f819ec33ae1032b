/-! ===== a piece of a text against a constant ===== -/
theorem nmin_bd (x y : Nat) : Nat.min x y ≤ x ∧ Nat.min x y ≤ y ∧ (Nat.min x y = x ∨ Nat.min x y = y) := by
  have h : Nat.min x y = min x y := rfl
  rw [h]; omega
theorem nmax_bd (x y : Nat) : x ≤ Nat.max x y ∧ y ≤ Nat.max x y ∧ (Nat.max x y = x ∨ Nat.max x y = y) := by
  have h : Nat.max x y = max x y := rfl
  rw [h]; omega
def isw (i : Nat) (L : List Int32) (f t : Nat) : Bool := decide (t - f = cln i ∧ ∀ j, j < cln i → toLo (gx L (f + j)) = ch i j)
def isx (i : Nat) (L : List Int32) (f t : Nat) : Bool := decide (t - f = cln i ∧ ∀ j, j < cln i → gx L (f + j) = ch i j)
def bgw (i : Nat) (L : List Int32) (f t : Nat) : Bool := decide (f + cln i ≤ t) && isw i L f (f + cln i)
theorem isw_1 {i : Nat} {L : List Int32} {f t : Nat} (h1 : t - f = cln i) (h2 : ∀ j, j < cln i → toLo (gx L (f + j)) = ch i j) : (1 : Int32) = b1 (isw i L f t) := b1_t ⟨h1, h2⟩
theorem isw_0 {i : Nat} {L : List Int32} {f t : Nat} (h1 : ¬ t - f = cln i) : (0 : Int32) = b1 (isw i L f t) := b1_f (fun h => h1 h.1)
theorem isw_2 {i : Nat} {L : List Int32} {f t j : Nat} (hj : j < cln i) (h1 : ¬ toLo (gx L (f + j)) = ch i j) : (0 : Int32) = b1 (isw i L f t) := b1_f (fun h => h1 (h.2 j hj))
theorem isx_1 {i : Nat} {L : List Int32} {f t : Nat} (h1 : t - f = cln i) (h2 : ∀ j, j < cln i → gx L (f + j) = ch i j) : (1 : Int32) = b1 (isx i L f t) := b1_t ⟨h1, h2⟩
theorem isx_0 {i : Nat} {L : List Int32} {f t : Nat} (h1 : ¬ t - f = cln i) : (0 : Int32) = b1 (isx i L f t) := b1_f (fun h => h1 h.1)
theorem isx_2 {i : Nat} {L : List Int32} {f t j : Nat} (hj : j < cln i) (h1 : ¬ gx L (f + j) = ch i j) : (0 : Int32) = b1 (isx i L f t) := b1_f (fun h => h1 (h.2 j hj))
section TXB
variable {X : am_X} {d : Nat} {h : List va_E} {v : Int32} {a s f t i : Nat} {L : List Int32}
theorem l_W_isLower (hx : tt h a s L) (hi : i < 42) (hl : t - f = cln i) (hft : f ≤ t) (ht : t ≤ L.length) : ∀ m k : Nat, k + m = cln i → (∀ j, j < k → toLo (gx L (f + j)) = ch i j) → am_G X mt_W_isLower (d + 4) 15 [some (.ref a), some (.int (nI (s + f))), some (.int (nI (s + t))), some (.retAddr i), some (.int (nI k))] [] h (fun r h1 => r = some (.int (b1 (isw i L f t))) ∧ h1 = h)
  | 0, k, e, hp => by
    have hcl := ch_len hi
    refine g_iload (pc := 15) dc_W_isLower_15 rfl ?_
    refine g_xload_n (pc := 17) dc_W_isLower_17 rfl ?_
    refine g_x0 (pc := 18) (M' := mt_JString_length) dc_W_isLower_18 mo_JString_length im_JString_length se_JString_length (am_t3 75 rfl rfl) hi (Nat.le_of_ble_eq_true rfl) (Nat.le_of_ble_eq_true rfl) (am_G.mono (c_strLen hi) ?_)
    intro r h1 hq
    rw [hq.1, hq.2]
    clear hq h1 r
    refine ⟨am_nti _, ?_⟩
    refine q_icmp_ge (pc := 21) (tgt := 50) k (cln i) dc_W_isLower_21 (by omega) (by omega) rfl (fun hc21 => ?_) (fun hc => absurd hc (by omega))
    refine g_iconst (pc := 50) (v := 1) dc_W_isLower_50 rfl ?_
    exact g_zreturn dc_W_isLower_51 rfl rfl ⟨congrArg (fun z => some (Value.int z)) (isw_1 hl (fun j hj => hp j (by omega))), rfl⟩
  | m + 1, k, e, hp => by
    have hcl := ch_len hi
    have hx0 := hx
    obtain ⟨cap, g, ha, hT, hs, hc⟩ := hx
    refine g_iload (pc := 15) dc_W_isLower_15 rfl ?_
    refine g_xload_n (pc := 17) dc_W_isLower_17 rfl ?_
    refine g_x0 (pc := 18) (M' := mt_JString_length) dc_W_isLower_18 mo_JString_length im_JString_length se_JString_length (am_t3 75 rfl rfl) hi (Nat.le_of_ble_eq_true rfl) (Nat.le_of_ble_eq_true rfl) (am_G.mono (c_strLen hi) ?_)
    intro r h1 hq
    rw [hq.1, hq.2]
    clear hq h1 r
    refine ⟨am_nti _, ?_⟩
    refine q_icmp_ge (pc := 21) (tgt := 50) k (cln i) dc_W_isLower_21 (by omega) (by omega) rfl (fun hc => absurd hc (by omega)) (fun hc21 => ?_)
    refine g_aload_n (pc := 24) dc_W_isLower_24 rfl ?_
    refine g_iload_n (pc := 25) dc_W_isLower_25 rfl ?_
    refine g_iload (pc := 26) dc_W_isLower_26 rfl ?_
    refine g_iadd (pc := 28) (v := (nI (s + (f + k)))) dc_W_isLower_28 (q_as s f k) ?_
    refine q_tx (pc := 29) (f + k) dc_W_isLower_29 ha hT hs (by omega) hc ?_
    refine g_s1 (pc := 30) (M' := mt_W_lower) dc_W_isLower_30 mo_W_lower st_W_lower ln_W_313 (Nat.le_of_ble_eq_true rfl) (Nat.le_of_ble_eq_true rfl) (am_G.mono (c_W_lower (v := (gx L (f + k)))) ?_)
    intro r h1 hq
    rw [hq.1, hq.2]
    clear hq h1 r
    refine ⟨am_nti _, ?_⟩
    refine g_xload_n (pc := 33) dc_W_isLower_33 rfl ?_
    refine g_iload (pc := 34) dc_W_isLower_34 rfl ?_
    refine g_x1 (pc := 36) (M' := mt_JString_charAt) dc_W_isLower_36 mo_JString_charAt im_JString_charAt se_JString_charAt (am_t3 79 rfl rfl) hi (Nat.le_of_ble_eq_true rfl) (Nat.le_of_ble_eq_true rfl) (am_G.mono (c_charAt (k := k) hi (by omega)) ?_)
    intro r h1 hq
    rw [hq.1, hq.2]
    clear hq h1 r
    refine ⟨am_nti _, ?_⟩
    refine g_icmp_eq (pc := 39) (tgt := 44) dc_W_isLower_39 rfl (fun hc39 => ?_) (fun hc39 => ?_)
    · refine g_iinc (pc := 44) (v := (nI (k + 1))) dc_W_isLower_44 rfl (nI_add k 1) (by decide) ?_
      refine g_goto (pc := 47) (tgt := 15) dc_W_isLower_47 rfl ?_
      exact l_W_isLower hx0 hi hl hft ht m (k + 1) (by omega) (fun j hj => by
        rcases Nat.eq_or_lt_of_le (Nat.le_of_lt_succ hj) with e9 | e9
        · rw [e9]; exact hc39
        · exact hp j e9)
    · refine g_iconst (pc := 42) (v := 0) dc_W_isLower_42 rfl ?_
      exact g_zreturn dc_W_isLower_43 rfl rfl ⟨congrArg (fun z => some (Value.int z)) (isw_2 (j := k) (by omega) hc39), rfl⟩
theorem t_W_isLower (hx : tt h a s L) (hi : i < 42) (hft : f ≤ t) (ht : t ≤ L.length) : am_C X mt_W_isLower (d + 4) [.ref a, .int (nI (s + f)), .int (nI (s + t)), .retAddr i] h (fun r h1 => r = some (.int (b1 (isw i L f t))) ∧ h1 = h) := by
  show am_G X mt_W_isLower (d + 4) 0 [some (.ref a), some (.int (nI (s + f))), some (.int (nI (s + t))), some (.retAddr i), none] [] h _
  have hcl := ch_len hi
  have hx0 := hx
  obtain ⟨cap, g, ha, hT, hs, hc⟩ := hx
  refine g_iload_n (pc := 0) dc_W_isLower_0 rfl ?_
  refine g_iload_n (pc := 1) dc_W_isLower_1 rfl ?_
  refine g_isub (pc := 2) (v := (nI (t - f))) dc_W_isLower_2 (q_ss (s := s) (a := t) (b := f) (by omega)) ?_
  refine g_xload_n (pc := 3) dc_W_isLower_3 rfl ?_
  refine g_x0 (pc := 4) (M' := mt_JString_length) dc_W_isLower_4 mo_JString_length im_JString_length se_JString_length (am_t3 75 rfl rfl) hi (Nat.le_of_ble_eq_true rfl) (Nat.le_of_ble_eq_true rfl) (am_G.mono (c_strLen hi) ?_)
  intro r h1 hq
  rw [hq.1, hq.2]
  clear hq h1 r
  refine ⟨am_nti _, ?_⟩
  refine q_icmp_eq (pc := 7) (tgt := 12) (t - f) (cln i) dc_W_isLower_7 (by omega) (by omega) rfl (fun hc7 => ?_) (fun hc7 => ?_)
  · refine g_iconst (pc := 12) (v := 0) dc_W_isLower_12 rfl ?_
    refine g_istore (pc := 13) dc_W_isLower_13 (by decide) ?_
    exact l_W_isLower hx0 hi hc7 hft ht (cln i) 0 (by omega) (fun j hj => absurd hj (by omega))
  · refine g_iconst (pc := 10) (v := 0) dc_W_isLower_10 rfl ?_
    exact g_zreturn dc_W_isLower_11 rfl rfl ⟨congrArg (fun z => some (Value.int z)) (isw_0 hc7), rfl⟩
theorem l_P_isExactly (hx : tt h a s L) (hi : i < 42) (hl : t - f = cln i) (hft : f ≤ t) (ht : t ≤ L.length) : ∀ m k : Nat, k + m = cln i → (∀ j, j < k → gx L (f + j) = ch i j) → am_G X mt_P_isExactly (d + 4) 15 [some (.ref a), some (.int (nI (s + f))), some (.int (nI (s + t))), some (.retAddr i), some (.int (nI k))] [] h (fun r h1 => r = some (.int (b1 (isx i L f t))) ∧ h1 = h)
  | 0, k, e, hp => by
    have hcl := ch_len hi
    refine g_iload (pc := 15) dc_P_isExactly_15 rfl ?_
    refine g_xload_n (pc := 17) dc_P_isExactly_17 rfl ?_
    refine g_x0 (pc := 18) (M' := mt_JString_length) dc_P_isExactly_18 mo_JString_length im_JString_length se_JString_length (am_t5 228 rfl rfl) hi (Nat.le_of_ble_eq_true rfl) (Nat.le_of_ble_eq_true rfl) (am_G.mono (c_strLen hi) ?_)
    intro r h1 hq
    rw [hq.1, hq.2]
    clear hq h1 r
    refine ⟨am_nti _, ?_⟩
    refine q_icmp_ge (pc := 21) (tgt := 47) k (cln i) dc_P_isExactly_21 (by omega) (by omega) rfl (fun hc21 => ?_) (fun hc => absurd hc (by omega))
    refine g_iconst (pc := 47) (v := 1) dc_P_isExactly_47 rfl ?_
    exact g_zreturn dc_P_isExactly_48 rfl rfl ⟨congrArg (fun z => some (Value.int z)) (isx_1 hl (fun j hj => hp j (by omega))), rfl⟩
  | m + 1, k, e, hp => by
    have hcl := ch_len hi
    have hx0 := hx
    obtain ⟨cap, g, ha, hT, hs, hc⟩ := hx
    refine g_iload (pc := 15) dc_P_isExactly_15 rfl ?_
    refine g_xload_n (pc := 17) dc_P_isExactly_17 rfl ?_
    refine g_x0 (pc := 18) (M' := mt_JString_length) dc_P_isExactly_18 mo_JString_length im_JString_length se_JString_length (am_t5 228 rfl rfl) hi (Nat.le_of_ble_eq_true rfl) (Nat.le_of_ble_eq_true rfl) (am_G.mono (c_strLen hi) ?_)
    intro r h1 hq
    rw [hq.1, hq.2]
    clear hq h1 r
    refine ⟨am_nti _, ?_⟩
    refine q_icmp_ge (pc := 21) (tgt := 47) k (cln i) dc_P_isExactly_21 (by omega) (by omega) rfl (fun hc => absurd hc (by omega)) (fun hc21 => ?_)
    refine g_aload_n (pc := 24) dc_P_isExactly_24 rfl ?_
    refine g_iload_n (pc := 25) dc_P_isExactly_25 rfl ?_
    refine g_iload (pc := 26) dc_P_isExactly_26 rfl ?_
    refine g_iadd (pc := 28) (v := (nI (s + (f + k)))) dc_P_isExactly_28 (q_as s f k) ?_
    refine q_tx (pc := 29) (f + k) dc_P_isExactly_29 ha hT hs (by omega) hc ?_
    refine g_xload_n (pc := 30) dc_P_isExactly_30 rfl ?_
    refine g_iload (pc := 31) dc_P_isExactly_31 rfl ?_
    refine g_x1 (pc := 33) (M' := mt_JString_charAt) dc_P_isExactly_33 mo_JString_charAt im_JString_charAt se_JString_charAt (am_t5 229 rfl rfl) hi (Nat.le_of_ble_eq_true rfl) (Nat.le_of_ble_eq_true rfl) (am_G.mono (c_charAt (k := k) hi (by omega)) ?_)
    intro r h1 hq
    rw [hq.1, hq.2]
    clear hq h1 r
    refine ⟨am_nti _, ?_⟩
    refine g_icmp_eq (pc := 36) (tgt := 41) dc_P_isExactly_36 rfl (fun hc36 => ?_) (fun hc36 => ?_)
    · refine g_iinc (pc := 41) (v := (nI (k + 1))) dc_P_isExactly_41 rfl (nI_add k 1) (by decide) ?_
      refine g_goto (pc := 44) (tgt := 15) dc_P_isExactly_44 rfl ?_
      exact l_P_isExactly hx0 hi hl hft ht m (k + 1) (by omega) (fun j hj => by
        rcases Nat.eq_or_lt_of_le (Nat.le_of_lt_succ hj) with e9 | e9
        · rw [e9]; exact hc36
        · exact hp j e9)
    · refine g_iconst (pc := 39) (v := 0) dc_P_isExactly_39 rfl ?_
      exact g_zreturn dc_P_isExactly_40 rfl rfl ⟨congrArg (fun z => some (Value.int z)) (isx_2 (j := k) (by omega) hc36), rfl⟩
theorem t_P_isExactly (hx : tt h a s L) (hi : i < 42) (hft : f ≤ t) (ht : t ≤ L.length) : am_C X mt_P_isExactly (d + 4) [.ref a, .int (nI (s + f)), .int (nI (s + t)), .retAddr i] h (fun r h1 => r = some (.int (b1 (isx i L f t))) ∧ h1 = h) := by
  show am_G X mt_P_isExactly (d + 4) 0 [some (.ref a), some (.int (nI (s + f))), some (.int (nI (s + t))), some (.retAddr i), none] [] h _
  have hcl := ch_len hi
  have hx0 := hx
  obtain ⟨cap, g, ha, hT, hs, hc⟩ := hx
  refine g_iload_n (pc := 0) dc_P_isExactly_0 rfl ?_
  refine g_iload_n (pc := 1) dc_P_isExactly_1 rfl ?_
  refine g_isub (pc := 2) (v := (nI (t - f))) dc_P_isExactly_2 (q_ss (s := s) (a := t) (b := f) (by omega)) ?_
  refine g_xload_n (pc := 3) dc_P_isExactly_3 rfl ?_
  refine g_x0 (pc := 4) (M' := mt_JString_length) dc_P_isExactly_4 mo_JString_length im_JString_length se_JString_length (am_t5 228 rfl rfl) hi (Nat.le_of_ble_eq_true rfl) (Nat.le_of_ble_eq_true rfl) (am_G.mono (c_strLen hi) ?_)
  intro r h1 hq
  rw [hq.1, hq.2]
  clear hq h1 r
  refine ⟨am_nti _, ?_⟩
  refine q_icmp_eq (pc := 7) (tgt := 12) (t - f) (cln i) dc_P_isExactly_7 (by omega) (by omega) rfl (fun hc7 => ?_) (fun hc7 => ?_)
  · refine g_iconst (pc := 12) (v := 0) dc_P_isExactly_12 rfl ?_
    refine g_istore (pc := 13) dc_P_isExactly_13 (by decide) ?_
    exact l_P_isExactly hx0 hi hc7 hft ht (cln i) 0 (by omega) (fun j hj => absurd hj (by omega))
  · refine g_iconst (pc := 10) (v := 0) dc_P_isExactly_10 rfl ?_
    exact g_zreturn dc_P_isExactly_11 rfl rfl ⟨congrArg (fun z => some (Value.int z)) (isx_0 hc7), rfl⟩
theorem l_M_isWord (hx : tt h a s L) (hi : i < 42) (hl : t - f = cln i) (hft : f ≤ t) (ht : t ≤ L.length) : ∀ m k : Nat, k + m = cln i → (∀ j, j < k → toLo (gx L (f + j)) = ch i j) → am_G X mt_M_isWord (d + 4) 24 [some (.ref a), some (.int (nI (s + f))), some (.int (nI (s + t))), some (.retAddr i), some (.int (nI (cln i))), some (.int 1), some (.int (nI k))] [] h (fun r h1 => r = some (.int (b1 (isw i L f t))) ∧ h1 = h)
  | 0, k, e, hp => by
    have hcl := ch_len hi
    refine g_iload (pc := 24) dc_M_isWord_24 rfl ?_
    refine g_iload (pc := 26) dc_M_isWord_26 rfl ?_
    refine q_icmp_ge (pc := 28) (tgt := 67) k (cln i) dc_M_isWord_28 (by omega) (by omega) rfl (fun hc28 => ?_) (fun hc => absurd hc (by omega))
    refine g_iload (pc := 67) dc_M_isWord_67 rfl ?_
    exact g_zreturn dc_M_isWord_69 rfl rfl ⟨congrArg (fun z => some (Value.int z)) (isw_1 hl (fun j hj => hp j (by omega))), rfl⟩
  | m + 1, k, e, hp => by
    have hcl := ch_len hi
    have hx0 := hx
    obtain ⟨cap, g, ha, hT, hs, hc⟩ := hx
    refine g_iload (pc := 24) dc_M_isWord_24 rfl ?_
    refine g_iload (pc := 26) dc_M_isWord_26 rfl ?_
    refine q_icmp_ge (pc := 28) (tgt := 67) k (cln i) dc_M_isWord_28 (by omega) (by omega) rfl (fun hc => absurd hc (by omega)) (fun hc28 => ?_)
    refine g_iload (pc := 31) dc_M_isWord_31 rfl ?_
    refine g_if_eq (pc := 33) (tgt := 67) dc_M_isWord_33 rfl (fun hc => absurd hc (by decide)) (fun _ => ?_)
    refine g_aload_n (pc := 36) dc_M_isWord_36 rfl ?_
    refine g_iload_n (pc := 37) dc_M_isWord_37 rfl ?_
    refine g_iload (pc := 38) dc_M_isWord_38 rfl ?_
    refine g_iadd (pc := 40) (v := (nI (s + (f + k)))) dc_M_isWord_40 (q_as s f k) ?_
    refine q_tx (pc := 41) (f + k) dc_M_isWord_41 ha hT hs (by omega) hc ?_
    refine g_s1 (pc := 42) (M' := mt_M_lower) dc_M_isWord_42 mo_M_lower st_M_lower ln_M_7 (Nat.le_of_ble_eq_true rfl) (Nat.le_of_ble_eq_true rfl) (am_G.mono (c_M_lower (v := (gx L (f + k)))) ?_)
    intro r h1 hq
    rw [hq.1, hq.2]
    clear hq h1 r
    refine ⟨am_nti _, ?_⟩
    refine g_xload_n (pc := 45) dc_M_isWord_45 rfl ?_
    refine g_iload (pc := 46) dc_M_isWord_46 rfl ?_
    refine g_x1 (pc := 48) (M' := mt_JString_charAt) dc_M_isWord_48 mo_JString_charAt im_JString_charAt se_JString_charAt (am_t8 197 rfl rfl) hi (Nat.le_of_ble_eq_true rfl) (Nat.le_of_ble_eq_true rfl) (am_G.mono (c_charAt (k := k) hi (by omega)) ?_)
    intro r h1 hq
    rw [hq.1, hq.2]
    clear hq h1 r
    refine ⟨am_nti _, ?_⟩
    refine g_icmp_ne (pc := 51) (tgt := 58) dc_M_isWord_51 rfl (fun hc51 => ?_) (fun hc51 => ?_)
    · refine g_iconst (pc := 58) (v := 0) dc_M_isWord_58 rfl ?_
      refine g_istore (pc := 59) dc_M_isWord_59 (by decide) ?_
      refine g_iinc (pc := 61) (v := (nI (k + 1))) dc_M_isWord_61 rfl (nI_add k 1) (by decide) ?_
      refine g_goto (pc := 64) (tgt := 24) dc_M_isWord_64 rfl ?_
      refine g_iload (pc := 24) dc_M_isWord_24 rfl ?_
      refine g_iload (pc := 26) dc_M_isWord_26 rfl ?_
      refine q_icmp_ge (pc := 28) (tgt := 67) (k + 1) (cln i) dc_M_isWord_28 (by omega) (by omega) rfl (fun hc28 => ?_) (fun hc28 => ?_)
      · refine g_iload (pc := 67) dc_M_isWord_67 rfl ?_
        exact g_zreturn dc_M_isWord_69 rfl rfl ⟨congrArg (fun z => some (Value.int z)) (isw_2 (j := k) (by omega) hc51), rfl⟩
      · refine g_iload (pc := 31) dc_M_isWord_31 rfl ?_
        refine g_if_eq (pc := 33) (tgt := 67) dc_M_isWord_33 rfl (fun _ => ?_) (fun hc => absurd hc (by decide))
        refine g_iload (pc := 67) dc_M_isWord_67 rfl ?_
        exact g_zreturn dc_M_isWord_69 rfl rfl ⟨congrArg (fun z => some (Value.int z)) (isw_2 (j := k) (by omega) hc51), rfl⟩
    · refine g_iconst (pc := 54) (v := 1) dc_M_isWord_54 rfl ?_
      refine g_goto (pc := 55) (tgt := 59) dc_M_isWord_55 rfl ?_
      refine g_istore (pc := 59) dc_M_isWord_59 (by decide) ?_
      refine g_iinc (pc := 61) (v := (nI (k + 1))) dc_M_isWord_61 rfl (nI_add k 1) (by decide) ?_
      refine g_goto (pc := 64) (tgt := 24) dc_M_isWord_64 rfl ?_
      exact l_M_isWord hx0 hi hl hft ht m (k + 1) (by omega) (fun j hj => by
        rcases Nat.eq_or_lt_of_le (Nat.le_of_lt_succ hj) with e9 | e9
        · rw [e9]; exact hc51
        · exact hp j e9)
theorem t_M_isWord (hx : tt h a s L) (hi : i < 42) (hft : f ≤ t) (ht : t ≤ L.length) : am_C X mt_M_isWord (d + 4) [.ref a, .int (nI (s + f)), .int (nI (s + t)), .retAddr i] h (fun r h1 => r = some (.int (b1 (isw i L f t))) ∧ h1 = h) := by
  show am_G X mt_M_isWord (d + 4) 0 [some (.ref a), some (.int (nI (s + f))), some (.int (nI (s + t))), some (.retAddr i), none, none, none] [] h _
  have hcl := ch_len hi
  have hx0 := hx
  obtain ⟨cap, g, ha, hT, hs, hc⟩ := hx
  refine g_xload_n (pc := 0) dc_M_isWord_0 rfl ?_
  refine g_x0 (pc := 1) (M' := mt_JString_length) dc_M_isWord_1 mo_JString_length im_JString_length se_JString_length (am_t8 196 rfl rfl) hi (Nat.le_of_ble_eq_true rfl) (Nat.le_of_ble_eq_true rfl) (am_G.mono (c_strLen hi) ?_)
  intro r h1 hq
  rw [hq.1, hq.2]
  clear hq h1 r
  refine ⟨am_nti _, ?_⟩
  refine g_istore (pc := 4) dc_M_isWord_4 (by decide) ?_
  refine g_iload_n (pc := 6) dc_M_isWord_6 rfl ?_
  refine g_iload_n (pc := 7) dc_M_isWord_7 rfl ?_
  refine g_isub (pc := 8) (v := (nI (t - f))) dc_M_isWord_8 (q_ss (s := s) (a := t) (b := f) (by omega)) ?_
  refine g_iload (pc := 9) dc_M_isWord_9 rfl ?_
  refine q_icmp_ne (pc := 11) (tgt := 18) (t - f) (cln i) dc_M_isWord_11 (by omega) (by omega) rfl (fun hc11 => ?_) (fun hc11 => ?_)
  · refine g_iconst (pc := 18) (v := 0) dc_M_isWord_18 rfl ?_
    refine g_istore (pc := 19) dc_M_isWord_19 (by decide) ?_
    refine g_iconst (pc := 21) (v := 0) dc_M_isWord_21 rfl ?_
    refine g_istore (pc := 22) dc_M_isWord_22 (by decide) ?_
    refine g_iload (pc := 24) dc_M_isWord_24 rfl ?_
    refine g_iload (pc := 26) dc_M_isWord_26 rfl ?_
    refine q_icmp_ge (pc := 28) (tgt := 67) 0 (cln i) dc_M_isWord_28 (by omega) (by omega) rfl (fun hc28 => ?_) (fun hc28 => ?_)
    · refine g_iload (pc := 67) dc_M_isWord_67 rfl ?_
      exact g_zreturn dc_M_isWord_69 rfl rfl ⟨congrArg (fun z => some (Value.int z)) (isw_0 hc11), rfl⟩
    · refine g_iload (pc := 31) dc_M_isWord_31 rfl ?_
      refine g_if_eq (pc := 33) (tgt := 67) dc_M_isWord_33 rfl (fun _ => ?_) (fun hc => absurd hc (by decide))
      refine g_iload (pc := 67) dc_M_isWord_67 rfl ?_
      exact g_zreturn dc_M_isWord_69 rfl rfl ⟨congrArg (fun z => some (Value.int z)) (isw_0 hc11), rfl⟩
  · refine g_iconst (pc := 14) (v := 1) dc_M_isWord_14 rfl ?_
    refine g_goto (pc := 15) (tgt := 19) dc_M_isWord_15 rfl ?_
    refine g_istore (pc := 19) dc_M_isWord_19 (by decide) ?_
    refine g_iconst (pc := 21) (v := 0) dc_M_isWord_21 rfl ?_
    refine g_istore (pc := 22) dc_M_isWord_22 (by decide) ?_
    exact l_M_isWord hx0 hi hc11 hft ht (cln i) 0 (by omega) (fun j hj => absurd hj (by omega))
theorem t_W_beginsWith (hx : tt h a s L) (hi : i < 42) (hft : f ≤ t) (ht : t ≤ L.length) : am_C X mt_W_beginsWith (d + 5) [.ref a, .int (nI (s + f)), .int (nI (s + t)), .retAddr i] h (fun r h1 => r = some (.int (b1 (bgw i L f t))) ∧ h1 = h) := by
  show am_G X mt_W_beginsWith (d + 5) 0 [some (.ref a), some (.int (nI (s + f))), some (.int (nI (s + t))), some (.retAddr i), none] [] h _
  have hcl := ch_len hi
  have hx0 := hx
  obtain ⟨cap, g, ha, hT, hs, hc⟩ := hx
  refine g_iload_n (pc := 0) dc_W_beginsWith_0 rfl ?_
  refine g_xload_n (pc := 1) dc_W_beginsWith_1 rfl ?_
  refine g_x0 (pc := 2) (M' := mt_JString_length) dc_W_beginsWith_2 mo_JString_length im_JString_length se_JString_length (am_t3 75 rfl rfl) hi (Nat.le_of_ble_eq_true rfl) (Nat.le_of_ble_eq_true rfl) (am_G.mono (c_strLen hi) ?_)
  intro r h1 hq
  rw [hq.1, hq.2]
  clear hq h1 r
  refine ⟨am_nti _, ?_⟩
  refine g_iadd (pc := 5) (v := (nI (s + (f + (cln i))))) dc_W_beginsWith_5 (q_as s f (cln i)) ?_
  refine g_istore (pc := 6) dc_W_beginsWith_6 (by decide) ?_
  refine g_iload (pc := 8) dc_W_beginsWith_8 rfl ?_
  refine g_iload_n (pc := 10) dc_W_beginsWith_10 rfl ?_
  refine q_icmp_gt (pc := 11) (tgt := 29) (s + (f + (cln i))) (s + t) dc_W_beginsWith_11 (by omega) (by omega) rfl (fun hc11 => ?_) (fun hc11 => ?_)
  · refine g_iconst (pc := 29) (v := 0) dc_W_beginsWith_29 rfl ?_
    exact g_zreturn dc_W_beginsWith_30 rfl rfl ⟨congrArg (fun z => some (Value.int z)) (by unfold bgw; rw [decide_eq_false (by omega), Bool.false_and]; rfl), rfl⟩
  · refine g_aload_n (pc := 14) dc_W_beginsWith_14 rfl ?_
    refine g_iload_n (pc := 15) dc_W_beginsWith_15 rfl ?_
    refine g_iload (pc := 16) dc_W_beginsWith_16 rfl ?_
    refine g_xload_n (pc := 18) dc_W_beginsWith_18 rfl ?_
    refine g_s4 (pc := 19) (M' := mt_W_isLower) dc_W_beginsWith_19 mo_W_isLower st_W_isLower ln_W_320 (Nat.le_of_ble_eq_true rfl) (Nat.le_of_ble_eq_true rfl) (am_G.mono (t_W_isLower (f := f) (t := f + (cln i)) (i := i) hx0 hi (by omega) (by omega)) ?_)
    intro r h1 hq
    rw [hq.1, hq.2]
    clear hq h1 r
    refine ⟨am_nti _, ?_⟩
    refine q_ifb_eq (pc := 22) (tgt := 29) dc_W_beginsWith_22 rfl (fun hc22 => ?_) (fun hc22 => ?_)
    · refine g_iconst (pc := 29) (v := 0) dc_W_beginsWith_29 rfl ?_
      exact g_zreturn dc_W_beginsWith_30 rfl rfl ⟨congrArg (fun z => some (Value.int z)) (by unfold bgw; rw [hc22, Bool.and_false]; rfl), rfl⟩
    · refine g_iconst (pc := 25) (v := 1) dc_W_beginsWith_25 rfl ?_
      refine g_goto (pc := 26) (tgt := 30) dc_W_beginsWith_26 rfl ?_
      exact g_zreturn dc_W_beginsWith_30 rfl rfl ⟨congrArg (fun z => some (Value.int z)) (by unfold bgw; rw [hc22, Bool.and_true]; exact b1_t (by omega)), rfl⟩
end TXB
theorem t0_W_isLower {X : am_X} {d : Nat} {h : List va_E} {a f t i : Nat} {L : List Int32} (hx : tt h a 0 L) (hi : i < 42) (hft : f ≤ t) (ht : t ≤ L.length) : am_C X mt_W_isLower (d + 4) [.ref a, .int (nI f), .int (nI t), .retAddr i] h (fun r h1 => r = some (.int (b1 (isw i L f t))) ∧ h1 = h) := by
  have h9 := t_W_isLower (X := X) (d := d) hx hi hft ht
  simp only [Nat.zero_add] at h9
  exact h9
theorem t0_P_isExactly {X : am_X} {d : Nat} {h : List va_E} {a f t i : Nat} {L : List Int32} (hx : tt h a 0 L) (hi : i < 42) (hft : f ≤ t) (ht : t ≤ L.length) : am_C X mt_P_isExactly (d + 4) [.ref a, .int (nI f), .int (nI t), .retAddr i] h (fun r h1 => r = some (.int (b1 (isx i L f t))) ∧ h1 = h) := by
  have h9 := t_P_isExactly (X := X) (d := d) hx hi hft ht
  simp only [Nat.zero_add] at h9
  exact h9
theorem t0_M_isWord {X : am_X} {d : Nat} {h : List va_E} {a f t i : Nat} {L : List Int32} (hx : tt h a 0 L) (hi : i < 42) (hft : f ≤ t) (ht : t ≤ L.length) : am_C X mt_M_isWord (d + 4) [.ref a, .int (nI f), .int (nI t), .retAddr i] h (fun r h1 => r = some (.int (b1 (isw i L f t))) ∧ h1 = h) := by
  have h9 := t_M_isWord (X := X) (d := d) hx hi hft ht
  simp only [Nat.zero_add] at h9
  exact h9
theorem t0_W_beginsWith {X : am_X} {d : Nat} {h : List va_E} {a f t i : Nat} {L : List Int32} (hx : tt h a 0 L) (hi : i < 42) (hft : f ≤ t) (ht : t ≤ L.length) : am_C X mt_W_beginsWith (d + 5) [.ref a, .int (nI f), .int (nI t), .retAddr i] h (fun r h1 => r = some (.int (b1 (bgw i L f t))) ∧ h1 = h) := by
  have h9 := t_W_beginsWith (X := X) (d := d) hx hi hft ht
  simp only [Nat.zero_add] at h9
  exact h9
theorem t_siteTo {X : am_X} {d : Nat} {h : List va_E} {a t : Nat} {L : List Int32} (hx : tt h a 0 L) (hft : 7 ≤ t) (ht : t ≤ L.length) : am_C X mt_W_siteTo (d + 2) [.ref a, .int (nI t)] h (fun r h1 => r = some (.int (nI (fw (nev 47) L 7 t))) ∧ h1 = h) := by
  show am_G X mt_W_siteTo (d + 2) 0 [some (.ref a), some (.int (nI t))] [] h _
  refine g_aload_n (pc := 0) dc_W_siteTo_0 rfl ?_
  refine g_bipush (pc := 1) (v := 47) dc_W_siteTo_1 rfl ?_
  refine g_ldcwS (pc := 3) 4 dc_W_siteTo_3 (by decide) rfl rfl ?_
  refine g_x0 (pc := 6) (M' := mt_JString_length) dc_W_siteTo_6 mo_JString_length im_JString_length se_JString_length (am_t3 75 rfl rfl) (by decide) (Nat.le_of_ble_eq_true rfl) (Nat.le_of_ble_eq_true rfl) (am_G.mono (c_strLen (i := 4) (by decide)) ?_)
  intro r h1 hq
  rw [hq.1, hq.2]
  clear hq h1 r
  refine ⟨am_nti _, ?_⟩
  refine g_iload_n (pc := 9) dc_W_siteTo_9 rfl ?_
  refine g_s4 (pc := 10) (M' := mt_W_indexOf) dc_W_siteTo_10 mo_W_indexOf st_W_indexOf ln_W_282 (Nat.le_of_ble_eq_true rfl) (Nat.le_of_ble_eq_true rfl) (am_G.mono (t0_W_indexOf (v := 47) (f := 7) (t := t) hx (by omega) (by omega)) ?_)
  intro r h1 hq
  rw [hq.1, hq.2]
  clear hq h1 r
  refine ⟨am_nti _, ?_⟩
  have hb10 := fw_bd (p := nev 47) (L := L) (f := 7) (t := t) (by omega)
  exact g_ireturn dc_W_siteTo_13 rfl ⟨rfl, rfl⟩
