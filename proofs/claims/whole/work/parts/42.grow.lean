/-! ===== bytes in their range; Arrays.copyOf to more room ===== -/
def bt (v : Int32) : Prop := fits .byte (.int v) = true
theorem bt_0 : bt 0 := rfl
theorem by8_eq (v : Int32) : by8 v = v.toInt8.toInt32 := by
  show v.toInt8.toInt32.toInt8.toInt32 = v.toInt8.toInt32
  rw [Int8.toInt8_toInt32]
theorem bt_by8 (v : Int32) : bt (by8 v) := by
  rw [by8_eq]
  show (decide ((-128 : Int32) ≤ v.toInt8.toInt32) && decide (v.toInt8.toInt32 ≤ 127)) = true
  have h1 := Int8.le_toInt v.toInt8
  have h2 := Int8.toInt_lt v.toInt8
  have e1 : ((-128 : Int32)).toInt = -128 := by decide
  have e2 : ((127 : Int32)).toInt = 127 := by decide
  rw [Bool.and_eq_true, decide_eq_true_eq, decide_eq_true_eq, Int32.le_iff_toInt_le, Int32.le_iff_toInt_le, Int8.toInt_toInt32, e1, e2]
  omega
theorem bt_upd {g : Nat → Int32} {n : Nat} {v : Int32} (hg : ∀ j, bt (g j)) (hv : bt v) : ∀ j, bt (upd g n v j) := fun j => by
  unfold upd
  split
  · exact hv
  · exact hg j
theorem bt_cpy {f g : Nat → Int32} {sp dp n : Nat} (hf : ∀ j, bt (f j)) (hg : ∀ j, bt (g j)) : ∀ j, bt (va_cpy f g sp dp n j) := fun j => by
  unfold va_cpy
  split
  · exact hf _
  · exact hg j
theorem am_ap {h : List va_E} {k : Nat} {e x : va_E} (hk : h[k]? = some e) : (h ++ [x])[k]? = some e := (List.getElem?_append_left (am_lt hk)).trans hk
theorem am_an {h : List va_E} {x : va_E} : (h ++ [x])[h.length]? = some x := by simp
theorem am_as {h : List va_E} {x y : va_E} : (h ++ [x]).set h.length y = h ++ [y] := by simp
section AMG
variable {X : am_X} {d : Nat} {h : List va_E} {b cap m : Nat} {g : Nat → Int32}
theorem c_JMath_min {x y : Nat} (hx : x < 2 ^ 31) (hy : y < 2 ^ 31) : am_C X mt_JMath_min d [.int (nI x), .int (nI y)] h (fun r h1 => r = some (.int (nI (Nat.min x y))) ∧ h1 = h) := by
  show am_G X mt_JMath_min d 0 [some (.int (nI x)), some (.int (nI y))] [] h _
  refine g_iload_n (pc := 0) dc_JMath_min_0 rfl ?_
  refine g_iload_n (pc := 1) dc_JMath_min_1 rfl ?_
  refine g_icmp_gt (pc := 2) (tgt := 9) dc_JMath_min_2 rfl (fun hc2 => ?_) (fun hc2 => ?_)
  · have hi2 := (nI_ltI (by omega) (by omega)).mp hc2
    refine g_iload_n (pc := 9) dc_JMath_min_9 rfl ?_
    exact g_ireturn dc_JMath_min_10 rfl ⟨congrArg (fun z => some (Value.int (nI z))) (by first | exact (Nat.min_eq_left (by omega)).symm | exact (Nat.min_eq_right (by omega)).symm), rfl⟩
  · have hi2 : ¬ y < x := fun h9 => hc2 ((nI_ltI (by omega) (by omega)).mpr h9)
    refine g_iload_n (pc := 5) dc_JMath_min_5 rfl ?_
    refine g_goto (pc := 6) (tgt := 10) dc_JMath_min_6 rfl ?_
    exact g_ireturn dc_JMath_min_10 rfl ⟨congrArg (fun z => some (Value.int (nI z))) (by first | exact (Nat.min_eq_left (by omega)).symm | exact (Nat.min_eq_right (by omega)).symm), rfl⟩
theorem c_JMath_max {x y : Nat} (hx : x < 2 ^ 31) (hy : y < 2 ^ 31) : am_C X mt_JMath_max d [.int (nI x), .int (nI y)] h (fun r h1 => r = some (.int (nI (Nat.max x y))) ∧ h1 = h) := by
  show am_G X mt_JMath_max d 0 [some (.int (nI x)), some (.int (nI y))] [] h _
  refine g_iload_n (pc := 0) dc_JMath_max_0 rfl ?_
  refine g_iload_n (pc := 1) dc_JMath_max_1 rfl ?_
  refine g_icmp_lt (pc := 2) (tgt := 9) dc_JMath_max_2 rfl (fun hc2 => ?_) (fun hc2 => ?_)
  · have hi2 := (nI_ltI (by omega) (by omega)).mp hc2
    refine g_iload_n (pc := 9) dc_JMath_max_9 rfl ?_
    exact g_ireturn dc_JMath_max_10 rfl ⟨congrArg (fun z => some (Value.int (nI z))) (by first | exact (Nat.max_eq_left (by omega)).symm | exact (Nat.max_eq_right (by omega)).symm), rfl⟩
  · have hi2 : ¬ x < y := fun h9 => hc2 ((nI_ltI (by omega) (by omega)).mpr h9)
    refine g_iload_n (pc := 5) dc_JMath_max_5 rfl ?_
    refine g_goto (pc := 6) (tgt := 10) dc_JMath_max_6 rfl ?_
    exact g_ireturn dc_JMath_max_10 rfl ⟨congrArg (fun z => some (Value.int (nI z))) (by first | exact (Nat.max_eq_left (by omega)).symm | exact (Nat.max_eq_right (by omega)).symm), rfl⟩
theorem c_JArrays_copyOf_0 (hb : h[b]? = some (.inl (0, cap, .inl g))) (hne : cap < m) (hm : m ≤ 134217728) (hg : ∀ j, bt (g j)) : am_C X mt_JArrays_copyOf_0 (d + 1) [.ref b, .int (nI m)] h (fun r h1 => r = some (.ref h.length) ∧ h1 = h ++ [.inl (0, m, .inl (va_cpy g (fun _ => 0) 0 0 cap))]) := by
  show am_G X mt_JArrays_copyOf_0 (d + 1) 0 [some (.ref b), some (.int (nI m)), none] [] h _
  refine g_iload_n (pc := 0) dc_JArrays_copyOf_0_0 rfl ?_
  refine g_aload_n (pc := 1) dc_JArrays_copyOf_0_1 rfl ?_
  refine g_alen (pc := 2) dc_JArrays_copyOf_0_2 hb (by decide) ?_
  refine g_icmp_ne (pc := 3) (tgt := 14) dc_JArrays_copyOf_0_3 rfl (fun _ => ?_) (fun hc => absurd hc (fun h9 => absurd ((nI_eq (by omega) (by omega)).mp h9) (by omega)))
  refine g_iload_n (pc := 14) dc_JArrays_copyOf_0_14 rfl ?_
  refine g_newarray_b (pc := 15) (N := m) dc_JArrays_copyOf_0_15 (nI_pos (by omega)) (nI_clamp (by omega)) (by omega) ?_
  refine g_astore_n (pc := 17) dc_JArrays_copyOf_0_17 (by decide) ?_
  refine g_aload_n (pc := 18) dc_JArrays_copyOf_0_18 rfl ?_
  refine g_iconst (pc := 19) (v := 0) dc_JArrays_copyOf_0_19 rfl ?_
  refine g_aload_n (pc := 20) dc_JArrays_copyOf_0_20 rfl ?_
  refine g_iconst (pc := 21) (v := 0) dc_JArrays_copyOf_0_21 rfl ?_
  refine g_aload_n (pc := 22) dc_JArrays_copyOf_0_22 rfl ?_
  refine g_alen (pc := 23) dc_JArrays_copyOf_0_23 (am_ap hb) (by decide) ?_
  refine g_iload_n (pc := 24) dc_JArrays_copyOf_0_24 rfl ?_
  refine g_s2 (pc := 25) (M' := mt_JMath_min) dc_JArrays_copyOf_0_25 mo_JMath_min st_JMath_min ln_J_304 (Nat.le_of_ble_eq_true rfl) (Nat.le_of_ble_eq_true rfl) (am_G.mono (c_JMath_min (x := cap) (y := m) (by omega) (by omega)) ?_)
  rintro r h1 ⟨rfl, rfl⟩
  refine ⟨am_nti _, ?_⟩
  rw [show Nat.min cap m = cap from Nat.min_eq_left (by omega)]
  refine g_arraycopy (pc := 28) (a := b) (b := h.length) (t := 0) (sp := 0) (dp := 0) (n := cap) (n0 := cap) (n1 := m) dc_JArrays_copyOf_0_28 (am_t3 143 rfl rfl) rfl rfl (am_ap hb) am_an (by omega) (by omega) (by omega) (fun i _ => hg _) (Nat.le_of_ble_eq_true rfl) ?_
  rw [am_as]
  refine g_aload_n (pc := 31) dc_JArrays_copyOf_0_31 rfl ?_
  exact g_areturn dc_JArrays_copyOf_0_32 rfl (Or.inr ⟨_, rfl⟩) ⟨rfl, rfl⟩
theorem c_JArrays_copyOf_1 (hb : h[b]? = some (.inl (1, cap, .inl g))) (hne : cap < m) (hm : m ≤ 134217728) : am_C X mt_JArrays_copyOf_1 (d + 1) [.ref b, .int (nI m)] h (fun r h1 => r = some (.ref h.length) ∧ h1 = h ++ [.inl (1, m, .inl (va_cpy g (fun _ => 0) 0 0 cap))]) := by
  show am_G X mt_JArrays_copyOf_1 (d + 1) 0 [some (.ref b), some (.int (nI m)), none] [] h _
  refine g_iload_n (pc := 0) dc_JArrays_copyOf_1_0 rfl ?_
  refine g_aload_n (pc := 1) dc_JArrays_copyOf_1_1 rfl ?_
  refine g_alen (pc := 2) dc_JArrays_copyOf_1_2 hb (by decide) ?_
  refine g_icmp_ne (pc := 3) (tgt := 14) dc_JArrays_copyOf_1_3 rfl (fun _ => ?_) (fun hc => absurd hc (fun h9 => absurd ((nI_eq (by omega) (by omega)).mp h9) (by omega)))
  refine g_iload_n (pc := 14) dc_JArrays_copyOf_1_14 rfl ?_
  refine g_newarray_i (pc := 15) (N := m) dc_JArrays_copyOf_1_15 (nI_pos (by omega)) (nI_clamp (by omega)) (by omega) ?_
  refine g_astore_n (pc := 17) dc_JArrays_copyOf_1_17 (by decide) ?_
  refine g_aload_n (pc := 18) dc_JArrays_copyOf_1_18 rfl ?_
  refine g_iconst (pc := 19) (v := 0) dc_JArrays_copyOf_1_19 rfl ?_
  refine g_aload_n (pc := 20) dc_JArrays_copyOf_1_20 rfl ?_
  refine g_iconst (pc := 21) (v := 0) dc_JArrays_copyOf_1_21 rfl ?_
  refine g_aload_n (pc := 22) dc_JArrays_copyOf_1_22 rfl ?_
  refine g_alen (pc := 23) dc_JArrays_copyOf_1_23 (am_ap hb) (by decide) ?_
  refine g_iload_n (pc := 24) dc_JArrays_copyOf_1_24 rfl ?_
  refine g_s2 (pc := 25) (M' := mt_JMath_min) dc_JArrays_copyOf_1_25 mo_JMath_min st_JMath_min ln_J_304 (Nat.le_of_ble_eq_true rfl) (Nat.le_of_ble_eq_true rfl) (am_G.mono (c_JMath_min (x := cap) (y := m) (by omega) (by omega)) ?_)
  rintro r h1 ⟨rfl, rfl⟩
  refine ⟨am_nti _, ?_⟩
  rw [show Nat.min cap m = cap from Nat.min_eq_left (by omega)]
  refine g_arraycopy (pc := 28) (a := b) (b := h.length) (t := 1) (sp := 0) (dp := 0) (n := cap) (n0 := cap) (n1 := m) dc_JArrays_copyOf_1_28 (am_t3 143 rfl rfl) rfl rfl (am_ap hb) am_an (by omega) (by omega) (by omega) (fun i _ => rfl) (Nat.le_of_ble_eq_true rfl) ?_
  rw [am_as]
  refine g_aload_n (pc := 31) dc_JArrays_copyOf_1_31 rfl ?_
  exact g_areturn dc_JArrays_copyOf_1_32 rfl (Or.inr ⟨_, rfl⟩) ⟨rfl, rfl⟩
end AMG
