/-! ===== hex digits; blanks at both ends; the same bytes ===== -/
def hx (v : Int32) : Option Nat := if 48 ≤ v.toInt ∧ v.toInt ≤ 57 then some (v.toInt.toNat - 48) else if 97 ≤ v.toInt ∧ v.toInt ≤ 102 then some (v.toInt.toNat - 87) else if 65 ≤ v.toInt ∧ v.toInt ≤ 70 then some (v.toInt.toNat - 55) else none
def hxr (v : Int32) : Int32 := match hx v with
  | some k => nI k
  | none => -1
theorem i_nat {v : Int32} (h : 0 ≤ v.toInt) : v = nI v.toInt.toNat := by
  have h1 := Int32.toInt_lt v
  apply Int32.toInt_inj.mp
  rw [nI_toInt (by omega)]
  omega
theorem i_sub {v : Int32} {c : Nat} (h : (c : Int) ≤ v.toInt) : v - nI c = nI (v.toInt.toNat - c) := by
  have e := i_nat (v := v) (by omega)
  generalize v.toInt.toNat = j at *
  have h1 : c ≤ j := by
    have h2 : v.toInt = (j : Int) ∨ True := Or.inr trivial
    rw [e] at h
    by_cases hj : j < 2 ^ 31
    · rw [nI_toInt hj] at h; omega
    · exact Nat.le_of_not_lt (fun h9 => by
        have h8 := Int32.toInt_lt (nI j)
        omega)
  rw [e]
  exact pk_sub h1
theorem hx_1 {v : Int32} (h : 48 ≤ v.toInt ∧ v.toInt ≤ 57) : v - 48 = hxr v := by
  unfold hxr hx
  rw [if_pos h]
  exact i_sub (c := 48) h.1
theorem hx_2 {v : Int32} (h : 97 ≤ v.toInt ∧ v.toInt ≤ 102) : v - 97 + 10 = hxr v := by
  unfold hxr hx
  rw [if_neg (by omega), if_pos h]
  show v - nI 97 + nI 10 = nI (v.toInt.toNat - 87)
  rw [i_sub (c := 97) h.1, nI_add]
  exact congrArg nI (by omega)
theorem hx_3 {v : Int32} (h : 65 ≤ v.toInt ∧ v.toInt ≤ 70) : v - 65 + 10 = hxr v := by
  unfold hxr hx
  rw [if_neg (by omega), if_neg (by omega), if_pos h]
  show v - nI 65 + nI 10 = nI (v.toInt.toNat - 55)
  rw [i_sub (c := 65) h.1, nI_add]
  exact congrArg nI (by omega)
theorem hx_4 {v : Int32} (h1 : ¬ (48 ≤ v.toInt ∧ v.toInt ≤ 57)) (h2 : ¬ (97 ≤ v.toInt ∧ v.toInt ≤ 102)) (h3 : ¬ (65 ≤ v.toInt ∧ v.toInt ≤ 70)) : -1 = hxr v := by
  unfold hxr hx
  rw [if_neg h1, if_neg h2, if_neg h3]
section AMT2
variable {X : am_X} {d : Nat} {h : List va_E} {v : Int32} {a c cap cc : Nat} {f g : Nat → Int32}
theorem c_W_hexValue : am_C X mt_W_hexValue d [.int v] h (fun r h1 => r = some (.int (hxr v)) ∧ h1 = h) := by
  show am_G X mt_W_hexValue d 0 [some (.int v)] [] h _
  refine g_iload_n (pc := 0) dc_W_hexValue_0 rfl ?_
  refine g_bipush (pc := 1) (v := 48) dc_W_hexValue_1 rfl ?_
  refine g_icmp_lt (pc := 3) (tgt := 17) dc_W_hexValue_3 rfl (fun hc3 => ?_) (fun hc3 => ?_)
  · have hi3 : _ < (48 : Int) := Int32.lt_iff_toInt_lt.mp hc3
    refine g_iload_n (pc := 17) dc_W_hexValue_17 rfl ?_
    refine g_bipush (pc := 18) (v := 97) dc_W_hexValue_18 rfl ?_
    refine g_icmp_lt (pc := 20) (tgt := 37) dc_W_hexValue_20 rfl (fun hc20 => ?_) (fun hc20 => ?_)
    · have hi20 : _ < (97 : Int) := Int32.lt_iff_toInt_lt.mp hc20
      refine g_iload_n (pc := 37) dc_W_hexValue_37 rfl ?_
      refine g_bipush (pc := 38) (v := 65) dc_W_hexValue_38 rfl ?_
      refine g_icmp_lt (pc := 40) (tgt := 59) dc_W_hexValue_40 rfl (fun hc40 => ?_) (fun hc40 => ?_)
      · have hi40 : _ < (65 : Int) := Int32.lt_iff_toInt_lt.mp hc40
        refine g_iconst (pc := 59) (v := (-1)) dc_W_hexValue_59 rfl ?_
        exact g_ireturn dc_W_hexValue_60 rfl ⟨congrArg (fun z => some (Value.int z)) (by first | exact hx_1 (by omega) | exact hx_2 (by omega) | exact hx_3 (by omega) | exact hx_4 (by omega) (by omega) (by omega)), rfl⟩
      · have hi40 : ¬ (_ < (65 : Int)) := fun h9 => hc40 (Int32.lt_iff_toInt_lt.mpr h9)
        refine g_iload_n (pc := 43) dc_W_hexValue_43 rfl ?_
        refine g_bipush (pc := 44) (v := 70) dc_W_hexValue_44 rfl ?_
        refine g_icmp_gt (pc := 46) (tgt := 59) dc_W_hexValue_46 rfl (fun hc46 => ?_) (fun hc46 => ?_)
        · have hi46 : (70 : Int) < _ := Int32.lt_iff_toInt_lt.mp hc46
          refine g_iconst (pc := 59) (v := (-1)) dc_W_hexValue_59 rfl ?_
          exact g_ireturn dc_W_hexValue_60 rfl ⟨congrArg (fun z => some (Value.int z)) (by first | exact hx_1 (by omega) | exact hx_2 (by omega) | exact hx_3 (by omega) | exact hx_4 (by omega) (by omega) (by omega)), rfl⟩
        · have hi46 : ¬ ((70 : Int) < _) := fun h9 => hc46 (Int32.lt_iff_toInt_lt.mpr h9)
          refine g_iload_n (pc := 49) dc_W_hexValue_49 rfl ?_
          refine g_bipush (pc := 50) (v := 65) dc_W_hexValue_50 rfl ?_
          refine g_isub (pc := 52) dc_W_hexValue_52 rfl ?_
          refine g_bipush (pc := 53) (v := 10) dc_W_hexValue_53 rfl ?_
          refine g_iadd (pc := 55) dc_W_hexValue_55 rfl ?_
          refine g_goto (pc := 56) (tgt := 60) dc_W_hexValue_56 rfl ?_
          exact g_ireturn dc_W_hexValue_60 rfl ⟨congrArg (fun z => some (Value.int z)) (by first | exact hx_1 (by omega) | exact hx_2 (by omega) | exact hx_3 (by omega) | exact hx_4 (by omega) (by omega) (by omega)), rfl⟩
    · have hi20 : ¬ (_ < (97 : Int)) := fun h9 => hc20 (Int32.lt_iff_toInt_lt.mpr h9)
      refine g_iload_n (pc := 23) dc_W_hexValue_23 rfl ?_
      refine g_bipush (pc := 24) (v := 102) dc_W_hexValue_24 rfl ?_
      refine g_icmp_gt (pc := 26) (tgt := 37) dc_W_hexValue_26 rfl (fun hc26 => ?_) (fun hc26 => ?_)
      · have hi26 : (102 : Int) < _ := Int32.lt_iff_toInt_lt.mp hc26
        refine g_iload_n (pc := 37) dc_W_hexValue_37 rfl ?_
        refine g_bipush (pc := 38) (v := 65) dc_W_hexValue_38 rfl ?_
        refine g_icmp_lt (pc := 40) (tgt := 59) dc_W_hexValue_40 rfl (fun hc40 => ?_) (fun hc40 => ?_)
        · have hi40 : _ < (65 : Int) := Int32.lt_iff_toInt_lt.mp hc40
          refine g_iconst (pc := 59) (v := (-1)) dc_W_hexValue_59 rfl ?_
          exact g_ireturn dc_W_hexValue_60 rfl ⟨congrArg (fun z => some (Value.int z)) (by first | exact hx_1 (by omega) | exact hx_2 (by omega) | exact hx_3 (by omega) | exact hx_4 (by omega) (by omega) (by omega)), rfl⟩
        · have hi40 : ¬ (_ < (65 : Int)) := fun h9 => hc40 (Int32.lt_iff_toInt_lt.mpr h9)
          refine g_iload_n (pc := 43) dc_W_hexValue_43 rfl ?_
          refine g_bipush (pc := 44) (v := 70) dc_W_hexValue_44 rfl ?_
          refine g_icmp_gt (pc := 46) (tgt := 59) dc_W_hexValue_46 rfl (fun hc46 => ?_) (fun hc46 => ?_)
          · have hi46 : (70 : Int) < _ := Int32.lt_iff_toInt_lt.mp hc46
            refine g_iconst (pc := 59) (v := (-1)) dc_W_hexValue_59 rfl ?_
            exact g_ireturn dc_W_hexValue_60 rfl ⟨congrArg (fun z => some (Value.int z)) (by first | exact hx_1 (by omega) | exact hx_2 (by omega) | exact hx_3 (by omega) | exact hx_4 (by omega) (by omega) (by omega)), rfl⟩
          · have hi46 : ¬ ((70 : Int) < _) := fun h9 => hc46 (Int32.lt_iff_toInt_lt.mpr h9)
            refine g_iload_n (pc := 49) dc_W_hexValue_49 rfl ?_
            refine g_bipush (pc := 50) (v := 65) dc_W_hexValue_50 rfl ?_
            refine g_isub (pc := 52) dc_W_hexValue_52 rfl ?_
            refine g_bipush (pc := 53) (v := 10) dc_W_hexValue_53 rfl ?_
            refine g_iadd (pc := 55) dc_W_hexValue_55 rfl ?_
            refine g_goto (pc := 56) (tgt := 60) dc_W_hexValue_56 rfl ?_
            exact g_ireturn dc_W_hexValue_60 rfl ⟨congrArg (fun z => some (Value.int z)) (by first | exact hx_1 (by omega) | exact hx_2 (by omega) | exact hx_3 (by omega) | exact hx_4 (by omega) (by omega) (by omega)), rfl⟩
      · have hi26 : ¬ ((102 : Int) < _) := fun h9 => hc26 (Int32.lt_iff_toInt_lt.mpr h9)
        refine g_iload_n (pc := 29) dc_W_hexValue_29 rfl ?_
        refine g_bipush (pc := 30) (v := 97) dc_W_hexValue_30 rfl ?_
        refine g_isub (pc := 32) dc_W_hexValue_32 rfl ?_
        refine g_bipush (pc := 33) (v := 10) dc_W_hexValue_33 rfl ?_
        refine g_iadd (pc := 35) dc_W_hexValue_35 rfl ?_
        exact g_ireturn dc_W_hexValue_36 rfl ⟨congrArg (fun z => some (Value.int z)) (by first | exact hx_1 (by omega) | exact hx_2 (by omega) | exact hx_3 (by omega) | exact hx_4 (by omega) (by omega) (by omega)), rfl⟩
  · have hi3 : ¬ (_ < (48 : Int)) := fun h9 => hc3 (Int32.lt_iff_toInt_lt.mpr h9)
    refine g_iload_n (pc := 6) dc_W_hexValue_6 rfl ?_
    refine g_bipush (pc := 7) (v := 57) dc_W_hexValue_7 rfl ?_
    refine g_icmp_gt (pc := 9) (tgt := 17) dc_W_hexValue_9 rfl (fun hc9 => ?_) (fun hc9 => ?_)
    · have hi9 : (57 : Int) < _ := Int32.lt_iff_toInt_lt.mp hc9
      refine g_iload_n (pc := 17) dc_W_hexValue_17 rfl ?_
      refine g_bipush (pc := 18) (v := 97) dc_W_hexValue_18 rfl ?_
      refine g_icmp_lt (pc := 20) (tgt := 37) dc_W_hexValue_20 rfl (fun hc20 => ?_) (fun hc20 => ?_)
      · have hi20 : _ < (97 : Int) := Int32.lt_iff_toInt_lt.mp hc20
        refine g_iload_n (pc := 37) dc_W_hexValue_37 rfl ?_
        refine g_bipush (pc := 38) (v := 65) dc_W_hexValue_38 rfl ?_
        refine g_icmp_lt (pc := 40) (tgt := 59) dc_W_hexValue_40 rfl (fun hc40 => ?_) (fun hc40 => ?_)
        · have hi40 : _ < (65 : Int) := Int32.lt_iff_toInt_lt.mp hc40
          refine g_iconst (pc := 59) (v := (-1)) dc_W_hexValue_59 rfl ?_
          exact g_ireturn dc_W_hexValue_60 rfl ⟨congrArg (fun z => some (Value.int z)) (by first | exact hx_1 (by omega) | exact hx_2 (by omega) | exact hx_3 (by omega) | exact hx_4 (by omega) (by omega) (by omega)), rfl⟩
        · have hi40 : ¬ (_ < (65 : Int)) := fun h9 => hc40 (Int32.lt_iff_toInt_lt.mpr h9)
          refine g_iload_n (pc := 43) dc_W_hexValue_43 rfl ?_
          refine g_bipush (pc := 44) (v := 70) dc_W_hexValue_44 rfl ?_
          refine g_icmp_gt (pc := 46) (tgt := 59) dc_W_hexValue_46 rfl (fun hc46 => ?_) (fun hc46 => ?_)
          · have hi46 : (70 : Int) < _ := Int32.lt_iff_toInt_lt.mp hc46
            refine g_iconst (pc := 59) (v := (-1)) dc_W_hexValue_59 rfl ?_
            exact g_ireturn dc_W_hexValue_60 rfl ⟨congrArg (fun z => some (Value.int z)) (by first | exact hx_1 (by omega) | exact hx_2 (by omega) | exact hx_3 (by omega) | exact hx_4 (by omega) (by omega) (by omega)), rfl⟩
          · have hi46 : ¬ ((70 : Int) < _) := fun h9 => hc46 (Int32.lt_iff_toInt_lt.mpr h9)
            refine g_iload_n (pc := 49) dc_W_hexValue_49 rfl ?_
            refine g_bipush (pc := 50) (v := 65) dc_W_hexValue_50 rfl ?_
            refine g_isub (pc := 52) dc_W_hexValue_52 rfl ?_
            refine g_bipush (pc := 53) (v := 10) dc_W_hexValue_53 rfl ?_
            refine g_iadd (pc := 55) dc_W_hexValue_55 rfl ?_
            refine g_goto (pc := 56) (tgt := 60) dc_W_hexValue_56 rfl ?_
            exact g_ireturn dc_W_hexValue_60 rfl ⟨congrArg (fun z => some (Value.int z)) (by first | exact hx_1 (by omega) | exact hx_2 (by omega) | exact hx_3 (by omega) | exact hx_4 (by omega) (by omega) (by omega)), rfl⟩
      · have hi20 : ¬ (_ < (97 : Int)) := fun h9 => hc20 (Int32.lt_iff_toInt_lt.mpr h9)
        refine g_iload_n (pc := 23) dc_W_hexValue_23 rfl ?_
        refine g_bipush (pc := 24) (v := 102) dc_W_hexValue_24 rfl ?_
        refine g_icmp_gt (pc := 26) (tgt := 37) dc_W_hexValue_26 rfl (fun hc26 => ?_) (fun hc26 => ?_)
        · have hi26 : (102 : Int) < _ := Int32.lt_iff_toInt_lt.mp hc26
          refine g_iload_n (pc := 37) dc_W_hexValue_37 rfl ?_
          refine g_bipush (pc := 38) (v := 65) dc_W_hexValue_38 rfl ?_
          refine g_icmp_lt (pc := 40) (tgt := 59) dc_W_hexValue_40 rfl (fun hc40 => ?_) (fun hc40 => ?_)
          · have hi40 : _ < (65 : Int) := Int32.lt_iff_toInt_lt.mp hc40
            refine g_iconst (pc := 59) (v := (-1)) dc_W_hexValue_59 rfl ?_
            exact g_ireturn dc_W_hexValue_60 rfl ⟨congrArg (fun z => some (Value.int z)) (by first | exact hx_1 (by omega) | exact hx_2 (by omega) | exact hx_3 (by omega) | exact hx_4 (by omega) (by omega) (by omega)), rfl⟩
          · have hi40 : ¬ (_ < (65 : Int)) := fun h9 => hc40 (Int32.lt_iff_toInt_lt.mpr h9)
            refine g_iload_n (pc := 43) dc_W_hexValue_43 rfl ?_
            refine g_bipush (pc := 44) (v := 70) dc_W_hexValue_44 rfl ?_
            refine g_icmp_gt (pc := 46) (tgt := 59) dc_W_hexValue_46 rfl (fun hc46 => ?_) (fun hc46 => ?_)
            · have hi46 : (70 : Int) < _ := Int32.lt_iff_toInt_lt.mp hc46
              refine g_iconst (pc := 59) (v := (-1)) dc_W_hexValue_59 rfl ?_
              exact g_ireturn dc_W_hexValue_60 rfl ⟨congrArg (fun z => some (Value.int z)) (by first | exact hx_1 (by omega) | exact hx_2 (by omega) | exact hx_3 (by omega) | exact hx_4 (by omega) (by omega) (by omega)), rfl⟩
            · have hi46 : ¬ ((70 : Int) < _) := fun h9 => hc46 (Int32.lt_iff_toInt_lt.mpr h9)
              refine g_iload_n (pc := 49) dc_W_hexValue_49 rfl ?_
              refine g_bipush (pc := 50) (v := 65) dc_W_hexValue_50 rfl ?_
              refine g_isub (pc := 52) dc_W_hexValue_52 rfl ?_
              refine g_bipush (pc := 53) (v := 10) dc_W_hexValue_53 rfl ?_
              refine g_iadd (pc := 55) dc_W_hexValue_55 rfl ?_
              refine g_goto (pc := 56) (tgt := 60) dc_W_hexValue_56 rfl ?_
              exact g_ireturn dc_W_hexValue_60 rfl ⟨congrArg (fun z => some (Value.int z)) (by first | exact hx_1 (by omega) | exact hx_2 (by omega) | exact hx_3 (by omega) | exact hx_4 (by omega) (by omega) (by omega)), rfl⟩
        · have hi26 : ¬ ((102 : Int) < _) := fun h9 => hc26 (Int32.lt_iff_toInt_lt.mpr h9)
          refine g_iload_n (pc := 29) dc_W_hexValue_29 rfl ?_
          refine g_bipush (pc := 30) (v := 97) dc_W_hexValue_30 rfl ?_
          refine g_isub (pc := 32) dc_W_hexValue_32 rfl ?_
          refine g_bipush (pc := 33) (v := 10) dc_W_hexValue_33 rfl ?_
          refine g_iadd (pc := 35) dc_W_hexValue_35 rfl ?_
          exact g_ireturn dc_W_hexValue_36 rfl ⟨congrArg (fun z => some (Value.int z)) (by first | exact hx_1 (by omega) | exact hx_2 (by omega) | exact hx_3 (by omega) | exact hx_4 (by omega) (by omega) (by omega)), rfl⟩
    · have hi9 : ¬ ((57 : Int) < _) := fun h9 => hc9 (Int32.lt_iff_toInt_lt.mpr h9)
      refine g_iload_n (pc := 12) dc_W_hexValue_12 rfl ?_
      refine g_bipush (pc := 13) (v := 48) dc_W_hexValue_13 rfl ?_
      refine g_isub (pc := 15) dc_W_hexValue_15 rfl ?_
      exact g_ireturn dc_W_hexValue_16 rfl ⟨congrArg (fun z => some (Value.int z)) (by first | exact hx_1 (by omega) | exact hx_2 (by omega) | exact hx_3 (by omega) | exact hx_4 (by omega) (by omega) (by omega)), rfl⟩
/-- how many blanks stand ahead -/
def bl0 : List Int32 → Nat
  | [] => 0
  | x :: t => if isBl x = true then bl0 t + 1 else 0
theorem bl0_t {x : Int32} {t : List Int32} (h : isBl x = true) : bl0 (x :: t) = bl0 t + 1 := if_pos h
theorem bl0_f {x : Int32} {t : List Int32} (h : ¬ isBl x = true) : bl0 (x :: t) = 0 := if_neg h
theorem b1_eq0 {b : Bool} : b1 b = 0 ↔ ¬ b = true := by cases b <;> simp [b1]
theorem l_W_trimmedFrom (ha : h[a]? = some (.inl (0, cap, .inl g))) (hcap : cap < 2 ^ 31) (fr : Nat) : ∀ n i : Nat, i + n ≤ cap → am_G X mt_W_trimmedFrom (d + 1) 2 [some (.ref a), some (.int (nI fr)), some (.int (nI (i + n))), some (.int (nI i))] [] h (fun r h1 => r = some (.int (nI (i + bl0 (sl g i n)))) ∧ h1 = h)
  | 0, i, hi => by
    refine g_iload_n (pc := 2) dc_W_trimmedFrom_2 rfl ?_
    refine g_iload_n (pc := 3) dc_W_trimmedFrom_3 rfl ?_
    refine g_icmp_ge (pc := 4) (tgt := 22) dc_W_trimmedFrom_4 rfl (fun _ => ?_) (fun hc => absurd hc (fun h9 => h9 (nI_le (Nat.le_refl _) (by omega))))
    refine g_iload_n (pc := 22) dc_W_trimmedFrom_22 rfl ?_
    exact g_ireturn dc_W_trimmedFrom_23 rfl ⟨rfl, rfl⟩
  | n + 1, i, hi => by
    refine g_iload_n (pc := 2) dc_W_trimmedFrom_2 rfl ?_
    refine g_iload_n (pc := 3) dc_W_trimmedFrom_3 rfl ?_
    refine g_icmp_ge (pc := 4) (tgt := 22) dc_W_trimmedFrom_4 rfl (fun hc => absurd hc (nI_ge (by omega) (by omega))) (fun _ => ?_)
    refine g_aload_n (pc := 7) dc_W_trimmedFrom_7 rfl ?_
    refine g_iload_n (pc := 8) dc_W_trimmedFrom_8 rfl ?_
    refine g_baload (pc := 9) dc_W_trimmedFrom_9 ha (vp_in_nI (by omega) hcap) ?_
    rw [nI_clamp (show i < 2 ^ 31 by omega)]
    refine g_s1 (pc := 10) (M' := mt_W_isBlank) dc_W_trimmedFrom_10 mo_W_isBlank st_W_isBlank ln_W_305 (Nat.le_of_ble_eq_true rfl) (Nat.le_of_ble_eq_true rfl) (am_G.mono c_W_isBlank ?_)
    intro r h1 hq
    rw [hq.1, hq.2]
    clear hq h1 r
    refine ⟨am_nti _, ?_⟩
    refine g_if_eq (pc := 13) (tgt := 22) dc_W_trimmedFrom_13 rfl (fun hc13 => ?_) (fun hc13 => ?_)
    · refine g_iload_n (pc := 22) dc_W_trimmedFrom_22 rfl ?_
      exact g_ireturn dc_W_trimmedFrom_23 rfl ⟨by show some (Value.int (nI i)) = some (.int (nI (i + bl0 (g i :: sl g (i + 1) n)))); rw [bl0_f (b1_eq0.mp hc13)]; rfl, rfl⟩
    · refine g_iinc (pc := 16) dc_W_trimmedFrom_16 rfl (nI_1 i) (by decide) ?_
      refine g_goto (pc := 19) (tgt := 2) dc_W_trimmedFrom_19 rfl ?_
      rw [show i + (n + 1) = i + 1 + n by omega]
      refine am_G.mono (l_W_trimmedFrom ha hcap fr n (i + 1) (by omega)) (fun r h1 hq => ⟨?_, hq.2⟩)
      show r = some (Value.int (nI (i + bl0 (g i :: sl g (i + 1) n))))
      rw [hq.1, bl0_t (Decidable.not_not.mp (fun h9 => hc13 (b1_eq0.mpr h9))), show i + (bl0 (sl g (i + 1) n) + 1) = i + 1 + bl0 (sl g (i + 1) n) by omega]
theorem c_W_trimmedFrom {fr n : Nat} (ha : h[a]? = some (.inl (0, cap, .inl g))) (hcap : cap < 2 ^ 31) (hn : fr + n ≤ cap) : am_C X mt_W_trimmedFrom (d + 1) [.ref a, .int (nI fr), .int (nI (fr + n))] h (fun r h1 => r = some (.int (nI (fr + bl0 (sl g fr n)))) ∧ h1 = h) := by
  show am_G X mt_W_trimmedFrom (d + 1) 0 [some (.ref a), some (.int (nI fr)), some (.int (nI (fr + n))), none] [] h _
  refine g_iload_n (pc := 0) dc_W_trimmedFrom_0 rfl ?_
  refine g_istore_n (pc := 1) dc_W_trimmedFrom_1 (by decide) ?_
  exact l_W_trimmedFrom ha hcap fr n fr hn
end AMT2
