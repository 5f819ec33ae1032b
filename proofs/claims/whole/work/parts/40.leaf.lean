/-! ===== kinds of bytes, both sides ===== -/
def b1 (b : Bool) : Int32 := if b then 1 else 0
theorem b1_t {p : Prop} {hd : Decidable p} (h : p) : (1 : Int32) = b1 (@decide p hd) := by unfold b1; rw [decide_eq_true h]; rfl
theorem b1_f {p : Prop} {hd : Decidable p} (h : ¬ p) : (0 : Int32) = b1 (@decide p hd) := by unfold b1; rw [decide_eq_false h]; rfl
theorem b1_z {b : Bool} : b1 b &&& 1 = b1 b := by cases b <;> decide
def isBl (v : Int32) : Bool := decide (v.toInt = 32 ∨ v.toInt = 9 ∨ v.toInt = 10 ∨ v.toInt = 12 ∨ v.toInt = 13)
def isLe (v : Int32) : Bool := decide ((97 ≤ v.toInt ∧ v.toInt ≤ 122) ∨ (65 ≤ v.toInt ∧ v.toInt ≤ 90))
def isDi (v : Int32) : Bool := decide (48 ≤ v.toInt ∧ v.toInt ≤ 57)
def toLo (v : Int32) : Int32 := if 65 ≤ v.toInt ∧ v.toInt ≤ 90 then v + 32 else v
theorem toLo_t {v : Int32} (h : 65 ≤ v.toInt ∧ v.toInt ≤ 90) : v + 32 = toLo v := by unfold toLo; rw [if_pos h]
theorem toLo_f {v : Int32} (h : ¬ (65 ≤ v.toInt ∧ v.toInt ≤ 90)) : v = toLo v := by unfold toLo; rw [if_neg h]
section AMY
variable {X : am_X} {d : Nat} {h : List va_E} {v : Int32}
theorem c_W_isBlank : am_C X mt_W_isBlank d [.int v] h (fun r h1 => r = some (.int (b1 (isBl v))) ∧ h1 = h) := by
  show am_G X mt_W_isBlank d 0 [some (.int v)] [] h _
  refine g_iload_n (pc := 0) dc_W_isBlank_0 rfl ?_
  refine g_bipush (pc := 1) (v := 32) dc_W_isBlank_1 rfl ?_
  refine g_icmp_eq (pc := 3) (tgt := 30) dc_W_isBlank_3 rfl (fun hc3 => ?_) (fun hc3 => ?_)
  · have hi3 : _ = (32 : Int) := Int32.toInt_inj.symm.mp hc3
    refine g_iconst (pc := 30) (v := 1) dc_W_isBlank_30 rfl ?_
    refine g_goto (pc := 31) (tgt := 35) dc_W_isBlank_31 rfl ?_
    exact g_zreturn dc_W_isBlank_35 rfl rfl ⟨congrArg (fun z => some (Value.int z)) (by first | exact b1_t (by omega) | exact b1_f (by omega)), rfl⟩
  · have hi3 : ¬ (_ = (32 : Int)) := fun h9 => hc3 (Int32.toInt_inj.symm.mpr h9)
    refine g_iload_n (pc := 6) dc_W_isBlank_6 rfl ?_
    refine g_bipush (pc := 7) (v := 9) dc_W_isBlank_7 rfl ?_
    refine g_icmp_eq (pc := 9) (tgt := 30) dc_W_isBlank_9 rfl (fun hc9 => ?_) (fun hc9 => ?_)
    · have hi9 : _ = (9 : Int) := Int32.toInt_inj.symm.mp hc9
      refine g_iconst (pc := 30) (v := 1) dc_W_isBlank_30 rfl ?_
      refine g_goto (pc := 31) (tgt := 35) dc_W_isBlank_31 rfl ?_
      exact g_zreturn dc_W_isBlank_35 rfl rfl ⟨congrArg (fun z => some (Value.int z)) (by first | exact b1_t (by omega) | exact b1_f (by omega)), rfl⟩
    · have hi9 : ¬ (_ = (9 : Int)) := fun h9 => hc9 (Int32.toInt_inj.symm.mpr h9)
      refine g_iload_n (pc := 12) dc_W_isBlank_12 rfl ?_
      refine g_bipush (pc := 13) (v := 10) dc_W_isBlank_13 rfl ?_
      refine g_icmp_eq (pc := 15) (tgt := 30) dc_W_isBlank_15 rfl (fun hc15 => ?_) (fun hc15 => ?_)
      · have hi15 : _ = (10 : Int) := Int32.toInt_inj.symm.mp hc15
        refine g_iconst (pc := 30) (v := 1) dc_W_isBlank_30 rfl ?_
        refine g_goto (pc := 31) (tgt := 35) dc_W_isBlank_31 rfl ?_
        exact g_zreturn dc_W_isBlank_35 rfl rfl ⟨congrArg (fun z => some (Value.int z)) (by first | exact b1_t (by omega) | exact b1_f (by omega)), rfl⟩
      · have hi15 : ¬ (_ = (10 : Int)) := fun h9 => hc15 (Int32.toInt_inj.symm.mpr h9)
        refine g_iload_n (pc := 18) dc_W_isBlank_18 rfl ?_
        refine g_bipush (pc := 19) (v := 12) dc_W_isBlank_19 rfl ?_
        refine g_icmp_eq (pc := 21) (tgt := 30) dc_W_isBlank_21 rfl (fun hc21 => ?_) (fun hc21 => ?_)
        · have hi21 : _ = (12 : Int) := Int32.toInt_inj.symm.mp hc21
          refine g_iconst (pc := 30) (v := 1) dc_W_isBlank_30 rfl ?_
          refine g_goto (pc := 31) (tgt := 35) dc_W_isBlank_31 rfl ?_
          exact g_zreturn dc_W_isBlank_35 rfl rfl ⟨congrArg (fun z => some (Value.int z)) (by first | exact b1_t (by omega) | exact b1_f (by omega)), rfl⟩
        · have hi21 : ¬ (_ = (12 : Int)) := fun h9 => hc21 (Int32.toInt_inj.symm.mpr h9)
          refine g_iload_n (pc := 24) dc_W_isBlank_24 rfl ?_
          refine g_bipush (pc := 25) (v := 13) dc_W_isBlank_25 rfl ?_
          refine g_icmp_ne (pc := 27) (tgt := 34) dc_W_isBlank_27 rfl (fun hc27 => ?_) (fun hc27 => ?_)
          · have hi27 : ¬ (_ = (13 : Int)) := fun h9 => hc27 (Int32.toInt_inj.symm.mpr h9)
            refine g_iconst (pc := 34) (v := 0) dc_W_isBlank_34 rfl ?_
            exact g_zreturn dc_W_isBlank_35 rfl rfl ⟨congrArg (fun z => some (Value.int z)) (by first | exact b1_t (by omega) | exact b1_f (by omega)), rfl⟩
          · have hi27 : _ = (13 : Int) := Int32.toInt_inj.symm.mp hc27
            refine g_iconst (pc := 30) (v := 1) dc_W_isBlank_30 rfl ?_
            refine g_goto (pc := 31) (tgt := 35) dc_W_isBlank_31 rfl ?_
            exact g_zreturn dc_W_isBlank_35 rfl rfl ⟨congrArg (fun z => some (Value.int z)) (by first | exact b1_t (by omega) | exact b1_f (by omega)), rfl⟩
theorem c_W_isLetter : am_C X mt_W_isLetter d [.int v] h (fun r h1 => r = some (.int (b1 (isLe v))) ∧ h1 = h) := by
  show am_G X mt_W_isLetter d 0 [some (.int v)] [] h _
  refine g_iload_n (pc := 0) dc_W_isLetter_0 rfl ?_
  refine g_bipush (pc := 1) (v := 97) dc_W_isLetter_1 rfl ?_
  refine g_icmp_lt (pc := 3) (tgt := 12) dc_W_isLetter_3 rfl (fun hc3 => ?_) (fun hc3 => ?_)
  · have hi3 : _ < (97 : Int) := Int32.lt_iff_toInt_lt.mp hc3
    refine g_iload_n (pc := 12) dc_W_isLetter_12 rfl ?_
    refine g_bipush (pc := 13) (v := 65) dc_W_isLetter_13 rfl ?_
    refine g_icmp_lt (pc := 15) (tgt := 28) dc_W_isLetter_15 rfl (fun hc15 => ?_) (fun hc15 => ?_)
    · have hi15 : _ < (65 : Int) := Int32.lt_iff_toInt_lt.mp hc15
      refine g_iconst (pc := 28) (v := 0) dc_W_isLetter_28 rfl ?_
      exact g_zreturn dc_W_isLetter_29 rfl rfl ⟨congrArg (fun z => some (Value.int z)) (by first | exact b1_t (by omega) | exact b1_f (by omega)), rfl⟩
    · have hi15 : ¬ (_ < (65 : Int)) := fun h9 => hc15 (Int32.lt_iff_toInt_lt.mpr h9)
      refine g_iload_n (pc := 18) dc_W_isLetter_18 rfl ?_
      refine g_bipush (pc := 19) (v := 90) dc_W_isLetter_19 rfl ?_
      refine g_icmp_gt (pc := 21) (tgt := 28) dc_W_isLetter_21 rfl (fun hc21 => ?_) (fun hc21 => ?_)
      · have hi21 : (90 : Int) < _ := Int32.lt_iff_toInt_lt.mp hc21
        refine g_iconst (pc := 28) (v := 0) dc_W_isLetter_28 rfl ?_
        exact g_zreturn dc_W_isLetter_29 rfl rfl ⟨congrArg (fun z => some (Value.int z)) (by first | exact b1_t (by omega) | exact b1_f (by omega)), rfl⟩
      · have hi21 : ¬ ((90 : Int) < _) := fun h9 => hc21 (Int32.lt_iff_toInt_lt.mpr h9)
        refine g_iconst (pc := 24) (v := 1) dc_W_isLetter_24 rfl ?_
        refine g_goto (pc := 25) (tgt := 29) dc_W_isLetter_25 rfl ?_
        exact g_zreturn dc_W_isLetter_29 rfl rfl ⟨congrArg (fun z => some (Value.int z)) (by first | exact b1_t (by omega) | exact b1_f (by omega)), rfl⟩
  · have hi3 : ¬ (_ < (97 : Int)) := fun h9 => hc3 (Int32.lt_iff_toInt_lt.mpr h9)
    refine g_iload_n (pc := 6) dc_W_isLetter_6 rfl ?_
    refine g_bipush (pc := 7) (v := 122) dc_W_isLetter_7 rfl ?_
    refine g_icmp_le (pc := 9) (tgt := 24) dc_W_isLetter_9 rfl (fun hc9 => ?_) (fun hc9 => ?_)
    · have hi9 : _ ≤ (122 : Int) := Int32.le_iff_toInt_le.mp hc9
      refine g_iconst (pc := 24) (v := 1) dc_W_isLetter_24 rfl ?_
      refine g_goto (pc := 25) (tgt := 29) dc_W_isLetter_25 rfl ?_
      exact g_zreturn dc_W_isLetter_29 rfl rfl ⟨congrArg (fun z => some (Value.int z)) (by first | exact b1_t (by omega) | exact b1_f (by omega)), rfl⟩
    · have hi9 : ¬ (_ ≤ (122 : Int)) := fun h9 => hc9 (Int32.le_iff_toInt_le.mpr h9)
      refine g_iload_n (pc := 12) dc_W_isLetter_12 rfl ?_
      refine g_bipush (pc := 13) (v := 65) dc_W_isLetter_13 rfl ?_
      refine g_icmp_lt (pc := 15) (tgt := 28) dc_W_isLetter_15 rfl (fun hc15 => ?_) (fun hc15 => ?_)
      · have hi15 : _ < (65 : Int) := Int32.lt_iff_toInt_lt.mp hc15
        refine g_iconst (pc := 28) (v := 0) dc_W_isLetter_28 rfl ?_
        exact g_zreturn dc_W_isLetter_29 rfl rfl ⟨congrArg (fun z => some (Value.int z)) (by first | exact b1_t (by omega) | exact b1_f (by omega)), rfl⟩
      · have hi15 : ¬ (_ < (65 : Int)) := fun h9 => hc15 (Int32.lt_iff_toInt_lt.mpr h9)
        refine g_iload_n (pc := 18) dc_W_isLetter_18 rfl ?_
        refine g_bipush (pc := 19) (v := 90) dc_W_isLetter_19 rfl ?_
        refine g_icmp_gt (pc := 21) (tgt := 28) dc_W_isLetter_21 rfl (fun hc21 => ?_) (fun hc21 => ?_)
        · have hi21 : (90 : Int) < _ := Int32.lt_iff_toInt_lt.mp hc21
          refine g_iconst (pc := 28) (v := 0) dc_W_isLetter_28 rfl ?_
          exact g_zreturn dc_W_isLetter_29 rfl rfl ⟨congrArg (fun z => some (Value.int z)) (by first | exact b1_t (by omega) | exact b1_f (by omega)), rfl⟩
        · have hi21 : ¬ ((90 : Int) < _) := fun h9 => hc21 (Int32.lt_iff_toInt_lt.mpr h9)
          refine g_iconst (pc := 24) (v := 1) dc_W_isLetter_24 rfl ?_
          refine g_goto (pc := 25) (tgt := 29) dc_W_isLetter_25 rfl ?_
          exact g_zreturn dc_W_isLetter_29 rfl rfl ⟨congrArg (fun z => some (Value.int z)) (by first | exact b1_t (by omega) | exact b1_f (by omega)), rfl⟩
theorem c_W_isDigit : am_C X mt_W_isDigit d [.int v] h (fun r h1 => r = some (.int (b1 (isDi v))) ∧ h1 = h) := by
  show am_G X mt_W_isDigit d 0 [some (.int v)] [] h _
  refine g_iload_n (pc := 0) dc_W_isDigit_0 rfl ?_
  refine g_bipush (pc := 1) (v := 48) dc_W_isDigit_1 rfl ?_
  refine g_icmp_lt (pc := 3) (tgt := 16) dc_W_isDigit_3 rfl (fun hc3 => ?_) (fun hc3 => ?_)
  · have hi3 : _ < (48 : Int) := Int32.lt_iff_toInt_lt.mp hc3
    refine g_iconst (pc := 16) (v := 0) dc_W_isDigit_16 rfl ?_
    exact g_zreturn dc_W_isDigit_17 rfl rfl ⟨congrArg (fun z => some (Value.int z)) (by first | exact b1_t (by omega) | exact b1_f (by omega)), rfl⟩
  · have hi3 : ¬ (_ < (48 : Int)) := fun h9 => hc3 (Int32.lt_iff_toInt_lt.mpr h9)
    refine g_iload_n (pc := 6) dc_W_isDigit_6 rfl ?_
    refine g_bipush (pc := 7) (v := 57) dc_W_isDigit_7 rfl ?_
    refine g_icmp_gt (pc := 9) (tgt := 16) dc_W_isDigit_9 rfl (fun hc9 => ?_) (fun hc9 => ?_)
    · have hi9 : (57 : Int) < _ := Int32.lt_iff_toInt_lt.mp hc9
      refine g_iconst (pc := 16) (v := 0) dc_W_isDigit_16 rfl ?_
      exact g_zreturn dc_W_isDigit_17 rfl rfl ⟨congrArg (fun z => some (Value.int z)) (by first | exact b1_t (by omega) | exact b1_f (by omega)), rfl⟩
    · have hi9 : ¬ ((57 : Int) < _) := fun h9 => hc9 (Int32.lt_iff_toInt_lt.mpr h9)
      refine g_iconst (pc := 12) (v := 1) dc_W_isDigit_12 rfl ?_
      refine g_goto (pc := 13) (tgt := 17) dc_W_isDigit_13 rfl ?_
      exact g_zreturn dc_W_isDigit_17 rfl rfl ⟨congrArg (fun z => some (Value.int z)) (by first | exact b1_t (by omega) | exact b1_f (by omega)), rfl⟩
theorem c_W_lower : am_C X mt_W_lower d [.int v] h (fun r h1 => r = some (.int (toLo v)) ∧ h1 = h) := by
  show am_G X mt_W_lower d 0 [some (.int v)] [] h _
  refine g_iload_n (pc := 0) dc_W_lower_0 rfl ?_
  refine g_bipush (pc := 1) (v := 65) dc_W_lower_1 rfl ?_
  refine g_icmp_lt (pc := 3) (tgt := 19) dc_W_lower_3 rfl (fun hc3 => ?_) (fun hc3 => ?_)
  · have hi3 : _ < (65 : Int) := Int32.lt_iff_toInt_lt.mp hc3
    refine g_iload_n (pc := 19) dc_W_lower_19 rfl ?_
    exact g_ireturn dc_W_lower_20 rfl ⟨congrArg (fun z => some (Value.int z)) (by first | exact toLo_t (by omega) | exact toLo_f (by omega)), rfl⟩
  · have hi3 : ¬ (_ < (65 : Int)) := fun h9 => hc3 (Int32.lt_iff_toInt_lt.mpr h9)
    refine g_iload_n (pc := 6) dc_W_lower_6 rfl ?_
    refine g_bipush (pc := 7) (v := 90) dc_W_lower_7 rfl ?_
    refine g_icmp_gt (pc := 9) (tgt := 19) dc_W_lower_9 rfl (fun hc9 => ?_) (fun hc9 => ?_)
    · have hi9 : (90 : Int) < _ := Int32.lt_iff_toInt_lt.mp hc9
      refine g_iload_n (pc := 19) dc_W_lower_19 rfl ?_
      exact g_ireturn dc_W_lower_20 rfl ⟨congrArg (fun z => some (Value.int z)) (by first | exact toLo_t (by omega) | exact toLo_f (by omega)), rfl⟩
    · have hi9 : ¬ ((90 : Int) < _) := fun h9 => hc9 (Int32.lt_iff_toInt_lt.mpr h9)
      refine g_iload_n (pc := 12) dc_W_lower_12 rfl ?_
      refine g_bipush (pc := 13) (v := 32) dc_W_lower_13 rfl ?_
      refine g_iadd (pc := 15) dc_W_lower_15 rfl ?_
      refine g_goto (pc := 16) (tgt := 20) dc_W_lower_16 rfl ?_
      exact g_ireturn dc_W_lower_20 rfl ⟨congrArg (fun z => some (Value.int z)) (by first | exact toLo_t (by omega) | exact toLo_f (by omega)), rfl⟩
theorem c_M_isBlank : am_C X mt_M_isBlank d [.int v] h (fun r h1 => r = some (.int (b1 (isBl v))) ∧ h1 = h) := by
  show am_G X mt_M_isBlank d 0 [some (.int v)] [] h _
  refine g_iload_n (pc := 0) dc_M_isBlank_0 rfl ?_
  refine g_bipush (pc := 1) (v := 32) dc_M_isBlank_1 rfl ?_
  refine g_icmp_eq (pc := 3) (tgt := 30) dc_M_isBlank_3 rfl (fun hc3 => ?_) (fun hc3 => ?_)
  · have hi3 : _ = (32 : Int) := Int32.toInt_inj.symm.mp hc3
    refine g_iconst (pc := 30) (v := 1) dc_M_isBlank_30 rfl ?_
    refine g_goto (pc := 31) (tgt := 35) dc_M_isBlank_31 rfl ?_
    exact g_zreturn dc_M_isBlank_35 rfl rfl ⟨congrArg (fun z => some (Value.int z)) (by first | exact b1_t (by omega) | exact b1_f (by omega)), rfl⟩
  · have hi3 : ¬ (_ = (32 : Int)) := fun h9 => hc3 (Int32.toInt_inj.symm.mpr h9)
    refine g_iload_n (pc := 6) dc_M_isBlank_6 rfl ?_
    refine g_bipush (pc := 7) (v := 9) dc_M_isBlank_7 rfl ?_
    refine g_icmp_eq (pc := 9) (tgt := 30) dc_M_isBlank_9 rfl (fun hc9 => ?_) (fun hc9 => ?_)
    · have hi9 : _ = (9 : Int) := Int32.toInt_inj.symm.mp hc9
      refine g_iconst (pc := 30) (v := 1) dc_M_isBlank_30 rfl ?_
      refine g_goto (pc := 31) (tgt := 35) dc_M_isBlank_31 rfl ?_
      exact g_zreturn dc_M_isBlank_35 rfl rfl ⟨congrArg (fun z => some (Value.int z)) (by first | exact b1_t (by omega) | exact b1_f (by omega)), rfl⟩
    · have hi9 : ¬ (_ = (9 : Int)) := fun h9 => hc9 (Int32.toInt_inj.symm.mpr h9)
      refine g_iload_n (pc := 12) dc_M_isBlank_12 rfl ?_
      refine g_bipush (pc := 13) (v := 10) dc_M_isBlank_13 rfl ?_
      refine g_icmp_eq (pc := 15) (tgt := 30) dc_M_isBlank_15 rfl (fun hc15 => ?_) (fun hc15 => ?_)
      · have hi15 : _ = (10 : Int) := Int32.toInt_inj.symm.mp hc15
        refine g_iconst (pc := 30) (v := 1) dc_M_isBlank_30 rfl ?_
        refine g_goto (pc := 31) (tgt := 35) dc_M_isBlank_31 rfl ?_
        exact g_zreturn dc_M_isBlank_35 rfl rfl ⟨congrArg (fun z => some (Value.int z)) (by first | exact b1_t (by omega) | exact b1_f (by omega)), rfl⟩
      · have hi15 : ¬ (_ = (10 : Int)) := fun h9 => hc15 (Int32.toInt_inj.symm.mpr h9)
        refine g_iload_n (pc := 18) dc_M_isBlank_18 rfl ?_
        refine g_bipush (pc := 19) (v := 12) dc_M_isBlank_19 rfl ?_
        refine g_icmp_eq (pc := 21) (tgt := 30) dc_M_isBlank_21 rfl (fun hc21 => ?_) (fun hc21 => ?_)
        · have hi21 : _ = (12 : Int) := Int32.toInt_inj.symm.mp hc21
          refine g_iconst (pc := 30) (v := 1) dc_M_isBlank_30 rfl ?_
          refine g_goto (pc := 31) (tgt := 35) dc_M_isBlank_31 rfl ?_
          exact g_zreturn dc_M_isBlank_35 rfl rfl ⟨congrArg (fun z => some (Value.int z)) (by first | exact b1_t (by omega) | exact b1_f (by omega)), rfl⟩
        · have hi21 : ¬ (_ = (12 : Int)) := fun h9 => hc21 (Int32.toInt_inj.symm.mpr h9)
          refine g_iload_n (pc := 24) dc_M_isBlank_24 rfl ?_
          refine g_bipush (pc := 25) (v := 13) dc_M_isBlank_25 rfl ?_
          refine g_icmp_ne (pc := 27) (tgt := 34) dc_M_isBlank_27 rfl (fun hc27 => ?_) (fun hc27 => ?_)
          · have hi27 : ¬ (_ = (13 : Int)) := fun h9 => hc27 (Int32.toInt_inj.symm.mpr h9)
            refine g_iconst (pc := 34) (v := 0) dc_M_isBlank_34 rfl ?_
            exact g_zreturn dc_M_isBlank_35 rfl rfl ⟨congrArg (fun z => some (Value.int z)) (by first | exact b1_t (by omega) | exact b1_f (by omega)), rfl⟩
          · have hi27 : _ = (13 : Int) := Int32.toInt_inj.symm.mp hc27
            refine g_iconst (pc := 30) (v := 1) dc_M_isBlank_30 rfl ?_
            refine g_goto (pc := 31) (tgt := 35) dc_M_isBlank_31 rfl ?_
            exact g_zreturn dc_M_isBlank_35 rfl rfl ⟨congrArg (fun z => some (Value.int z)) (by first | exact b1_t (by omega) | exact b1_f (by omega)), rfl⟩
theorem c_M_isLetter : am_C X mt_M_isLetter d [.int v] h (fun r h1 => r = some (.int (b1 (isLe v))) ∧ h1 = h) := by
  show am_G X mt_M_isLetter d 0 [some (.int v)] [] h _
  refine g_iload_n (pc := 0) dc_M_isLetter_0 rfl ?_
  refine g_bipush (pc := 1) (v := 97) dc_M_isLetter_1 rfl ?_
  refine g_icmp_lt (pc := 3) (tgt := 12) dc_M_isLetter_3 rfl (fun hc3 => ?_) (fun hc3 => ?_)
  · have hi3 : _ < (97 : Int) := Int32.lt_iff_toInt_lt.mp hc3
    refine g_iload_n (pc := 12) dc_M_isLetter_12 rfl ?_
    refine g_bipush (pc := 13) (v := 65) dc_M_isLetter_13 rfl ?_
    refine g_icmp_lt (pc := 15) (tgt := 28) dc_M_isLetter_15 rfl (fun hc15 => ?_) (fun hc15 => ?_)
    · have hi15 : _ < (65 : Int) := Int32.lt_iff_toInt_lt.mp hc15
      refine g_iconst (pc := 28) (v := 0) dc_M_isLetter_28 rfl ?_
      exact g_zreturn dc_M_isLetter_29 rfl rfl ⟨congrArg (fun z => some (Value.int z)) (by first | exact b1_t (by omega) | exact b1_f (by omega)), rfl⟩
    · have hi15 : ¬ (_ < (65 : Int)) := fun h9 => hc15 (Int32.lt_iff_toInt_lt.mpr h9)
      refine g_iload_n (pc := 18) dc_M_isLetter_18 rfl ?_
      refine g_bipush (pc := 19) (v := 90) dc_M_isLetter_19 rfl ?_
      refine g_icmp_gt (pc := 21) (tgt := 28) dc_M_isLetter_21 rfl (fun hc21 => ?_) (fun hc21 => ?_)
      · have hi21 : (90 : Int) < _ := Int32.lt_iff_toInt_lt.mp hc21
        refine g_iconst (pc := 28) (v := 0) dc_M_isLetter_28 rfl ?_
        exact g_zreturn dc_M_isLetter_29 rfl rfl ⟨congrArg (fun z => some (Value.int z)) (by first | exact b1_t (by omega) | exact b1_f (by omega)), rfl⟩
      · have hi21 : ¬ ((90 : Int) < _) := fun h9 => hc21 (Int32.lt_iff_toInt_lt.mpr h9)
        refine g_iconst (pc := 24) (v := 1) dc_M_isLetter_24 rfl ?_
        refine g_goto (pc := 25) (tgt := 29) dc_M_isLetter_25 rfl ?_
        exact g_zreturn dc_M_isLetter_29 rfl rfl ⟨congrArg (fun z => some (Value.int z)) (by first | exact b1_t (by omega) | exact b1_f (by omega)), rfl⟩
  · have hi3 : ¬ (_ < (97 : Int)) := fun h9 => hc3 (Int32.lt_iff_toInt_lt.mpr h9)
    refine g_iload_n (pc := 6) dc_M_isLetter_6 rfl ?_
    refine g_bipush (pc := 7) (v := 122) dc_M_isLetter_7 rfl ?_
    refine g_icmp_le (pc := 9) (tgt := 24) dc_M_isLetter_9 rfl (fun hc9 => ?_) (fun hc9 => ?_)
    · have hi9 : _ ≤ (122 : Int) := Int32.le_iff_toInt_le.mp hc9
      refine g_iconst (pc := 24) (v := 1) dc_M_isLetter_24 rfl ?_
      refine g_goto (pc := 25) (tgt := 29) dc_M_isLetter_25 rfl ?_
      exact g_zreturn dc_M_isLetter_29 rfl rfl ⟨congrArg (fun z => some (Value.int z)) (by first | exact b1_t (by omega) | exact b1_f (by omega)), rfl⟩
    · have hi9 : ¬ (_ ≤ (122 : Int)) := fun h9 => hc9 (Int32.le_iff_toInt_le.mpr h9)
      refine g_iload_n (pc := 12) dc_M_isLetter_12 rfl ?_
      refine g_bipush (pc := 13) (v := 65) dc_M_isLetter_13 rfl ?_
      refine g_icmp_lt (pc := 15) (tgt := 28) dc_M_isLetter_15 rfl (fun hc15 => ?_) (fun hc15 => ?_)
      · have hi15 : _ < (65 : Int) := Int32.lt_iff_toInt_lt.mp hc15
        refine g_iconst (pc := 28) (v := 0) dc_M_isLetter_28 rfl ?_
        exact g_zreturn dc_M_isLetter_29 rfl rfl ⟨congrArg (fun z => some (Value.int z)) (by first | exact b1_t (by omega) | exact b1_f (by omega)), rfl⟩
      · have hi15 : ¬ (_ < (65 : Int)) := fun h9 => hc15 (Int32.lt_iff_toInt_lt.mpr h9)
        refine g_iload_n (pc := 18) dc_M_isLetter_18 rfl ?_
        refine g_bipush (pc := 19) (v := 90) dc_M_isLetter_19 rfl ?_
        refine g_icmp_gt (pc := 21) (tgt := 28) dc_M_isLetter_21 rfl (fun hc21 => ?_) (fun hc21 => ?_)
        · have hi21 : (90 : Int) < _ := Int32.lt_iff_toInt_lt.mp hc21
          refine g_iconst (pc := 28) (v := 0) dc_M_isLetter_28 rfl ?_
          exact g_zreturn dc_M_isLetter_29 rfl rfl ⟨congrArg (fun z => some (Value.int z)) (by first | exact b1_t (by omega) | exact b1_f (by omega)), rfl⟩
        · have hi21 : ¬ ((90 : Int) < _) := fun h9 => hc21 (Int32.lt_iff_toInt_lt.mpr h9)
          refine g_iconst (pc := 24) (v := 1) dc_M_isLetter_24 rfl ?_
          refine g_goto (pc := 25) (tgt := 29) dc_M_isLetter_25 rfl ?_
          exact g_zreturn dc_M_isLetter_29 rfl rfl ⟨congrArg (fun z => some (Value.int z)) (by first | exact b1_t (by omega) | exact b1_f (by omega)), rfl⟩
theorem c_M_isDigit : am_C X mt_M_isDigit d [.int v] h (fun r h1 => r = some (.int (b1 (isDi v))) ∧ h1 = h) := by
  show am_G X mt_M_isDigit d 0 [some (.int v)] [] h _
  refine g_iload_n (pc := 0) dc_M_isDigit_0 rfl ?_
  refine g_bipush (pc := 1) (v := 48) dc_M_isDigit_1 rfl ?_
  refine g_icmp_lt (pc := 3) (tgt := 16) dc_M_isDigit_3 rfl (fun hc3 => ?_) (fun hc3 => ?_)
  · have hi3 : _ < (48 : Int) := Int32.lt_iff_toInt_lt.mp hc3
    refine g_iconst (pc := 16) (v := 0) dc_M_isDigit_16 rfl ?_
    exact g_zreturn dc_M_isDigit_17 rfl rfl ⟨congrArg (fun z => some (Value.int z)) (by first | exact b1_t (by omega) | exact b1_f (by omega)), rfl⟩
  · have hi3 : ¬ (_ < (48 : Int)) := fun h9 => hc3 (Int32.lt_iff_toInt_lt.mpr h9)
    refine g_iload_n (pc := 6) dc_M_isDigit_6 rfl ?_
    refine g_bipush (pc := 7) (v := 57) dc_M_isDigit_7 rfl ?_
    refine g_icmp_gt (pc := 9) (tgt := 16) dc_M_isDigit_9 rfl (fun hc9 => ?_) (fun hc9 => ?_)
    · have hi9 : (57 : Int) < _ := Int32.lt_iff_toInt_lt.mp hc9
      refine g_iconst (pc := 16) (v := 0) dc_M_isDigit_16 rfl ?_
      exact g_zreturn dc_M_isDigit_17 rfl rfl ⟨congrArg (fun z => some (Value.int z)) (by first | exact b1_t (by omega) | exact b1_f (by omega)), rfl⟩
    · have hi9 : ¬ ((57 : Int) < _) := fun h9 => hc9 (Int32.lt_iff_toInt_lt.mpr h9)
      refine g_iconst (pc := 12) (v := 1) dc_M_isDigit_12 rfl ?_
      refine g_goto (pc := 13) (tgt := 17) dc_M_isDigit_13 rfl ?_
      exact g_zreturn dc_M_isDigit_17 rfl rfl ⟨congrArg (fun z => some (Value.int z)) (by first | exact b1_t (by omega) | exact b1_f (by omega)), rfl⟩
theorem c_M_lower : am_C X mt_M_lower d [.int v] h (fun r h1 => r = some (.int (toLo v)) ∧ h1 = h) := by
  show am_G X mt_M_lower d 0 [some (.int v)] [] h _
  refine g_iload_n (pc := 0) dc_M_lower_0 rfl ?_
  refine g_bipush (pc := 1) (v := 65) dc_M_lower_1 rfl ?_
  refine g_icmp_lt (pc := 3) (tgt := 19) dc_M_lower_3 rfl (fun hc3 => ?_) (fun hc3 => ?_)
  · have hi3 : _ < (65 : Int) := Int32.lt_iff_toInt_lt.mp hc3
    refine g_iload_n (pc := 19) dc_M_lower_19 rfl ?_
    exact g_ireturn dc_M_lower_20 rfl ⟨congrArg (fun z => some (Value.int z)) (by first | exact toLo_t (by omega) | exact toLo_f (by omega)), rfl⟩
  · have hi3 : ¬ (_ < (65 : Int)) := fun h9 => hc3 (Int32.lt_iff_toInt_lt.mpr h9)
    refine g_iload_n (pc := 6) dc_M_lower_6 rfl ?_
    refine g_bipush (pc := 7) (v := 90) dc_M_lower_7 rfl ?_
    refine g_icmp_gt (pc := 9) (tgt := 19) dc_M_lower_9 rfl (fun hc9 => ?_) (fun hc9 => ?_)
    · have hi9 : (90 : Int) < _ := Int32.lt_iff_toInt_lt.mp hc9
      refine g_iload_n (pc := 19) dc_M_lower_19 rfl ?_
      exact g_ireturn dc_M_lower_20 rfl ⟨congrArg (fun z => some (Value.int z)) (by first | exact toLo_t (by omega) | exact toLo_f (by omega)), rfl⟩
    · have hi9 : ¬ ((90 : Int) < _) := fun h9 => hc9 (Int32.lt_iff_toInt_lt.mpr h9)
      refine g_iload_n (pc := 12) dc_M_lower_12 rfl ?_
      refine g_bipush (pc := 13) (v := 32) dc_M_lower_13 rfl ?_
      refine g_iadd (pc := 15) dc_M_lower_15 rfl ?_
      refine g_goto (pc := 16) (tgt := 20) dc_M_lower_16 rfl ?_
      exact g_ireturn dc_M_lower_20 rfl ⟨congrArg (fun z => some (Value.int z)) (by first | exact toLo_t (by omega) | exact toLo_f (by omega)), rfl⟩
end AMY
