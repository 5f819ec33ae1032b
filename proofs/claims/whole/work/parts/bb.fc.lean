/-! ===== the model counts ways ===== -/
def cnb (p : Nat → Bool) : Nat → Nat
  | 0 => 0
  | n + 1 => cnb p n + (if p n = true then 1 else 0)
theorem cnb_le {p : Nat → Bool} : ∀ n, cnb p n ≤ n
  | 0 => Nat.le_refl _
  | n + 1 => by
    have := cnb_le (p := p) n
    show cnb p n + (if p n = true then 1 else 0) ≤ n + 1
    split <;> omega
/-- who leads to whom -/
def ldM (S : MS) (n : Nat) (lf : Nat → Nat → Bool) : Prop := ∀ a b, a < n → b < n → S.leads (250 * a + b) = b1 (lf a b)
section FCS
variable {X : am_X} {d n dd : Nat} {A B h : List va_E} {S : MS} {lf : Nat → Nat → Bool}
theorem l4_M_ways (hA : A.length = 84) (hd : S.documents = n) (hn : n ≤ 250) (hL : ldM S n lf) (hdd : dd < n) : ∀ (n9 t : Nat), t + n9 = n → am_G X mt_M_ways d 4 [some (.ref 84), some (.int (nI dd)), some (.int (nI (cnb (lf dd) t))), some (.int (nI t))] [] (mput A S B) (fun r h1 => r = some (.int (nI (cnb (lf dd) n))) ∧ h1 = mput A S B)
  | 0, t, e => by
    have hcl := cnb_le (p := lf dd) t
    refine g_iload_n (pc := 4) dc_M_ways_4 rfl ?_
    refine g_aload_n (pc := 5) dc_M_ways_5 rfl ?_
    refine g_getfield (pc := 6) (v := .int (nI n)) dc_M_ways_6 fl_M_467 (mp_o hA) (congrArg (fun z => some (Value.int (nI z))) hd) ?_
    refine q_icmp_ge (pc := 9) (tgt := 41) t n dc_M_ways_9 (by omega) (by omega) rfl (fun hc9 => ?_) (fun hc => absurd hc (by omega))
    refine g_iload_n (pc := 41) dc_M_ways_41 rfl ?_
    exact g_ireturn dc_M_ways_42 rfl ⟨by rw [show t = n by omega], rfl⟩
  | n9 + 1, t, e => by
    have hcl := cnb_le (p := lf dd) t
    refine g_iload_n (pc := 4) dc_M_ways_4 rfl ?_
    refine g_aload_n (pc := 5) dc_M_ways_5 rfl ?_
    refine g_getfield (pc := 6) (v := .int (nI n)) dc_M_ways_6 fl_M_467 (mp_o hA) (congrArg (fun z => some (Value.int (nI z))) hd) ?_
    refine q_icmp_ge (pc := 9) (tgt := 41) t n dc_M_ways_9 (by omega) (by omega) rfl (fun hc => absurd hc (by omega)) (fun hc9 => ?_)
    refine g_aload_n (pc := 12) dc_M_ways_12 rfl ?_
    refine g_getfield (pc := 13) dc_M_ways_13 fl_M_397 (mp_o hA) rfl ?_
    refine g_sipush (pc := 16) (v := 250) dc_M_ways_16 rfl ?_
    refine g_iload_n (pc := 19) dc_M_ways_19 rfl ?_
    refine g_imul (pc := 20) (v := (nI (250 * dd))) dc_M_ways_20 (pk_mul 250 dd) ?_
    refine g_iload_n (pc := 21) dc_M_ways_21 rfl ?_
    refine g_iadd (pc := 22) (v := (nI (250 * dd + t))) dc_M_ways_22 (nI_add (250 * dd) t) ?_
    refine q_zaloadV (pc := 23) (250 * dd + t) dc_M_ways_23 (mp_a hA 46 rfl) (by omega) (by omega) (v := (b1 (lf dd t))) (hL dd t hdd (by omega)) ?_
    refine q_ifb_eq (pc := 24) (tgt := 33) dc_M_ways_24 rfl (fun hc24 => ?_) (fun hc24 => ?_)
    · refine g_iload_n (pc := 33) dc_M_ways_33 rfl ?_
      refine g_istore_n (pc := 34) dc_M_ways_34 (by decide) ?_
      show am_G X mt_M_ways _ 35 [some (.ref 84), some (.int (nI dd)), some (.int (nI (cnb (lf dd) t))), some (.int (nI t))] [] _ _
      refine g_iinc (pc := 35) (v := (nI (t + 1))) dc_M_ways_35 rfl (nI_add t 1) (by decide) ?_
      show am_G X mt_M_ways _ 38 [some (.ref 84), some (.int (nI dd)), some (.int (nI (cnb (lf dd) t))), some (.int (nI (t + 1)))] [] _ _
      refine g_goto (pc := 38) (tgt := 4) dc_M_ways_38 rfl ?_
      have e9 : cnb (lf dd) (t + 1) = cnb (lf dd) t + 0 := by show cnb (lf dd) t + (if lf dd t = true then 1 else 0) = _; rw [if_neg (by rw [hc24]; decide)]
      have h9 := l4_M_ways hA hd hn hL hdd n9 (t + 1) (by omega)
      rw [e9] at h9
      exact h9
    · refine g_iload_n (pc := 27) dc_M_ways_27 rfl ?_
      refine g_iconst (pc := 28) (v := 1) dc_M_ways_28 rfl ?_
      refine g_iadd (pc := 29) (v := (nI (cnb (lf dd) t + 1))) dc_M_ways_29 (nI_add (cnb (lf dd) t) 1) ?_
      refine g_goto (pc := 30) (tgt := 34) dc_M_ways_30 rfl ?_
      refine g_istore_n (pc := 34) dc_M_ways_34 (by decide) ?_
      show am_G X mt_M_ways _ 35 [some (.ref 84), some (.int (nI dd)), some (.int (nI (cnb (lf dd) t + 1))), some (.int (nI t))] [] _ _
      refine g_iinc (pc := 35) (v := (nI (t + 1))) dc_M_ways_35 rfl (nI_add t 1) (by decide) ?_
      show am_G X mt_M_ways _ 38 [some (.ref 84), some (.int (nI dd)), some (.int (nI (cnb (lf dd) t + 1))), some (.int (nI (t + 1)))] [] _ _
      refine g_goto (pc := 38) (tgt := 4) dc_M_ways_38 rfl ?_
      have e9 : cnb (lf dd) (t + 1) = cnb (lf dd) t + 1 := by show cnb (lf dd) t + (if lf dd t = true then 1 else 0) = _; rw [if_pos hc24]
      have h9 := l4_M_ways hA hd hn hL hdd n9 (t + 1) (by omega)
      rw [e9] at h9
      exact h9
theorem c_M_ways (hA : A.length = 84) (hd : S.documents = n) (hn : n ≤ 250) (hL : ldM S n lf) (hdd : dd < n) : am_C X mt_M_ways d [.ref 84, .int (nI dd)] (mput A S B) (fun r h1 => r = some (.int (nI (cnb (lf dd) n))) ∧ h1 = mput A S B) := by
  show am_G X mt_M_ways d 0 [some (.ref 84), some (.int (nI dd)), none, none] [] (mput A S B) _
  refine g_iconst (pc := 0) (v := 0) dc_M_ways_0 rfl ?_
  refine g_istore_n (pc := 1) dc_M_ways_1 (by decide) ?_
  show am_G X mt_M_ways _ 2 [some (.ref 84), some (.int (nI dd)), some (.int 0), none] [] _ _
  refine g_iconst (pc := 2) (v := 0) dc_M_ways_2 rfl ?_
  refine g_istore_n (pc := 3) dc_M_ways_3 (by decide) ?_
  show am_G X mt_M_ways _ 4 [some (.ref 84), some (.int (nI dd)), some (.int 0), some (.int 0)] [] _ _
  exact l4_M_ways hA hd hn hL hdd n 0 (Nat.zero_add _)
theorem l4_M_waysTo (hA : A.length = 84) (hd : S.documents = n) (hn : n ≤ 250) (hL : ldM S n lf) (hdd : dd < n) : ∀ (n9 t : Nat), t + n9 = n → am_G X mt_M_waysTo d 4 [some (.ref 84), some (.int (nI dd)), some (.int (nI (cnb (fun a => lf a dd) t))), some (.int (nI t))] [] (mput A S B) (fun r h1 => r = some (.int (nI (cnb (fun a => lf a dd) n))) ∧ h1 = mput A S B)
  | 0, t, e => by
    have hcl := cnb_le (p := fun a => lf a dd) t
    refine g_iload_n (pc := 4) dc_M_waysTo_4 rfl ?_
    refine g_aload_n (pc := 5) dc_M_waysTo_5 rfl ?_
    refine g_getfield (pc := 6) (v := .int (nI n)) dc_M_waysTo_6 fl_M_467 (mp_o hA) (congrArg (fun z => some (Value.int (nI z))) hd) ?_
    refine q_icmp_ge (pc := 9) (tgt := 41) t n dc_M_waysTo_9 (by omega) (by omega) rfl (fun hc9 => ?_) (fun hc => absurd hc (by omega))
    refine g_iload_n (pc := 41) dc_M_waysTo_41 rfl ?_
    exact g_ireturn dc_M_waysTo_42 rfl ⟨by rw [show t = n by omega], rfl⟩
  | n9 + 1, t, e => by
    have hcl := cnb_le (p := fun a => lf a dd) t
    refine g_iload_n (pc := 4) dc_M_waysTo_4 rfl ?_
    refine g_aload_n (pc := 5) dc_M_waysTo_5 rfl ?_
    refine g_getfield (pc := 6) (v := .int (nI n)) dc_M_waysTo_6 fl_M_467 (mp_o hA) (congrArg (fun z => some (Value.int (nI z))) hd) ?_
    refine q_icmp_ge (pc := 9) (tgt := 41) t n dc_M_waysTo_9 (by omega) (by omega) rfl (fun hc => absurd hc (by omega)) (fun hc9 => ?_)
    refine g_aload_n (pc := 12) dc_M_waysTo_12 rfl ?_
    refine g_getfield (pc := 13) dc_M_waysTo_13 fl_M_397 (mp_o hA) rfl ?_
    refine g_sipush (pc := 16) (v := 250) dc_M_waysTo_16 rfl ?_
    refine g_iload_n (pc := 19) dc_M_waysTo_19 rfl ?_
    refine g_imul (pc := 20) (v := (nI (250 * t))) dc_M_waysTo_20 (pk_mul 250 t) ?_
    refine g_iload_n (pc := 21) dc_M_waysTo_21 rfl ?_
    refine g_iadd (pc := 22) (v := (nI (250 * t + dd))) dc_M_waysTo_22 (nI_add (250 * t) dd) ?_
    refine q_zaloadV (pc := 23) (250 * t + dd) dc_M_waysTo_23 (mp_a hA 46 rfl) (by omega) (by omega) (v := (b1 (lf t dd))) (hL t dd (by omega) hdd) ?_
    refine q_ifb_eq (pc := 24) (tgt := 33) dc_M_waysTo_24 rfl (fun hc24 => ?_) (fun hc24 => ?_)
    · refine g_iload_n (pc := 33) dc_M_waysTo_33 rfl ?_
      refine g_istore_n (pc := 34) dc_M_waysTo_34 (by decide) ?_
      show am_G X mt_M_waysTo _ 35 [some (.ref 84), some (.int (nI dd)), some (.int (nI (cnb (fun a => lf a dd) t))), some (.int (nI t))] [] _ _
      refine g_iinc (pc := 35) (v := (nI (t + 1))) dc_M_waysTo_35 rfl (nI_add t 1) (by decide) ?_
      show am_G X mt_M_waysTo _ 38 [some (.ref 84), some (.int (nI dd)), some (.int (nI (cnb (fun a => lf a dd) t))), some (.int (nI (t + 1)))] [] _ _
      refine g_goto (pc := 38) (tgt := 4) dc_M_waysTo_38 rfl ?_
      have e9 : cnb (fun a => lf a dd) (t + 1) = cnb (fun a => lf a dd) t + 0 := by show cnb (fun a => lf a dd) t + (if lf t dd = true then 1 else 0) = _; rw [if_neg (by rw [hc24]; decide)]
      have h9 := l4_M_waysTo hA hd hn hL hdd n9 (t + 1) (by omega)
      rw [e9] at h9
      exact h9
    · refine g_iload_n (pc := 27) dc_M_waysTo_27 rfl ?_
      refine g_iconst (pc := 28) (v := 1) dc_M_waysTo_28 rfl ?_
      refine g_iadd (pc := 29) (v := (nI (cnb (fun a => lf a dd) t + 1))) dc_M_waysTo_29 (nI_add (cnb (fun a => lf a dd) t) 1) ?_
      refine g_goto (pc := 30) (tgt := 34) dc_M_waysTo_30 rfl ?_
      refine g_istore_n (pc := 34) dc_M_waysTo_34 (by decide) ?_
      show am_G X mt_M_waysTo _ 35 [some (.ref 84), some (.int (nI dd)), some (.int (nI (cnb (fun a => lf a dd) t + 1))), some (.int (nI t))] [] _ _
      refine g_iinc (pc := 35) (v := (nI (t + 1))) dc_M_waysTo_35 rfl (nI_add t 1) (by decide) ?_
      show am_G X mt_M_waysTo _ 38 [some (.ref 84), some (.int (nI dd)), some (.int (nI (cnb (fun a => lf a dd) t + 1))), some (.int (nI (t + 1)))] [] _ _
      refine g_goto (pc := 38) (tgt := 4) dc_M_waysTo_38 rfl ?_
      have e9 : cnb (fun a => lf a dd) (t + 1) = cnb (fun a => lf a dd) t + 1 := by show cnb (fun a => lf a dd) t + (if lf t dd = true then 1 else 0) = _; rw [if_pos hc24]
      have h9 := l4_M_waysTo hA hd hn hL hdd n9 (t + 1) (by omega)
      rw [e9] at h9
      exact h9
theorem c_M_waysTo (hA : A.length = 84) (hd : S.documents = n) (hn : n ≤ 250) (hL : ldM S n lf) (hdd : dd < n) : am_C X mt_M_waysTo d [.ref 84, .int (nI dd)] (mput A S B) (fun r h1 => r = some (.int (nI (cnb (fun a => lf a dd) n))) ∧ h1 = mput A S B) := by
  show am_G X mt_M_waysTo d 0 [some (.ref 84), some (.int (nI dd)), none, none] [] (mput A S B) _
  refine g_iconst (pc := 0) (v := 0) dc_M_waysTo_0 rfl ?_
  refine g_istore_n (pc := 1) dc_M_waysTo_1 (by decide) ?_
  show am_G X mt_M_waysTo _ 2 [some (.ref 84), some (.int (nI dd)), some (.int 0), none] [] _ _
  refine g_iconst (pc := 2) (v := 0) dc_M_waysTo_2 rfl ?_
  refine g_istore_n (pc := 3) dc_M_waysTo_3 (by decide) ?_
  show am_G X mt_M_waysTo _ 4 [some (.ref 84), some (.int (nI dd)), some (.int 0), some (.int 0)] [] _ _
  exact l4_M_waysTo hA hd hn hL hdd n 0 (Nat.zero_add _)
end FCS
