/-! ===== cells that were written, cells that were not ===== -/
theorem am_se {h : List va_E} {k : Nat} {e : va_E} (hk : k < h.length) : (h.set k e)[k]? = some e := List.getElem?_set_self hk
theorem am_sn {h : List va_E} {a k : Nat} {e x : va_E} (hne : a ≠ k) (hk : h[k]? = some x) : (h.set a e)[k]? = some x := (List.getElem?_set_ne hne).trans hk
theorem am_lt {h : List va_E} {k : Nat} {x : va_E} (hk : h[k]? = some x) : k < h.length := (List.getElem?_eq_some_iff.mp hk).1
/-- a row of bytes: the object at a, its array at b -/
def hB (h : List va_E) (a b cap : Nat) (g : Nat → Int32) (n : Nat) : List va_E := (h.set b (.inl (0, cap, .inl g))).set a (.inr (1, [.ref b, .int (nI n)]))
section AMH
variable {h : List va_E} {a b cap n m k : Nat} {g g' : Nat → Int32} {e : va_E}
theorem hB_a (ha : a < h.length) : (hB h a b cap g n)[a]? = some (.inr (1, [.ref b, .int (nI n)])) := am_se (by rw [List.length_set]; exact ha)
theorem hB_b (hab : a ≠ b) (hb : b < h.length) : (hB h a b cap g n)[b]? = some (.inl (0, cap, .inl g)) := am_sn hab (am_se hb)
theorem hB_k (ha : a ≠ k) (hb : b ≠ k) (hk : h[k]? = some e) : (hB h a b cap g n)[k]? = some e := am_sn ha (am_sn hb hk)
theorem hB_sb (hab : a ≠ b) : (hB h a b cap g n).set b (.inl (0, cap, .inl g')) = hB h a b cap g' n := by
  unfold hB
  rw [List.set_comm _ _ hab, List.set_set]
theorem hB_sa : (hB h a b cap g n).set a (.inr (1, [.ref b, .int (nI m)])) = hB h a b cap g m := List.set_set ..
theorem hB_len : (hB h a b cap g n).length = h.length := by unfold hB; rw [List.length_set, List.length_set]
end AMH
theorem am_sh0 {v : Int32} : v >>> ((0 : Int32) &&& 31) = v := by
  have h : ((0 : Int32) &&& 31) = 0 := by decide
  rw [h]
  exact Int32.shiftRight_zero
def by8 (v : Int32) : Int32 := vp_nar .byte v.toInt8.toInt32
section AMP
variable {X : am_X} {d : Nat} {h : List va_E} {a b cap n : Nat} {g : Nat → Int32} {v : Int32}
theorem c_B_put0 (hab : a ≠ b) (ha : a < h.length) (hb : b < h.length) (hn : n < cap) (hcap : cap < 2 ^ 31) :
    am_C X mt_B_put d [.ref a, .int v] (hB h a b cap g n) (fun r h' => r = none ∧ h' = hB h a b cap (upd g n (by8 v)) (n + 1)) := by
  show am_G X mt_B_put d 0 [some (.ref a), some (.int v)] [] _ _
  refine g_aload_n (pc := 0) dc_B_put_0 rfl ?_
  refine g_getfield (pc := 1) dc_B_put_1 fl_B_15 (hB_a ha) rfl ?_
  refine g_aload_n (pc := 4) dc_B_put_4 rfl ?_
  refine g_getfield (pc := 5) dc_B_put_5 fl_B_9 (hB_a ha) rfl ?_
  refine g_alen (pc := 8) dc_B_put_8 (hB_b hab hb) (by decide) ?_
  refine g_icmp_ne (pc := 9) (tgt := 32) dc_B_put_9 rfl (fun _ => ?_) (fun hc => absurd ((nI_eq (by omega) hcap).mp hc) (by omega))
  refine g_aload_n (pc := 32) dc_B_put_32 rfl ?_
  refine g_getfield (pc := 33) dc_B_put_33 fl_B_9 (hB_a ha) rfl ?_
  refine g_aload_n (pc := 36) dc_B_put_36 rfl ?_
  refine g_getfield (pc := 37) dc_B_put_37 fl_B_15 (hB_a ha) rfl ?_
  refine g_iload_n (pc := 40) dc_B_put_40 rfl ?_
  refine g_i2b (pc := 41) dc_B_put_41 rfl ?_
  refine g_bastore (pc := 42) dc_B_put_42 (hB_b hab hb) (vp_in_nI hn hcap) ?_
  rw [nI_clamp (show n < 2 ^ 31 by omega), hB_sb hab]
  refine g_aload_n (pc := 43) dc_B_put_43 rfl ?_
  refine g_dup (pc := 44) dc_B_put_44 rfl ?_
  refine g_getfield (pc := 45) dc_B_put_45 fl_B_15 (hB_a ha) rfl ?_
  refine g_iconst (pc := 48) (v := 1) dc_B_put_48 rfl ?_
  refine g_iadd (pc := 49) dc_B_put_49 (nI_1 n) ?_
  refine g_putfield (pc := 50) dc_B_put_50 fp_B_put_15 (hB_a ha) (Nat.le_of_ble_eq_true rfl) rfl rfl ?_
  have e9 : (hB h a b cap (upd g n (vp_nar .byte v.toInt8.toInt32)) n).set a (.inr (1, ([.ref b, .int (nI n)] : List Value).set 1 (.int (nI (n + 1))))) = hB h a b cap (upd g n (by8 v)) (n + 1) := hB_sa
  rw [e9]
  exact g_return dc_B_put_53 rfl ⟨rfl, rfl⟩
/-- four bytes of an int, behind n -/
def up4 (g : Nat → Int32) (n : Nat) (v : Int32) : Nat → Int32 := upd (upd (upd (upd g n (by8 (v >>> 24))) (n + 1) (by8 (v >>> 16))) (n + 2) (by8 (v >>> 8))) (n + 3) (by8 v)
theorem c_B_putInt0 (hab : a ≠ b) (ha : a < h.length) (hb : b < h.length) (hn : n + 3 < cap) (hcap : cap < 2 ^ 31) :
    am_C X mt_B_putInt (d + 1) [.ref a, .int v] (hB h a b cap g n) (fun r h' => r = none ∧ h' = hB h a b cap (up4 g n v) (n + 4)) := by
  show am_G X mt_B_putInt (d + 1) 0 [some (.ref a), some (.int v)] [] _ _
  refine g_aload_n (pc := 0) dc_B_putInt_0 rfl ?_
  refine g_iload_n (pc := 1) dc_B_putInt_1 rfl ?_
  refine g_bipush (pc := 2) (v := 24) dc_B_putInt_2 rfl ?_
  refine g_ishr (pc := 4) (v := v >>> 24) dc_B_putInt_4 rfl ?_
  refine g_virtual (pc := 5) (M' := mt_B_put) (vs := [.int (v >>> 24)]) (rest := []) dc_B_putInt_5 mo_B_put im_B_put se_B_put ln_B_29 (hB_a ha) rfl rfl rfl (Nat.le_of_ble_eq_true rfl) (by decide) (c_B_put0 hab ha hb (by omega) hcap) ?_
  rintro r h1 ⟨rfl, rfl⟩
  refine ⟨am_nt0, ?_⟩
  refine g_aload_n (pc := 8) dc_B_putInt_8 rfl ?_
  refine g_iload_n (pc := 9) dc_B_putInt_9 rfl ?_
  refine g_bipush (pc := 10) (v := 16) dc_B_putInt_10 rfl ?_
  refine g_ishr (pc := 12) (v := v >>> 16) dc_B_putInt_12 rfl ?_
  refine g_virtual (pc := 13) (M' := mt_B_put) (vs := [.int (v >>> 16)]) (rest := []) dc_B_putInt_13 mo_B_put im_B_put se_B_put ln_B_29 (hB_a ha) rfl rfl rfl (Nat.le_of_ble_eq_true rfl) (by decide) (c_B_put0 hab ha hb (by omega) hcap) ?_
  rintro r h1 ⟨rfl, rfl⟩
  refine ⟨am_nt0, ?_⟩
  refine g_aload_n (pc := 16) dc_B_putInt_16 rfl ?_
  refine g_iload_n (pc := 17) dc_B_putInt_17 rfl ?_
  refine g_bipush (pc := 18) (v := 8) dc_B_putInt_18 rfl ?_
  refine g_ishr (pc := 20) (v := v >>> 8) dc_B_putInt_20 rfl ?_
  refine g_virtual (pc := 21) (M' := mt_B_put) (vs := [.int (v >>> 8)]) (rest := []) dc_B_putInt_21 mo_B_put im_B_put se_B_put ln_B_29 (hB_a ha) rfl rfl rfl (Nat.le_of_ble_eq_true rfl) (by decide) (c_B_put0 hab ha hb (by omega) hcap) ?_
  rintro r h1 ⟨rfl, rfl⟩
  refine ⟨am_nt0, ?_⟩
  refine g_aload_n (pc := 24) dc_B_putInt_24 rfl ?_
  refine g_iload_n (pc := 25) dc_B_putInt_25 rfl ?_
  refine g_virtual (pc := 26) (M' := mt_B_put) (vs := [.int v]) (rest := []) dc_B_putInt_26 mo_B_put im_B_put se_B_put ln_B_29 (hB_a ha) rfl rfl rfl (Nat.le_of_ble_eq_true rfl) (by decide) (c_B_put0 hab ha hb (by omega) hcap) ?_
  rintro r h1 ⟨rfl, rfl⟩
  refine ⟨am_nt0, ?_⟩
  exact g_return dc_B_putInt_29 rfl ⟨rfl, rfl⟩
end AMP
/-- the model's tape: the object at a with fields fs, its bytes at c, n of them there -/
def hC (h : List va_E) (a c : Nat) (fs : List Value) (g : Nat → Int32) (n : Nat) : List va_E := (h.set c (.inl (0, 8020, .inl g))).set a (.inr (12, fs.set 1 (.int (nI n))))
section AMM
variable {X : am_X} {d : Nat} {h : List va_E} {a c n m : Nat} {fs : List Value} {g g' : Nat → Int32} {v : Int32}
theorem hC_a (ha : a < h.length) : (hC h a c fs g n)[a]? = some (.inr (12, fs.set 1 (.int (nI n)))) := am_se (by rw [List.length_set]; exact ha)
theorem hC_c (hac : a ≠ c) (hc : c < h.length) : (hC h a c fs g n)[c]? = some (.inl (0, 8020, .inl g)) := am_sn hac (am_se hc)
theorem hC_k {k : Nat} {e : va_E} (ha : a ≠ k) (hb : c ≠ k) (hk : h[k]? = some e) : (hC h a c fs g n)[k]? = some e := am_sn ha (am_sn hb hk)
theorem hC_sc (hac : a ≠ c) : (hC h a c fs g n).set c (.inl (0, 8020, .inl g')) = hC h a c fs g' n := by
  unfold hC
  rw [List.set_comm _ _ hac, List.set_set]
theorem hC_sa : (hC h a c fs g n).set a (.inr (12, (fs.set 1 (.int (nI n))).set 1 (.int (nI m)))) = hC h a c fs g m := by
  unfold hC
  rw [List.set_set, List.set_set]
theorem fs_1 (hf : fs.length = 90) : (fs.set 1 (.int (nI n)))[1]? = some (.int (nI n)) := List.getElem?_set_self (by omega)
theorem fs_0 (h0 : fs[0]? = some (.ref c)) : (fs.set 1 (.int (nI n)))[0]? = some (.ref c) := (List.getElem?_set_ne (by decide)).trans h0
theorem c_M_take4 (hac : a ≠ c) (ha : a < h.length) (hc : c < h.length) (hf : fs.length = 90) (h0 : fs[0]? = some (.ref c)) (hn : n + 3 < 8020) :
    am_C X mt_M_take4 d [.ref a, .int v] (hC h a c fs g n) (fun r h' => r = none ∧ h' = hC h a c fs (up4 g n v) (n + 4)) := by
  show am_G X mt_M_take4 d 0 [some (.ref a), some (.int v), none] [] _ _
  refine g_bipush (pc := 0) (v := 24) dc_M_take4_0 rfl ?_
  refine g_istore_n (pc := 2) dc_M_take4_2 (by decide) ?_
  refine g_iload_n (pc := 3) dc_M_take4_3 rfl ?_
  refine g_if_lt (pc := 4) (tgt := 36) dc_M_take4_4 rfl (fun hc9 => absurd hc9 (by decide)) (fun _ => ?_)
  refine g_aload_n (pc := 7) dc_M_take4_7 rfl ?_
  refine g_getfield (pc := 8) dc_M_take4_8 fl_M_143 (hC_a ha) (fs_0 h0) ?_
  refine g_aload_n (pc := 11) dc_M_take4_11 rfl ?_
  refine g_getfield (pc := 12) dc_M_take4_12 fl_M_493 (hC_a ha) (fs_1 hf) ?_
  refine g_iload_n (pc := 15) dc_M_take4_15 rfl ?_
  refine g_iload_n (pc := 16) dc_M_take4_16 rfl ?_
  refine g_ishr (pc := 17) (v := v >>> 24) dc_M_take4_17 rfl ?_
  refine g_i2b (pc := 18) dc_M_take4_18 rfl ?_
  refine g_bastore (pc := 19) dc_M_take4_19 (hC_c hac hc) (vp_in_nI (n := n) (by omega) (by decide)) ?_
  rw [nI_clamp (show n < 2 ^ 31 by omega), hC_sc hac]
  refine g_aload_n (pc := 20) dc_M_take4_20 rfl ?_
  refine g_dup (pc := 21) dc_M_take4_21 rfl ?_
  refine g_getfield (pc := 22) dc_M_take4_22 fl_M_493 (hC_a ha) (fs_1 hf) ?_
  refine g_iconst (pc := 25) (v := 1) dc_M_take4_25 rfl ?_
  refine g_iadd (pc := 26) dc_M_take4_26 (nI_1 n) ?_
  refine g_putfield (pc := 27) dc_M_take4_27 fp_M_take4_493 (hC_a ha) (by rw [List.length_set, hf]; decide) rfl rfl ?_
  rw [hC_sa]
  refine g_iinc (pc := 30) (v := 16) dc_M_take4_30 rfl (by decide) (by decide) ?_
  refine g_goto (pc := 33) (tgt := 3) dc_M_take4_33 rfl ?_
  refine g_iload_n (pc := 3) dc_M_take4_3 rfl ?_
  refine g_if_lt (pc := 4) (tgt := 36) dc_M_take4_4 rfl (fun hc9 => absurd hc9 (by decide)) (fun _ => ?_)
  refine g_aload_n (pc := 7) dc_M_take4_7 rfl ?_
  refine g_getfield (pc := 8) dc_M_take4_8 fl_M_143 (hC_a ha) (fs_0 h0) ?_
  refine g_aload_n (pc := 11) dc_M_take4_11 rfl ?_
  refine g_getfield (pc := 12) dc_M_take4_12 fl_M_493 (hC_a ha) (fs_1 hf) ?_
  refine g_iload_n (pc := 15) dc_M_take4_15 rfl ?_
  refine g_iload_n (pc := 16) dc_M_take4_16 rfl ?_
  refine g_ishr (pc := 17) (v := v >>> 16) dc_M_take4_17 rfl ?_
  refine g_i2b (pc := 18) dc_M_take4_18 rfl ?_
  refine g_bastore (pc := 19) dc_M_take4_19 (hC_c hac hc) (vp_in_nI (n := (n + 1)) (by omega) (by decide)) ?_
  rw [nI_clamp (show (n + 1) < 2 ^ 31 by omega), hC_sc hac]
  refine g_aload_n (pc := 20) dc_M_take4_20 rfl ?_
  refine g_dup (pc := 21) dc_M_take4_21 rfl ?_
  refine g_getfield (pc := 22) dc_M_take4_22 fl_M_493 (hC_a ha) (fs_1 hf) ?_
  refine g_iconst (pc := 25) (v := 1) dc_M_take4_25 rfl ?_
  refine g_iadd (pc := 26) dc_M_take4_26 (nI_1 (n + 1)) ?_
  refine g_putfield (pc := 27) dc_M_take4_27 fp_M_take4_493 (hC_a ha) (by rw [List.length_set, hf]; decide) rfl rfl ?_
  rw [hC_sa]
  refine g_iinc (pc := 30) (v := 8) dc_M_take4_30 rfl (by decide) (by decide) ?_
  refine g_goto (pc := 33) (tgt := 3) dc_M_take4_33 rfl ?_
  refine g_iload_n (pc := 3) dc_M_take4_3 rfl ?_
  refine g_if_lt (pc := 4) (tgt := 36) dc_M_take4_4 rfl (fun hc9 => absurd hc9 (by decide)) (fun _ => ?_)
  refine g_aload_n (pc := 7) dc_M_take4_7 rfl ?_
  refine g_getfield (pc := 8) dc_M_take4_8 fl_M_143 (hC_a ha) (fs_0 h0) ?_
  refine g_aload_n (pc := 11) dc_M_take4_11 rfl ?_
  refine g_getfield (pc := 12) dc_M_take4_12 fl_M_493 (hC_a ha) (fs_1 hf) ?_
  refine g_iload_n (pc := 15) dc_M_take4_15 rfl ?_
  refine g_iload_n (pc := 16) dc_M_take4_16 rfl ?_
  refine g_ishr (pc := 17) (v := v >>> 8) dc_M_take4_17 rfl ?_
  refine g_i2b (pc := 18) dc_M_take4_18 rfl ?_
  refine g_bastore (pc := 19) dc_M_take4_19 (hC_c hac hc) (vp_in_nI (n := (n + 2)) (by omega) (by decide)) ?_
  rw [nI_clamp (show (n + 2) < 2 ^ 31 by omega), hC_sc hac]
  refine g_aload_n (pc := 20) dc_M_take4_20 rfl ?_
  refine g_dup (pc := 21) dc_M_take4_21 rfl ?_
  refine g_getfield (pc := 22) dc_M_take4_22 fl_M_493 (hC_a ha) (fs_1 hf) ?_
  refine g_iconst (pc := 25) (v := 1) dc_M_take4_25 rfl ?_
  refine g_iadd (pc := 26) dc_M_take4_26 (nI_1 (n + 2)) ?_
  refine g_putfield (pc := 27) dc_M_take4_27 fp_M_take4_493 (hC_a ha) (by rw [List.length_set, hf]; decide) rfl rfl ?_
  rw [hC_sa]
  refine g_iinc (pc := 30) (v := 0) dc_M_take4_30 rfl (by decide) (by decide) ?_
  refine g_goto (pc := 33) (tgt := 3) dc_M_take4_33 rfl ?_
  refine g_iload_n (pc := 3) dc_M_take4_3 rfl ?_
  refine g_if_lt (pc := 4) (tgt := 36) dc_M_take4_4 rfl (fun hc9 => absurd hc9 (by decide)) (fun _ => ?_)
  refine g_aload_n (pc := 7) dc_M_take4_7 rfl ?_
  refine g_getfield (pc := 8) dc_M_take4_8 fl_M_143 (hC_a ha) (fs_0 h0) ?_
  refine g_aload_n (pc := 11) dc_M_take4_11 rfl ?_
  refine g_getfield (pc := 12) dc_M_take4_12 fl_M_493 (hC_a ha) (fs_1 hf) ?_
  refine g_iload_n (pc := 15) dc_M_take4_15 rfl ?_
  refine g_iload_n (pc := 16) dc_M_take4_16 rfl ?_
  refine g_ishr (pc := 17) (v := v) dc_M_take4_17 am_sh0 ?_
  refine g_i2b (pc := 18) dc_M_take4_18 rfl ?_
  refine g_bastore (pc := 19) dc_M_take4_19 (hC_c hac hc) (vp_in_nI (n := (n + 3)) (by omega) (by decide)) ?_
  rw [nI_clamp (show (n + 3) < 2 ^ 31 by omega), hC_sc hac]
  refine g_aload_n (pc := 20) dc_M_take4_20 rfl ?_
  refine g_dup (pc := 21) dc_M_take4_21 rfl ?_
  refine g_getfield (pc := 22) dc_M_take4_22 fl_M_493 (hC_a ha) (fs_1 hf) ?_
  refine g_iconst (pc := 25) (v := 1) dc_M_take4_25 rfl ?_
  refine g_iadd (pc := 26) dc_M_take4_26 (nI_1 (n + 3)) ?_
  refine g_putfield (pc := 27) dc_M_take4_27 fp_M_take4_493 (hC_a ha) (by rw [List.length_set, hf]; decide) rfl rfl ?_
  rw [hC_sa]
  refine g_iinc (pc := 30) (v := (-8)) dc_M_take4_30 rfl (by decide) (by decide) ?_
  refine g_goto (pc := 33) (tgt := 3) dc_M_take4_33 rfl ?_
  refine g_iload_n (pc := 3) dc_M_take4_3 rfl ?_
  refine g_if_lt (pc := 4) (tgt := 36) dc_M_take4_4 rfl (fun _ => ?_) (fun hc9 => absurd hc9 (by decide))
  exact g_return dc_M_take4_36 rfl ⟨rfl, rfl⟩
end AMM
