/-! ===== blanks at the end; the same bytes ===== -/
def rl0 (L : List Int32) : Nat := L.length - bl0 L.reverse
theorem rl0_t {g : Nat → Int32} {fr n : Nat} (h : isBl (g (fr + n)) = true) : rl0 (sl g fr (n + 1)) = rl0 (sl g fr n) := by
  unfold rl0
  rw [sl_snoc, List.reverse_append, List.length_append]
  show (sl g fr n).length + 1 - bl0 (g (fr + n) :: (sl g fr n).reverse) = _
  rw [bl0_t h]
  omega
theorem rl0_f {g : Nat → Int32} {fr n : Nat} (h : ¬ isBl (g (fr + n)) = true) : rl0 (sl g fr (n + 1)) = n + 1 := by
  unfold rl0
  rw [sl_snoc, List.reverse_append, List.length_append]
  show (sl g fr n).length + 1 - bl0 (g (fr + n) :: (sl g fr n).reverse) = _
  rw [bl0_f h, sl_len]
  rfl
theorem sl_inj {f g : Nat → Int32} : ∀ (n x y : Nat), sl f x n = sl g y n → ∀ j, j < n → f (x + j) = g (y + j)
  | 0, _, _, _, j, hj => absurd hj (by omega)
  | n + 1, x, y, h, j, hj => by
    have h1 : f x :: sl f (x + 1) n = g y :: sl g (y + 1) n := h
    injection h1 with h2 h3
    cases j with
    | zero => exact h2
    | succ j =>
      have h4 := sl_inj n (x + 1) (y + 1) h3 j (by omega)
      rw [show x + (j + 1) = x + 1 + j by omega, show y + (j + 1) = y + 1 + j by omega]
      exact h4
section AMV2
variable {X : am_X} {d : Nat} {h : List va_E} {v : Int32} {a c cap cc i n x y : Nat} {f g : Nat → Int32}
theorem l_W_trimmedTo {to : Int32} (ha : h[a]? = some (.inl (0, cap, .inl g))) (hcap : cap < 2 ^ 31) (fr : Nat) : ∀ n : Nat, fr + n ≤ cap → am_G X mt_W_trimmedTo (d + 1) 2 [some (.ref a), some (.int (nI fr)), some (.int to), some (.int (nI (fr + n)))] [] h (fun r h1 => r = some (.int (nI (fr + rl0 (sl g fr n)))) ∧ h1 = h)
  | 0, hi => by
    refine g_iload_n (pc := 2) dc_W_trimmedTo_2 rfl ?_
    refine g_iload_n (pc := 3) dc_W_trimmedTo_3 rfl ?_
    refine g_icmp_le (pc := 4) (tgt := 24) dc_W_trimmedTo_4 rfl (fun _ => ?_) (fun hc => absurd hc (fun h9 => h9 (nI_le (Nat.le_refl _) (by omega))))
    refine g_iload_n (pc := 24) dc_W_trimmedTo_24 rfl ?_
    exact g_ireturn dc_W_trimmedTo_25 rfl ⟨rfl, rfl⟩
  | n + 1, hi => by
    refine g_iload_n (pc := 2) dc_W_trimmedTo_2 rfl ?_
    refine g_iload_n (pc := 3) dc_W_trimmedTo_3 rfl ?_
    refine g_icmp_le (pc := 4) (tgt := 24) dc_W_trimmedTo_4 rfl (fun hc => absurd hc (nI_ge (by omega) (by omega))) (fun _ => ?_)
    refine g_aload_n (pc := 7) dc_W_trimmedTo_7 rfl ?_
    refine g_iload_n (pc := 8) dc_W_trimmedTo_8 rfl ?_
    refine g_iconst (pc := 9) (v := 1) dc_W_trimmedTo_9 rfl ?_
    refine g_isub (pc := 10) dc_W_trimmedTo_10 (nI_pred (fr + n)) ?_
    refine g_baload (pc := 11) dc_W_trimmedTo_11 ha (vp_in_nI (by omega) hcap) ?_
    rw [nI_clamp (show fr + n < 2 ^ 31 by omega)]
    refine g_s1 (pc := 12) (M' := mt_W_isBlank) dc_W_trimmedTo_12 mo_W_isBlank st_W_isBlank ln_W_305 (Nat.le_of_ble_eq_true rfl) (Nat.le_of_ble_eq_true rfl) (am_G.mono c_W_isBlank ?_)
    intro r h1 hq
    rw [hq.1, hq.2]
    clear hq h1 r
    refine ⟨am_nti _, ?_⟩
    refine g_if_eq (pc := 15) (tgt := 24) dc_W_trimmedTo_15 rfl (fun hc15 => ?_) (fun hc15 => ?_)
    · refine g_iload_n (pc := 24) dc_W_trimmedTo_24 rfl ?_
      exact g_ireturn dc_W_trimmedTo_25 rfl ⟨by rw [rl0_f (b1_eq0.mp hc15)], rfl⟩
    · refine g_iinc (pc := 18) dc_W_trimmedTo_18 rfl (pk_m1 (fr + n)) (by decide) ?_
      refine g_goto (pc := 21) (tgt := 2) dc_W_trimmedTo_21 rfl ?_
      refine am_G.mono (l_W_trimmedTo ha hcap fr n (by omega)) (fun r h1 hq => ⟨?_, hq.2⟩)
      rw [hq.1, rl0_t (Decidable.not_not.mp (fun h9 => hc15 (b1_eq0.mpr h9)))]
theorem c_W_trimmedTo {fr n : Nat} (ha : h[a]? = some (.inl (0, cap, .inl g))) (hcap : cap < 2 ^ 31) (hn : fr + n ≤ cap) : am_C X mt_W_trimmedTo (d + 1) [.ref a, .int (nI fr), .int (nI (fr + n))] h (fun r h1 => r = some (.int (nI (fr + rl0 (sl g fr n)))) ∧ h1 = h) := by
  show am_G X mt_W_trimmedTo (d + 1) 0 [some (.ref a), some (.int (nI fr)), some (.int (nI (fr + n))), none] [] h _
  refine g_iload_n (pc := 0) dc_W_trimmedTo_0 rfl ?_
  refine g_istore_n (pc := 1) dc_W_trimmedTo_1 (by decide) ?_
  exact l_W_trimmedTo ha hcap fr n hn
theorem l_W_sameBytes (ha : h[a]? = some (.inl (0, cap, .inl f))) (hc : h[c]? = some (.inl (0, cc, .inl g))) (h1c : cap < 2 ^ 30) (h2c : cc < 2 ^ 30) (hx : x + n ≤ cap) (hy : y + n ≤ cc) : ∀ k : Nat, k ≤ n → (∀ j, k ≤ j → j < n → f (x + j) = g (y + j)) →
    am_G X mt_W_sameBytes d 6 [some (.ref a), some (.int (nI x)), some (.ref c), some (.int (nI y)), some (.int (nI n)), some (.int (nI k - 1))] [] h (fun r h1 => r = some (.int (b1 (decide (sl f x n = sl g y n)))) ∧ h1 = h)
  | 0, _, hs => by
    refine g_iload (pc := 6) dc_W_sameBytes_6 rfl ?_
    refine g_if_lt (pc := 8) (tgt := 34) dc_W_sameBytes_8 rfl (fun _ => ?_) (fun hc => absurd hc (fun h9 => h9 (by decide)))
    refine g_iconst (pc := 34) (v := 1) dc_W_sameBytes_34 rfl ?_
    exact g_zreturn dc_W_sameBytes_35 rfl rfl ⟨congrArg (fun z => some (Value.int z)) (b1_t (sl_shift n x y (fun j hj => hs j (Nat.zero_le _) hj))), rfl⟩
  | k + 1, hk, hs => by
    rw [nI_pred k]
    refine g_iload (pc := 6) dc_W_sameBytes_6 rfl ?_
    refine g_if_lt (pc := 8) (tgt := 34) dc_W_sameBytes_8 rfl (fun hc => absurd hc (nI_pos (by omega))) (fun _ => ?_)
    refine g_aload_n (pc := 11) dc_W_sameBytes_11 rfl ?_
    refine g_iload_n (pc := 12) dc_W_sameBytes_12 rfl ?_
    refine g_iload (pc := 13) dc_W_sameBytes_13 rfl ?_
    refine g_iadd (pc := 15) dc_W_sameBytes_15 (nI_add x k) ?_
    refine g_baload (pc := 16) dc_W_sameBytes_16 ha (vp_in_nI (by omega) (by omega)) ?_
    rw [nI_clamp (show x + k < 2 ^ 31 by omega)]
    refine g_aload_n (pc := 17) dc_W_sameBytes_17 rfl ?_
    refine g_iload_n (pc := 18) dc_W_sameBytes_18 rfl ?_
    refine g_iload (pc := 19) dc_W_sameBytes_19 rfl ?_
    refine g_iadd (pc := 21) dc_W_sameBytes_21 (nI_add y k) ?_
    refine g_baload (pc := 22) dc_W_sameBytes_22 hc (vp_in_nI (by omega) (by omega)) ?_
    rw [nI_clamp (show y + k < 2 ^ 31 by omega)]
    refine g_icmp_eq (pc := 23) (tgt := 28) dc_W_sameBytes_23 rfl (fun hc23 => ?_) (fun hc23 => ?_)
    · refine g_iinc (pc := 28) dc_W_sameBytes_28 rfl (show nI k + (-1) = nI k - 1 by rw [Int32.sub_eq_add_neg]) (by decide) ?_
      refine g_goto (pc := 31) (tgt := 6) dc_W_sameBytes_31 rfl ?_
      exact l_W_sameBytes ha hc h1c h2c hx hy k (by omega) (fun j h8 h9 => by
        rcases Nat.eq_or_lt_of_le h8 with e | e
        · rw [← e]; exact hc23
        · exact hs j e h9)
    · refine g_iconst (pc := 26) (v := 0) dc_W_sameBytes_26 rfl ?_
      exact g_zreturn dc_W_sameBytes_27 rfl rfl ⟨congrArg (fun z => some (Value.int z)) (b1_f (fun h9 => hc23 (sl_inj n x y h9 k (by omega)))), rfl⟩
theorem c_W_sameBytes (ha : h[a]? = some (.inl (0, cap, .inl f))) (hc : h[c]? = some (.inl (0, cc, .inl g))) (h1c : cap < 2 ^ 30) (h2c : cc < 2 ^ 30) (hx : x + n ≤ cap) (hy : y + n ≤ cc) :
    am_C X mt_W_sameBytes d [.ref a, .int (nI x), .ref c, .int (nI y), .int (nI n)] h (fun r h1 => r = some (.int (b1 (decide (sl f x n = sl g y n)))) ∧ h1 = h) := by
  show am_G X mt_W_sameBytes d 0 [some (.ref a), some (.int (nI x)), some (.ref c), some (.int (nI y)), some (.int (nI n)), none] [] h _
  refine g_iload (pc := 0) dc_W_sameBytes_0 rfl ?_
  refine g_iconst (pc := 2) (v := 1) dc_W_sameBytes_2 rfl ?_
  refine g_isub (pc := 3) dc_W_sameBytes_3 rfl ?_
  refine g_istore (pc := 4) dc_W_sameBytes_4 (by decide) ?_
  exact l_W_sameBytes ha hc h1c h2c hx hy n (Nat.le_refl _) (fun j h8 h9 => absurd h9 (by omega))
end AMV2
