/-! ===== putLower ===== -/
theorem isB.rf {h : List va_E} {a b cap : Nat} {L : List Int32} (x : isB h a b cap L) : toB h h a b cap L := ⟨b, cap, x, ⟨⟨Nat.le_refl _, fun _ _ _ _ => rfl⟩, Or.inl rfl, Nat.le_refl _, Nat.le_refl _⟩, by omega⟩
def lw8 (x : Int32) : Int32 := by8 (toLo x)
section AMW2
variable {X : am_X} {d : Nat} {v : Int32} {a c cc : Nat} {f : Nat → Int32}
theorem l_B_putLower (hcc : cc < 2 ^ 30) (fr : Nat) : ∀ (k i b cap : Nat) (h : List va_E) (L : List Int32), isB h a b cap L → h[c]? = some (.inl (0, cc, .inl f)) → b ≠ c → i + k ≤ cc → L.length + k < 8388608 →
    am_G X mt_B_putLower (d + 3) 3 [some (.ref a), some (.ref c), some (.int (nI fr)), some (.int (nI (i + k))), some (.int (nI i))] [] h (fun r h1 => r = none ∧ toB h h1 a b cap (L ++ (sl f i k).map lw8))
  | 0, i, b, cap, h, L, hB, hc, hbc, hi, hl => by
    have ha := hB.ha
    refine g_iload (pc := 3) dc_B_putLower_3 rfl ?_
    refine g_iload_n (pc := 5) dc_B_putLower_5 rfl ?_
    refine g_icmp_ge (pc := 6) (tgt := 26) dc_B_putLower_6 rfl (fun _ => ?_) (fun hc => absurd hc (fun h9 => h9 (nI_le (Nat.le_refl _) (by omega))))
    exact g_return dc_B_putLower_26 rfl ⟨rfl, by show toB h h a b cap (L ++ []); rw [List.append_nil]; exact hB.rf⟩
  | k + 1, i, b, cap, h, L, hB, hc, hbc, hi, hl => by
    have ha := hB.ha
    have hac : c ≠ a := fun e => by rw [e, ha] at hc; cases hc
    refine g_iload (pc := 3) dc_B_putLower_3 rfl ?_
    refine g_iload_n (pc := 5) dc_B_putLower_5 rfl ?_
    refine g_icmp_ge (pc := 6) (tgt := 26) dc_B_putLower_6 rfl (fun hc => absurd hc (nI_ge (by omega) (by omega))) (fun _ => ?_)
    refine g_aload_n (pc := 9) dc_B_putLower_9 rfl ?_
    refine g_aload_n (pc := 10) dc_B_putLower_10 rfl ?_
    refine g_iload (pc := 11) dc_B_putLower_11 rfl ?_
    refine g_baload (pc := 13) dc_B_putLower_13 hc (vp_in_nI (by omega) (by omega)) ?_
    rw [nI_clamp (show i < 2 ^ 31 by omega)]
    refine g_s1 (pc := 14) (M' := mt_W_lower) dc_B_putLower_14 mo_W_lower st_W_lower ln_B_45 (Nat.le_of_ble_eq_true rfl) (Nat.le_of_ble_eq_true rfl) (am_G.mono c_W_lower ?_)
    intro r h1 hq
    rw [hq.1, hq.2]
    clear hq h1 r
    refine ⟨am_nti _, ?_⟩
    refine g_v1 (pc := 17) (M' := mt_B_put) dc_B_putLower_17 mo_B_put im_B_put se_B_put ln_B_29 ha rfl rfl (Nat.le_of_ble_eq_true rfl) (Nat.le_of_ble_eq_true rfl) (am_G.mono (c_B_put (d := d) (v := toLo (f i)) hB (by omega)) ?_)
    intro r h1 hq
    obtain ⟨rfl, b1, cap1, p1, c1, m1⟩ := hq
    refine ⟨am_nt0, ?_⟩
    refine g_iinc (pc := 20) dc_B_putLower_20 rfl (nI_1 i) (by decide) ?_
    refine g_goto (pc := 23) (tgt := 3) dc_B_putLower_23 rfl ?_
    rw [show i + (k + 1) = i + 1 + k by omega]
    have hc1 : h1[c]? = some (.inl (0, cc, .inl f)) := by rw [c1.1.2 c (am_lt hc) hac (Ne.symm hbc)]; exact hc
    have hbc1 : b1 ≠ c := by have h9 := c1.2.1; have h8 := am_lt hc; omega
    refine am_G.mono (l_B_putLower hcc fr k (i + 1) b1 cap1 h1 (L ++ [by8 (toLo (f i))]) p1 hc1 hbc1 (by omega) (by rw [List.length_append]; show L.length + 1 + k < _; omega)) (fun r h2 hq => ⟨hq.1, ?_⟩)
    have e9 : L ++ (sl f i (k + 1)).map lw8 = (L ++ [by8 (toLo (f i))]) ++ (sl f (i + 1) k).map lw8 := by rw [List.append_assoc]; rfl
    rw [e9]
    exact toB.step c1 m1 (by rw [List.length_append (as := L ++ [by8 (toLo (f i))])]; exact Nat.le_add_right _ _) hq.2
theorem c_B_putLower {h : List va_E} {b cap fr k : Nat} {L : List Int32} (hcc : cc < 2 ^ 30) (hB : isB h a b cap L) (hc : h[c]? = some (.inl (0, cc, .inl f))) (hbc : b ≠ c) (hi : fr + k ≤ cc) (hl : L.length + k < 8388608) :
    am_C X mt_B_putLower (d + 3) [.ref a, .ref c, .int (nI fr), .int (nI (fr + k))] h (fun r h1 => r = none ∧ toB h h1 a b cap (L ++ (sl f fr k).map lw8)) := by
  show am_G X mt_B_putLower (d + 3) 0 [some (.ref a), some (.ref c), some (.int (nI fr)), some (.int (nI (fr + k))), none] [] h _
  refine g_iload_n (pc := 0) dc_B_putLower_0 rfl ?_
  refine g_istore (pc := 1) dc_B_putLower_1 (by decide) ?_
  exact l_B_putLower hcc fr k fr b cap h L hB hc hbc hi hl
end AMW2
