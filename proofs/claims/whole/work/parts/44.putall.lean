/-! ===== clear, putAll, become ===== -/
theorem sl_shift {p q : Nat → Int32} : ∀ (k x y : Nat), (∀ j, j < k → p (x + j) = q (y + j)) → sl p x k = sl q y k
  | 0, _, _, _ => rfl
  | k + 1, x, y, h => by
    show p x :: sl p (x + 1) k = q y :: sl q (y + 1) k
    have h0 : p x = q y := h 0 (by omega)
    rw [h0, sl_shift k (x + 1) (y + 1) (fun j hj => by
      have h1 := h (j + 1) (by omega)
      rw [show x + 1 + j = x + (j + 1) by omega, show y + 1 + j = y + (j + 1) by omega]
      exact h1)]
theorem sl_cpy {f g : Nat → Int32} {fr n k : Nat} : sl (va_cpy f g fr n k) 0 (n + k) = sl g 0 n ++ sl f fr k := by
  rw [sl_add, Nat.zero_add]
  congr 1
  · exact sl_ext n 0 (fun j _ hj => by unfold va_cpy; rw [if_neg (by omega)])
  · exact sl_shift k n fr (fun j hj => by unfold va_cpy; rw [if_pos (by omega), show n + j - n = j by omega])
section AMR
variable {X : am_X} {d : Nat} {h : List va_E} {a b c cap cc n n' m fr k : Nat} {f g g' cp : Nat → Int32} {v : Int32} {L L' : List Int32}
theorem mk_to (h1 : h[a]? = some (.inr (1, [.ref b, .int (nI n)]))) (h2 : h[b]? = some (.inl (0, cap, .inl g))) (hc : 16 ≤ cap ∧ cap ≤ 33554432) (hg : ∀ j, bt (g' j)) (hL : sl g' 0 n' = L') (hl : L'.length = n') (hn : n' ≤ cap) :
    toB h ((h.set b (.inl (0, cap, .inl g'))).set a (.inr (1, [.ref b, .int (nI n')]))) a b cap L' := by
  have hab : b ≠ a := fun e => by rw [e, h1] at h2; cases h2
  subst hl
  refine ⟨b, cap, ⟨g', am_se (by rw [List.length_set]; exact am_lt h1), am_sn (Ne.symm hab) (am_se (am_lt h2)), hL, hn, hc, hg⟩, ⟨⟨by rw [List.length_set, List.length_set]; exact Nat.le_refl _, fun q _ k1 k2 => ?_⟩, Or.inl rfl, ?_, ?_⟩, by omega⟩
  · rw [List.getElem?_set_ne (Ne.symm k1), List.getElem?_set_ne (Ne.symm k2)]
  · have e9 : am_sl ((h.set b (.inl (0, cap, .inl g'))).set a (.inr (1, [.ref b, .int (nI L'.length)]))) = am_sl h := am_set2 h1 h2 hab rfl rfl
    rw [e9]
    exact Nat.le_refl _
  · rw [List.length_set, List.length_set]; exact Nat.le_refl _
def gr (h : List va_E) (a n m : Nat) (cp : Nat → Int32) : List va_E := (h ++ [(.inl (0, m, .inl cp) : va_E)]).set a (.inr (1, [.ref h.length, .int (nI n)]))
theorem gr_a (h1 : h[a]? = some (.inr (1, [.ref b, .int (nI n)]))) : (gr h a n m cp)[a]? = some (.inr (1, [.ref h.length, .int (nI n)])) := am_se (am_lt (am_ap h1))
theorem gr_n (h1 : h[a]? = some (.inr (1, [.ref b, .int (nI n)]))) : (gr h a n m cp)[h.length]? = some (.inl (0, m, .inl cp)) := am_sn (Nat.ne_of_lt (am_lt h1)) am_an
theorem gr_k {q : Nat} {e : va_E} (hk : h[q]? = some e) (hq : a ≠ q) : (gr h a n m cp)[q]? = some e := am_sn hq (am_ap hk)
theorem mk_gr (h1 : h[a]? = some (.inr (1, [.ref b, .int (nI n)]))) (h2 : h[b]? = some (.inl (0, cap, .inl g))) (hc : 16 ≤ m ∧ m ≤ 33554432) (hg : ∀ j, bt (g' j)) (hL : sl g' 0 n' = L') (hl : L'.length = n') (hn : n' ≤ m) (hm1 : 2 * cap ≤ m) (hm2 : cap + 16 ≤ m) (hm : m ≤ 2 * n' + 16) :
    toB h (((gr h a n m cp).set h.length (.inl (0, m, .inl g'))).set a (.inr (1, [.ref h.length, .int (nI n')]))) a b cap L' := by
  have hna : a ≠ h.length := Nat.ne_of_lt (am_lt h1)
  have hlen : (gr h a n m cp).length = h.length + 1 := by unfold gr; rw [List.length_set, List.length_append]; rfl
  have hsl : am_sl (gr h a n m cp) = am_sl h + m := by
    have e9 : am_sl (gr h a n m cp) = am_sl (h ++ [(.inl (0, m, .inl cp) : va_E)]) := am_sl_set _ a (.inr (1, [.ref h.length, .int (nI n)])) _ (am_ap h1) rfl
    rw [e9, am_sl_app]
    rfl
  subst hl
  refine ⟨h.length, m, ⟨g', am_se (by rw [List.length_set]; exact am_lt (gr_a h1)), am_sn hna (am_se (am_lt (gr_n h1))), hL, hn, hc, hg⟩, ⟨⟨by rw [List.length_set, List.length_set, hlen]; exact Nat.le_succ _, fun q k0 k1 k2 => ?_⟩, Or.inr (Nat.le_refl _), ?_, ?_⟩, by omega⟩
  · rw [List.getElem?_set_ne (Ne.symm k1), List.getElem?_set_ne (Nat.ne_of_gt k0)]
    unfold gr
    rw [List.getElem?_set_ne (Ne.symm k1), List.getElem?_append_left k0]
  · have e9 : am_sl (((gr h a n m cp).set h.length (.inl (0, m, .inl g'))).set a (.inr (1, [.ref h.length, .int (nI L'.length)]))) = am_sl (gr h a n m cp) := am_set2 (gr_a h1) (gr_n h1) (Ne.symm hna) rfl rfl
    rw [e9, hsl]
    omega
  · rw [List.length_set, List.length_set, hlen]
    omega
theorem c_B_clear (hB : isB h a b cap L) : am_C X mt_B_clear d [.ref a] h (fun r h1 => r = none ∧ toB h h1 a b cap []) := by
  obtain ⟨g, ha, hb, hL, hn, hc, hg⟩ := hB
  show am_G X mt_B_clear d 0 [some (.ref a)] [] h _
  refine g_aload_n (pc := 0) dc_B_clear_0 rfl ?_
  refine g_iconst (pc := 1) (v := 0) dc_B_clear_1 rfl ?_
  refine g_putfield (pc := 2) dc_B_clear_2 fp_B_clear_15 ha (Nat.le_of_ble_eq_true rfl) rfl rfl ?_
  refine g_return dc_B_clear_5 rfl ⟨rfl, ?_⟩
  have e9 := mk_to (n' := 0) (L' := []) ha hb hc hg rfl rfl (Nat.zero_le _)
  rw [am_same hb] at e9
  exact e9
theorem t_B_putAll {to : Int32} (ha : h[a]? = some (.inr (1, [.ref b, .int (nI n)]))) (hb : h[b]? = some (.inl (0, cap, .inl g))) (hcc : h[c]? = some (.inl (0, cc, .inl f))) (hbf : ∀ j, bt (f j)) (hbc : b ≠ c) (h4 : fr + k ≤ cc) (h5 : n + k ≤ cap) (h6 : cc < 2 ^ 31) (h7 : cap < 2 ^ 31) :
    am_G X mt_B_putAll (d + 1) 48 [some (.ref a), some (.ref c), some (.int (nI fr)), some (.int to), some (.int (nI k))] [] h (fun r h1 => r = none ∧ h1 = (h.set b (.inl (0, cap, .inl (va_cpy f g fr n k)))).set a (.inr (1, [.ref b, .int (nI (n + k))]))) := by
  have hab : b ≠ a := fun e => by rw [e, ha] at hb; cases hb
  refine g_aload_n (pc := 48) dc_B_putAll_48 rfl ?_
  refine g_iload_n (pc := 49) dc_B_putAll_49 rfl ?_
  refine g_aload_n (pc := 50) dc_B_putAll_50 rfl ?_
  refine g_getfield (pc := 51) dc_B_putAll_51 fl_B_9 ha rfl ?_
  refine g_aload_n (pc := 54) dc_B_putAll_54 rfl ?_
  refine g_getfield (pc := 55) dc_B_putAll_55 fl_B_15 ha rfl ?_
  refine g_iload (pc := 58) dc_B_putAll_58 rfl ?_
  refine g_arraycopy (pc := 60) (a := c) (b := b) (t := 0) (sp := fr) (dp := n) (n := k) (n0 := cc) (n1 := cap) dc_B_putAll_60 (am_t3 157 rfl rfl) rfl rfl hcc hb h4 h5 ⟨h6, h7⟩ (fun i _ => hbf _) (Nat.le_of_ble_eq_true rfl) ?_
  refine g_aload_n (pc := 63) dc_B_putAll_63 rfl ?_
  refine g_dup (pc := 64) dc_B_putAll_64 rfl ?_
  refine g_getfield (pc := 65) dc_B_putAll_65 fl_B_15 (am_sn hab ha) rfl ?_
  refine g_iload (pc := 68) dc_B_putAll_68 rfl ?_
  refine g_iadd (pc := 70) dc_B_putAll_70 (nI_add n k) ?_
  refine g_putfield (pc := 71) dc_B_putAll_71 fp_B_putAll_15 (am_sn hab ha) (Nat.le_of_ble_eq_true rfl) rfl rfl ?_
  exact g_return dc_B_putAll_74 rfl ⟨rfl, rfl⟩
theorem c_B_putAll (hB : isB h a b cap L) (hcc : h[c]? = some (.inl (0, cc, .inl f))) (hbf : ∀ j, bt (f j)) (hbc : b ≠ c) (h4 : fr + k ≤ cc) (h6 : cc ≤ 33554432) (hbig : L.length + k < 8388608) :
    am_C X mt_B_putAll (d + 2) [.ref a, .ref c, .int (nI fr), .int (nI (fr + k))] h (fun r h1 => r = none ∧ toB h h1 a b cap (L ++ sl f fr k)) := by
  have hab := hB.ab
  obtain ⟨g, ha, hb, hL, hn, hc, hg⟩ := hB
  have hac : a ≠ c := fun e => by rw [e, hcc] at ha; cases ha
  have hl2 : (L ++ sl f fr k).length = L.length + k := by rw [List.length_append, sl_len]
  show am_G X mt_B_putAll (d + 2) 0 [some (.ref a), some (.ref c), some (.int (nI fr)), some (.int (nI (fr + k))), none] [] h _
  refine g_iload_n (pc := 0) dc_B_putAll_0 rfl ?_
  refine g_iload_n (pc := 1) dc_B_putAll_1 rfl ?_
  refine g_isub (pc := 2) dc_B_putAll_2 ((pk_sub (Nat.le_add_right fr k)).trans (congrArg nI (Nat.add_sub_cancel_left ..))) ?_
  refine g_istore (pc := 3) dc_B_putAll_3 (by decide) ?_
  refine g_aload_n (pc := 5) dc_B_putAll_5 rfl ?_
  refine g_getfield (pc := 6) dc_B_putAll_6 fl_B_15 ha rfl ?_
  refine g_iload (pc := 9) dc_B_putAll_9 rfl ?_
  refine g_iadd (pc := 11) dc_B_putAll_11 (nI_add L.length k) ?_
  refine g_aload_n (pc := 12) dc_B_putAll_12 rfl ?_
  refine g_getfield (pc := 13) dc_B_putAll_13 fl_B_9 ha rfl ?_
  refine g_alen (pc := 16) dc_B_putAll_16 hb (by decide) ?_
  refine g_icmp_le (pc := 17) (tgt := 48) dc_B_putAll_17 rfl (fun hc17 => ?_) (fun hc17 => ?_)
  · have hle : L.length + k ≤ cap := (nI_leI (by omega) (by omega)).mp hc17
    refine am_G.mono (t_B_putAll (d := d + 1) ha hb hcc hbf hbc h4 hle (by omega) (by omega)) (fun r h1 hq => ⟨hq.1, ?_⟩)
    rw [hq.2]
    exact mk_to ha hb hc (bt_cpy hbf hg) (by rw [sl_cpy, hL]) hl2 hle
  · have hlt : ¬ L.length + k ≤ cap := fun h9 => hc17 ((nI_leI (by omega) (by omega)).mpr h9)
    refine g_aload_n (pc := 20) dc_B_putAll_20 rfl ?_
    refine g_aload_n (pc := 21) dc_B_putAll_21 rfl ?_
    refine g_getfield (pc := 22) dc_B_putAll_22 fl_B_9 ha rfl ?_
    refine g_iconst (pc := 25) (v := 2) dc_B_putAll_25 rfl ?_
    refine g_aload_n (pc := 26) dc_B_putAll_26 rfl ?_
    refine g_getfield (pc := 27) dc_B_putAll_27 fl_B_9 ha rfl ?_
    refine g_alen (pc := 30) dc_B_putAll_30 hb (by decide) ?_
    refine g_imul (pc := 31) dc_B_putAll_31 (pk_mul 2 cap) ?_
    refine g_aload_n (pc := 32) dc_B_putAll_32 rfl ?_
    refine g_getfield (pc := 33) dc_B_putAll_33 fl_B_15 ha rfl ?_
    refine g_iload (pc := 36) dc_B_putAll_36 rfl ?_
    refine g_iadd (pc := 38) dc_B_putAll_38 (nI_add L.length k) ?_
    refine g_s2 (pc := 39) (M' := mt_JMath_max) dc_B_putAll_39 mo_JMath_max st_JMath_max ln_B_33 (Nat.le_of_ble_eq_true rfl) (Nat.le_of_ble_eq_true rfl) (am_G.mono (c_JMath_max (x := 2 * cap) (y := L.length + k) (by omega) (by omega)) ?_)
    intro r h1 hq
    rw [hq.1, hq.2]
    clear hq h1 r
    refine ⟨am_nti _, ?_⟩
    generalize hmx : Nat.max (2 * cap) (L.length + k) = mx
    have hm1 : 2 * cap ≤ mx := by rw [← hmx]; exact Nat.le_max_left _ _
    have hm2 : L.length + k ≤ mx := by rw [← hmx]; exact Nat.le_max_right _ _
    have hm3 : mx ≤ 2 * (L.length + k) := by rw [← hmx]; exact Nat.max_le.mpr ⟨by omega, by omega⟩
    refine g_s2 (pc := 42) (M' := mt_JArrays_copyOf_0) dc_B_putAll_42 mo_JArrays_copyOf_0 st_JArrays_copyOf_0 ln_B_23 (Nat.le_of_ble_eq_true rfl) (Nat.le_of_ble_eq_true rfl) (am_G.mono (c_JArrays_copyOf_0 hb (by omega) (by omega) hg) ?_)
    intro r h1 hq
    rw [hq.1, hq.2]
    clear hq h1 r
    refine ⟨am_ntr _, ?_⟩
    refine g_putfield (pc := 45) dc_B_putAll_45 fp_B_putAll_9 (am_ap ha) (Nat.le_of_ble_eq_true rfl) rfl rfl ?_
    show am_G X mt_B_putAll (d + 2) 48 _ _ (gr h a L.length mx (va_cpy g (fun _ => 0) 0 0 cap)) _
    refine am_G.mono (t_B_putAll (d := d + 1) (gr_a ha) (gr_n ha) (gr_k hcc hac) hbf (Ne.symm (Nat.ne_of_lt (am_lt hcc))) h4 hm2 (by omega) (by omega)) (fun r h1 hq => ⟨hq.1, ?_⟩)
    rw [hq.2]
    refine mk_gr ha hb (by omega) (bt_cpy hbf (bt_cpy hg (fun _ => bt_0))) ?_ hl2 hm2 hm1 (by omega) (by omega)
    rw [sl_cpy]
    congr 1
    rw [← hL, sl_len]
    exact sl_ext _ _ (fun j h8 h9 => by unfold va_cpy; rw [if_pos (by omega), Nat.zero_add, Nat.sub_zero])
end AMR
