/-! ===== a row of bytes as a list; put, with growth ===== -/
theorem sl_snoc (g : Nat → Int32) : ∀ (n a : Nat), sl g a (n + 1) = sl g a n ++ [g (a + n)]
  | 0, a => rfl
  | n + 1, a => by
    show g a :: sl g (a + 1) (n + 1) = g a :: (sl g (a + 1) n ++ [g (a + (n + 1))])
    rw [sl_snoc g n (a + 1), show a + 1 + n = a + (n + 1) by omega]
theorem sl_ext {f g : Nat → Int32} : ∀ (n a : Nat), (∀ j, a ≤ j → j < a + n → f j = g j) → sl f a n = sl g a n
  | 0, _, _ => rfl
  | n + 1, a, h => by
    show f a :: sl f (a + 1) n = g a :: sl g (a + 1) n
    rw [h a (Nat.le_refl _) (by omega), sl_ext n (a + 1) (fun j h1 h2 => h j (by omega) (by omega))]
theorem sl_add (g : Nat → Int32) : ∀ (n a m : Nat), sl g a (n + m) = sl g a n ++ sl g (a + n) m
  | 0, a, m => by rw [Nat.zero_add]; rfl
  | n + 1, a, m => by
    rw [show n + 1 + m = (n + m) + 1 by omega]
    show g a :: sl g (a + 1) (n + m) = g a :: (sl g (a + 1) n ++ sl g (a + (n + 1)) m)
    rw [sl_add g n (a + 1) m, show a + 1 + n = a + (n + 1) by omega]
def isB (h : List va_E) (a b cap : Nat) (L : List Int32) : Prop := ∃ g : Nat → Int32, h[a]? = some (.inr (1, [.ref b, .int (nI L.length)])) ∧ h[b]? = some (.inl (0, cap, .inl g)) ∧ sl g 0 L.length = L ∧ L.length ≤ cap ∧ (16 ≤ cap ∧ cap ≤ 33554432) ∧ ∀ j, bt (g j)
def chB (h h' : List va_E) (a b cap b' cap' : Nat) : Prop := (h.length ≤ h'.length ∧ ∀ k, k < h.length → k ≠ a → k ≠ b → h'[k]? = h[k]?) ∧ (b' = b ∨ h.length ≤ b') ∧ am_sl h' + 2 * cap ≤ am_sl h + 2 * cap' ∧ 16 * h'.length + cap ≤ 16 * h.length + cap'
/-- the row of bytes at a has become L; nothing else has changed -/
def toB (h h' : List va_E) (a b cap : Nat) (L : List Int32) : Prop := ∃ b' cap', isB h' a b' cap' L ∧ chB h h' a b cap b' cap' ∧ cap' ≤ max cap (2 * L.length + 16)
theorem chB.trans {h h1 h2 : List va_E} {a b cap b1 cap1 b2 cap2 : Nat} (x : chB h h1 a b cap b1 cap1) (y : chB h1 h2 a b1 cap1 b2 cap2) : chB h h2 a b cap b2 cap2 := by
  obtain ⟨⟨x1, x2⟩, x3, x4, x5⟩ := x
  obtain ⟨⟨y1, y2⟩, y3, y4, y5⟩ := y
  refine ⟨⟨by omega, fun k hk ha hb => ?_⟩, by omega, by omega, by omega⟩
  rw [y2 k (by omega) ha (by omega), x2 k hk ha hb]
theorem toB.trans {h h1 h2 : List va_E} {a b cap : Nat} {L1 L2 : List Int32} (x : toB h h1 a b cap L1) (hl : L1.length ≤ L2.length) (y : ∀ b1 cap1, isB h1 a b1 cap1 L1 → toB h1 h2 a b1 cap1 L2) : toB h h2 a b cap L2 := by
  obtain ⟨b1, cap1, p, c, m⟩ := x
  obtain ⟨b2, cap2, p2, c2, m2⟩ := y b1 cap1 p
  exact ⟨b2, cap2, p2, c.trans c2, by omega⟩
theorem isB.ab {h : List va_E} {a b cap : Nat} {L : List Int32} (x : isB h a b cap L) : a ≠ b := by
  obtain ⟨g, h1, h2, -⟩ := x
  intro e
  rw [e, h2] at h1
  cases h1
section AMQ
variable {X : am_X} {d : Nat} {h : List va_E} {a b cap n : Nat} {g : Nat → Int32} {v : Int32} {L : List Int32}
theorem t_B_put (ha : h[a]? = some (.inr (1, [.ref b, .int (nI n)]))) (hb : h[b]? = some (.inl (0, cap, .inl g))) (hab : b ≠ a) (hn : n < cap) (hcap : cap < 2 ^ 31) :
    am_G X mt_B_put d 32 [some (.ref a), some (.int v)] [] h (fun r h1 => r = none ∧ h1 = (h.set b (.inl (0, cap, .inl (upd g n (by8 v))))).set a (.inr (1, [.ref b, .int (nI (n + 1))]))) := by
  refine g_aload_n (pc := 32) dc_B_put_32 rfl ?_
  refine g_getfield (pc := 33) dc_B_put_33 fl_B_9 ha rfl ?_
  refine g_aload_n (pc := 36) dc_B_put_36 rfl ?_
  refine g_getfield (pc := 37) dc_B_put_37 fl_B_15 ha rfl ?_
  refine g_iload_n (pc := 40) dc_B_put_40 rfl ?_
  refine g_i2b (pc := 41) dc_B_put_41 rfl ?_
  refine g_bastore (pc := 42) dc_B_put_42 hb (vp_in_nI hn hcap) ?_
  rw [nI_clamp (show n < 2 ^ 31 by omega)]
  refine g_aload_n (pc := 43) dc_B_put_43 rfl ?_
  refine g_dup (pc := 44) dc_B_put_44 rfl ?_
  refine g_getfield (pc := 45) dc_B_put_45 fl_B_15 (am_sn hab ha) rfl ?_
  refine g_iconst (pc := 48) (v := 1) dc_B_put_48 rfl ?_
  refine g_iadd (pc := 49) dc_B_put_49 (nI_1 n) ?_
  refine g_putfield (pc := 50) dc_B_put_50 fp_B_put_15 (am_sn hab ha) (Nat.le_of_ble_eq_true rfl) rfl rfl ?_
  exact g_return dc_B_put_53 rfl ⟨rfl, rfl⟩
/-- what put leaves is the longer row -/
theorem put_is {h0 : List va_E} (h1 : h0[a]? = some (.inr (1, [.ref b, .int (nI n)]))) (h2 : h0[b]? = some (.inl (0, cap, .inl g))) (hab : b ≠ a) (hn : n < cap) (hc : 16 ≤ cap ∧ cap ≤ 33554432) (hg : ∀ j, bt (g j)) (hL : sl g 0 n = L) (hl : L.length = n) :
    isB ((h0.set b (.inl (0, cap, .inl (upd g n (by8 v))))).set a (.inr (1, [.ref b, .int (nI (n + 1))]))) a b cap (L ++ [by8 v]) := by
  have e1 : (L ++ [by8 v]).length = n + 1 := by rw [List.length_append, hl]; rfl
  refine ⟨upd g n (by8 v), ?_, ?_, ?_, by omega, hc, bt_upd hg (bt_by8 v)⟩
  · rw [e1]
    exact am_se (by rw [List.length_set]; exact am_lt h1)
  · exact am_sn (Ne.symm hab) (am_se (am_lt h2))
  · rw [e1, sl_snoc, sl_ext (g := g) n 0 (fun j _ hj => by unfold upd; rw [if_neg (by omega)]), hL, Nat.zero_add]
    unfold upd
    rw [if_pos rfl]
theorem am_set2 {h0 : List va_E} {a b : Nat} {x y x0 y0 : va_E} (h1 : h0[a]? = some x0) (h2 : h0[b]? = some y0) (hab : b ≠ a) (hx : am_n x = am_n x0) (hy : am_n y = am_n y0) : am_sl ((h0.set b y).set a x) = am_sl h0 := by
  rw [am_sl_set _ a x x0 (am_sn hab h1) hx, am_sl_set _ b y y0 h2 hy]
theorem put_sl {h0 : List va_E} (h1 : h0[a]? = some (.inr (1, [.ref b, .int (nI n)]))) (h2 : h0[b]? = some (.inl (0, cap, .inl g))) (hab : b ≠ a) : am_sl ((h0.set b (.inl (0, cap, .inl (upd g n (by8 v))))).set a (.inr (1, [.ref b, .int (nI (n + 1))]))) = am_sl h0 := am_set2 h1 h2 hab rfl rfl
theorem c_B_put (hB : isB h a b cap L) (hbig : L.length < 8388608) : am_C X mt_B_put (d + 2) [.ref a, .int v] h (fun r h1 => r = none ∧ toB h h1 a b cap (L ++ [by8 v])) := by
  have hab := hB.ab
  obtain ⟨g, ha, hb, hL, hn, hc, hg⟩ := hB
  have hl2 : (L ++ [by8 v]).length = L.length + 1 := by rw [List.length_append]; rfl
  show am_G X mt_B_put (d + 2) 0 [some (.ref a), some (.int v)] [] h _
  refine g_aload_n (pc := 0) dc_B_put_0 rfl ?_
  refine g_getfield (pc := 1) dc_B_put_1 fl_B_15 ha rfl ?_
  refine g_aload_n (pc := 4) dc_B_put_4 rfl ?_
  refine g_getfield (pc := 5) dc_B_put_5 fl_B_9 ha rfl ?_
  refine g_alen (pc := 8) dc_B_put_8 hb (by decide) ?_
  refine g_icmp_ne (pc := 9) (tgt := 32) dc_B_put_9 rfl (fun hc9 => ?_) (fun hc9 => ?_)
  · have hne : L.length ≠ cap := fun h9 => hc9 (by rw [h9]; rfl)
    refine am_G.mono (t_B_put ha hb (Ne.symm hab) (by omega) (by omega)) (fun r h1 hq => ⟨hq.1, ?_⟩)
    rw [hq.2]
    refine ⟨b, cap, put_is ha hb (Ne.symm hab) (by omega) hc hg hL rfl, ⟨⟨by rw [List.length_set, List.length_set]; exact Nat.le_refl _, fun k _ k1 k2 => ?_⟩, Or.inl rfl, ?_, ?_⟩, by omega⟩
    · rw [List.getElem?_set_ne (Ne.symm k1), List.getElem?_set_ne (Ne.symm k2)]
    · rw [put_sl ha hb (Ne.symm hab)]; exact Nat.le_refl _
    · rw [List.length_set, List.length_set]; exact Nat.le_refl _
  · have hcl : L.length = cap := (nI_eq (by omega) (by omega)).mp hc9
    refine g_aload_n (pc := 12) dc_B_put_12 rfl ?_
    refine g_aload_n (pc := 13) dc_B_put_13 rfl ?_
    refine g_getfield (pc := 14) dc_B_put_14 fl_B_9 ha rfl ?_
    refine g_iconst (pc := 17) (v := 2) dc_B_put_17 rfl ?_
    refine g_aload_n (pc := 18) dc_B_put_18 rfl ?_
    refine g_getfield (pc := 19) dc_B_put_19 fl_B_15 ha rfl ?_
    refine g_imul (pc := 22) dc_B_put_22 (pk_mul 2 L.length) ?_
    refine g_bipush (pc := 23) (v := 16) dc_B_put_23 rfl ?_
    refine g_iadd (pc := 25) dc_B_put_25 (nI_add (2 * L.length) 16) ?_
    refine g_s2 (pc := 26) (M' := mt_JArrays_copyOf_0) dc_B_put_26 mo_JArrays_copyOf_0 st_JArrays_copyOf_0 ln_B_23 (Nat.le_of_ble_eq_true rfl) (Nat.le_of_ble_eq_true rfl) (am_G.mono (c_JArrays_copyOf_0 hb (by omega) (by omega) hg) ?_)
    rintro r h1 ⟨rfl, rfl⟩
    refine ⟨am_ntr _, ?_⟩
    refine g_putfield (pc := 29) dc_B_put_29 fp_B_put_9 (am_ap ha) (Nat.le_of_ble_eq_true rfl) rfl rfl ?_
    have ha2 : ((h ++ [(.inl (0, 2 * L.length + 16, .inl (va_cpy g (fun _ => 0) 0 0 cap)) : va_E)]).set a (.inr (1, ([.ref b, .int (nI L.length)] : List Value).set 0 (.ref h.length))))[a]? = some (.inr (1, [.ref h.length, .int (nI L.length)])) := am_se (am_lt (am_ap ha))
    have hna : a ≠ h.length := Nat.ne_of_lt (am_lt ha)
    have hb2 : ((h ++ [(.inl (0, 2 * L.length + 16, .inl (va_cpy g (fun _ => 0) 0 0 cap)) : va_E)]).set a (.inr (1, ([.ref b, .int (nI L.length)] : List Value).set 0 (.ref h.length))))[h.length]? = some (.inl (0, 2 * L.length + 16, .inl (va_cpy g (fun _ => 0) 0 0 cap))) := am_sn hna am_an
    refine am_G.mono (t_B_put ha2 hb2 (Ne.symm hna) (by omega) (by omega)) (fun r h1 hq => ⟨hq.1, ?_⟩)
    rw [hq.2]
    refine ⟨h.length, 2 * L.length + 16, put_is ha2 hb2 (Ne.symm hna) (by omega) (by omega) (bt_cpy hg (fun _ => bt_0)) ?_ rfl, ⟨⟨?_, fun k k0 k1 k2 => ?_⟩, Or.inr (Nat.le_refl _), ?_, ?_⟩, by omega⟩
    · rw [← hL, sl_len]; exact sl_ext _ _ (fun j h8 h9 => by unfold va_cpy; rw [if_pos (by omega), Nat.zero_add, Nat.sub_zero])
    · rw [List.length_set, List.length_set, List.length_set, List.length_append]; exact Nat.le_add_right _ _
    · rw [List.getElem?_set_ne (Ne.symm k1), List.getElem?_set_ne (Nat.ne_of_gt k0), List.getElem?_set_ne (Ne.symm k1), List.getElem?_append_left k0]
    · rw [put_sl ha2 hb2 (Ne.symm hna), am_sl_set _ a (.inr (1, ([.ref b, .int (nI L.length)] : List Value).set 0 (.ref h.length))) _ (am_ap ha) rfl, am_sl_app]; show am_sl h + (2 * L.length + 16 + 0) + 2 * cap ≤ _; omega
    · rw [List.length_set, List.length_set, List.length_set, List.length_append]; show 16 * (h.length + 1) + cap ≤ _; omega
end AMQ
