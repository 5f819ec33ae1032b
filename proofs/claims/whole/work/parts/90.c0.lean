/-! ===== the class: arrays of references, pages ===== -/
section AAL
variable {X : am_X} {M : am_Mt} {d pc : Nat} {l : am_lo} {st : List Value} {h : List va_E} {Q : Option Value → List va_E → Prop} {a n k : Nat} {g : Nat → Option Nat}
theorem g_aaloadI {i : Int32} (hd : decode M.2.1 pc = .ok (.aaload, 1)) (hh : h[a]? = some (.inl (6, n, .inr (.inr (.inr (.inr g)))))) (hin : vp_in i n) (hg : g i.toNatClampNeg = some k) (kk : am_G X M d (pc + 1) l (.ref k :: st) h Q) : am_G X M d pc l (.int i :: .ref a :: st) h Q := by
  refine am_G.gen (l' := l) ⟨Nat.le_refl _, Nat.le_refl _⟩ (fun p e R s m args below meth c h0 H locs ls Qs B hz hl ha hS hR k2 => ?_) kk
  have he := am_w_get (f := X.2.2.2) (dA := X.2.2.1) h 0 a _ hh
  rw [Nat.zero_add] at he
  have hlt : i.toNatClampNeg < n := Nat.not_le.mp fun q => hin (Or.inr q)
  refine W.aald (v := va_rf ((g i.toNatClampNeg).map (fun q => X.2.2.2.1 + q))) (ty := .array .int) B.1 B.2.1 (ha a _ he) ((B.2.2.2.2.2.2.2.2.1.1.2 6 _ rfl).1 n (fun j => va_rf ((g j).map (fun q => X.2.2.2.1 + q)))) rfl (fun q => by cases q) (by show ¬ (i < 0 ∨ (arrV _ _ _).slots.size ≤ _); rw [arrV_size]; exact hin) (by show (arrV _ _ _).slots[_]? = _; rw [arrV_read _ _ hlt]) rfl rfl hd ?_
  rw [hg]
  exact k2 H locs ls hl ha hS
theorem q_aaloadI (i : Nat) (hd : decode M.2.1 pc = .ok (.aaload, 1)) (hh : h[a]? = some (.inl (6, n, .inr (.inr (.inr (.inr g)))))) (hi : i < n) (hn : n < 2 ^ 31) (hg : g i = some k) (kk : am_G X M d (pc + 1) l (.ref k :: st) h Q) : am_G X M d pc l (.int (nI i) :: .ref a :: st) h Q := g_aaloadI hd hh (vp_in_nI hi hn) (by rw [nI_clamp (by omega)]; exact hg) kk
theorem q_aaload4 (i : Nat) (hd : decode M.2.1 pc = .ok (.aaload, 1)) (hh : h[a]? = some (.inl (4, n, .inr (.inr (.inr (.inr g)))))) (hi : i < n) (hn : n < 2 ^ 31) (hg : g i = some k) (kk : am_G X M d (pc + 1) l (.ref k :: st) h Q) : am_G X M d pc l (.int (nI i) :: .ref a :: st) h Q := g_aaload hd hh rfl (vp_in_nI hi hn) (by rw [nI_clamp (by omega)]; exact hg) kk
theorem q_aaload5 (i : Nat) (hd : decode M.2.1 pc = .ok (.aaload, 1)) (hh : h[a]? = some (.inl (5, n, .inr (.inr (.inr (.inr g)))))) (hi : i < n) (hn : n < 2 ^ 31) (hg : g i = some k) (kk : am_G X M d (pc + 1) l (.ref k :: st) h Q) : am_G X M d pc l (.int (nI i) :: .ref a :: st) h Q := g_aaload hd hh rfl (vp_in_nI hi hn) (by rw [nI_clamp (by omega)]; exact hg) kk
theorem q_aastore4 (i : Nat) {fs : List Value} (hd : decode M.2.1 pc = .ok (.aastore, 1)) (hh : h[a]? = some (.inl (4, n, .inr (.inr (.inr (.inr g)))))) (hi : i < n) (hn : n < 2 ^ 31) (hk : h[k]? = some (.inr (10, fs))) (kk : am_G X M d (pc + 1) l st (h.set a (.inl (4, n, .inr (.inr (.inr (.inr (va_up g i (some k)))))))) Q) : am_G X M d pc l (.ref k :: .int (nI i) :: .ref a :: st) h Q := g_aastore (r := _) hd hh rfl hk rfl (vp_in_nI hi hn) (by rw [nI_clamp (by omega)]; exact kk)
theorem q_aastore5 (i : Nat) {fs : List Value} (hd : decode M.2.1 pc = .ok (.aastore, 1)) (hh : h[a]? = some (.inl (5, n, .inr (.inr (.inr (.inr g)))))) (hi : i < n) (hn : n < 2 ^ 31) (hk : h[k]? = some (.inr (11, fs))) (kk : am_G X M d (pc + 1) l st (h.set a (.inl (5, n, .inr (.inr (.inr (.inr (va_up g i (some k)))))))) Q) : am_G X M d pc l (.ref k :: .int (nI i) :: .ref a :: st) h Q := g_aastore (r := _) hd hh rfl hk rfl (vp_in_nI hi hn) (by rw [nI_clamp (by omega)]; exact kk)
theorem q_aastore4N (i : Nat) (hd : decode M.2.1 pc = .ok (.aastore, 1)) (hh : h[a]? = some (.inl (4, n, .inr (.inr (.inr (.inr g)))))) (hi : i < n) (hn : n < 2 ^ 31) (kk : am_G X M d (pc + 1) l st (h.set a (.inl (4, n, .inr (.inr (.inr (.inr (va_up g i none))))))) Q) : am_G X M d pc l (.null :: .int (nI i) :: .ref a :: st) h Q := g_aastoreN hd hh rfl (vp_in_nI hi hn) (by rw [nI_clamp (by omega)]; exact kk)
end AAL
theorem vau_s {g : Nat → Option Nat} {i : Nat} {v : Option Nat} : va_up g i v i = v := if_pos rfl
theorem vau_n {g : Nat → Option Nat} {i j : Nat} {v : Option Nat} (h : ¬ j = i) : va_up g i v j = g j := if_neg h
theorem cpy_tx {g : Nat → Int32} {L : List Int32} {f t : Nat} (h : tx g 0 L) (hft : f ≤ t) (ht : t ≤ L.length) : tx (va_cpy g (fun _ => 0) f 0 (t - f)) 0 (sub L f t) := fun j hj => by
  rw [sub_len ht] at hj
  have h2 := h (f + j) (by omega)
  rw [Nat.zero_add] at h2 ⊢
  rw [gx_sub hj ht, ← h2]
  unfold va_cpy
  rw [if_pos ⟨Nat.zero_le _, by omega⟩, Nat.sub_zero]
section CPO
variable {X : am_X} {d : Nat} {h : List va_E} {b cap m f t : Nat} {g : Nat → Int32}
theorem c2_JArrays_copyOf_0 (hb : h[b]? = some (.inl (0, cap, .inl g))) (hne : m < cap) (hm : cap ≤ 134217728) (hg : ∀ j, bt (g j)) : am_C X mt_JArrays_copyOf_0 (d + 1) [.ref b, .int (nI m)] h (fun r h1 => r = some (.ref h.length) ∧ h1 = h ++ [.inl (0, m, .inl (va_cpy g (fun _ => 0) 0 0 m))]) := by
  show am_G X mt_JArrays_copyOf_0 (d + 1) 0 [some (.ref b), some (.int (nI m)), none] [] h _
  refine g_iload_n (pc := 0) dc_JArrays_copyOf_0_0 rfl ?_
  refine g_aload_n (pc := 1) dc_JArrays_copyOf_0_1 rfl ?_
  refine g_alen (pc := 2) dc_JArrays_copyOf_0_2 hb (by decide) ?_
  refine g_icmp_ne (pc := 3) (tgt := 14) dc_JArrays_copyOf_0_3 rfl (fun _ => ?_) (fun hc => absurd hc (fun h9 => absurd ((nI_eq (by omega) (by omega)).mp h9) (by omega)))
  refine g_iload_n (pc := 14) dc_JArrays_copyOf_0_14 rfl ?_
  refine g_newarray_b (pc := 15) (N := m) dc_JArrays_copyOf_0_15 (nI_pos (by omega)) (nI_clamp (by omega)) (by omega) ?_
  refine g_astore_n (pc := 17) dc_JArrays_copyOf_0_17 (by decide) ?_
  refine g_aload_n (pc := 18) dc_JArrays_copyOf_0_18 rfl ?_
  refine g_iconst (pc := 19) (v := 0) dc_JArrays_copyOf_0_19 rfl ?_
  refine g_aload_n (pc := 20) dc_JArrays_copyOf_0_20 rfl ?_
  refine g_iconst (pc := 21) (v := 0) dc_JArrays_copyOf_0_21 rfl ?_
  refine g_aload_n (pc := 22) dc_JArrays_copyOf_0_22 rfl ?_
  refine g_alen (pc := 23) dc_JArrays_copyOf_0_23 (am_ap hb) (by decide) ?_
  refine g_iload_n (pc := 24) dc_JArrays_copyOf_0_24 rfl ?_
  refine g_s2 (pc := 25) (M' := mt_JMath_min) dc_JArrays_copyOf_0_25 mo_JMath_min st_JMath_min ln_J_304 (Nat.le_of_ble_eq_true rfl) (Nat.le_of_ble_eq_true rfl) (am_G.mono (c_JMath_min (x := cap) (y := m) (by omega) (by omega)) ?_)
  rintro r h1 ⟨rfl, rfl⟩
  refine ⟨am_nti _, ?_⟩
  rw [show Nat.min cap m = m from Nat.min_eq_right (by omega)]
  refine g_arraycopy (pc := 28) (a := b) (b := h.length) (t := 0) (sp := 0) (dp := 0) (n := m) (n0 := cap) (n1 := m) dc_JArrays_copyOf_0_28 (am_t3 143 rfl rfl) rfl rfl (am_ap hb) am_an (by omega) (by omega) (by omega) (fun i _ => hg _) (Nat.le_of_ble_eq_true rfl) ?_
  rw [am_as]
  refine g_aload_n (pc := 31) dc_JArrays_copyOf_0_31 rfl ?_
  exact g_areturn dc_JArrays_copyOf_0_32 rfl (Or.inr ⟨_, rfl⟩) ⟨rfl, rfl⟩
theorem c_JArrays_checkLength (hft : f ≤ t) (ht : t < 2 ^ 31) : am_C X mt_JArrays_checkLength d [.int (nI f), .int (nI t)] h (fun r h1 => r = none ∧ h1 = h) := by
  show am_G X mt_JArrays_checkLength d 0 [some (.int (nI f)), some (.int (nI t))] [] h _
  refine g_iload_n (pc := 0) dc_JArrays_checkLength_0 rfl ?_
  refine g_iload_n (pc := 1) dc_JArrays_checkLength_1 rfl ?_
  refine q_icmp_ge (pc := 2) (tgt := 37) t f dc_JArrays_checkLength_2 (by omega) (by omega) rfl (fun hc2 => ?_) (fun hc => absurd hc (by omega))
  exact g_return dc_JArrays_checkLength_37 rfl ⟨rfl, rfl⟩
theorem c_JArrays_copyOfRangeByte (hb : h[b]? = some (.inl (0, cap, .inl g))) (hft : f ≤ t) (ht : t ≤ cap) (hm : cap ≤ 134217728) (hg : ∀ j, bt (g j)) : am_C X mt_JArrays_copyOfRangeByte (d + 1) [.ref b, .int (nI f), .int (nI t)] h (fun r h1 => r = some (.ref h.length) ∧ h1 = h ++ [.inl (0, t - f, .inl (va_cpy g (fun _ => 0) f 0 (t - f)))]) := by
  show am_G X mt_JArrays_copyOfRangeByte (d + 1) 0 [some (.ref b), some (.int (nI f)), some (.int (nI t)), none, none] [] h _
  refine g_iload_n (pc := 0) dc_JArrays_copyOfRangeByte_0 rfl ?_
  refine g_iload_n (pc := 1) dc_JArrays_copyOfRangeByte_1 rfl ?_
  refine g_s2 (pc := 2) (M' := mt_JArrays_checkLength) dc_JArrays_copyOfRangeByte_2 mo_JArrays_checkLength st_JArrays_checkLength ln_J_343 (Nat.le_of_ble_eq_true rfl) (Nat.le_of_ble_eq_true rfl) (am_G.mono (c_JArrays_checkLength hft (by omega)) ?_)
  rintro r h1 ⟨rfl, rfl⟩
  refine ⟨am_nt0, ?_⟩
  refine g_iload_n (pc := 5) dc_JArrays_copyOfRangeByte_5 rfl ?_
  refine g_iload_n (pc := 6) dc_JArrays_copyOfRangeByte_6 rfl ?_
  refine g_isub (pc := 7) (v := nI (t - f)) dc_JArrays_copyOfRangeByte_7 (q_sub (a := t) (b := f) (by omega)) ?_
  refine g_istore_n (pc := 8) dc_JArrays_copyOfRangeByte_8 (by decide) ?_
  show am_G X mt_JArrays_copyOfRangeByte _ 9 [some (.ref b), some (.int (nI f)), some (.int (nI t)), some (.int (nI (t - f))), none] [] _ _
  refine g_iload_n (pc := 9) dc_JArrays_copyOfRangeByte_9 rfl ?_
  refine g_newarray_b (pc := 10) (N := t - f) dc_JArrays_copyOfRangeByte_10 (nI_pos (by omega)) (nI_clamp (by omega)) (by omega) ?_
  refine g_astore (pc := 12) dc_JArrays_copyOfRangeByte_12 (by decide) ?_
  show am_G X mt_JArrays_copyOfRangeByte _ 14 [some (.ref b), some (.int (nI f)), some (.int (nI t)), some (.int (nI (t - f))), some (.ref h1.length)] [] _ _
  refine g_aload_n (pc := 14) dc_JArrays_copyOfRangeByte_14 rfl ?_
  refine g_iload_n (pc := 15) dc_JArrays_copyOfRangeByte_15 rfl ?_
  refine g_aload (pc := 16) dc_JArrays_copyOfRangeByte_16 rfl ?_
  refine g_iconst (pc := 18) (v := 0) dc_JArrays_copyOfRangeByte_18 rfl ?_
  refine g_aload_n (pc := 19) dc_JArrays_copyOfRangeByte_19 rfl ?_
  refine g_alen (pc := 20) dc_JArrays_copyOfRangeByte_20 (am_ap hb) (by decide) ?_
  refine g_iload_n (pc := 21) dc_JArrays_copyOfRangeByte_21 rfl ?_
  refine g_isub (pc := 22) (v := nI (cap - f)) dc_JArrays_copyOfRangeByte_22 (q_sub (a := cap) (b := f) (by omega)) ?_
  refine g_iload_n (pc := 23) dc_JArrays_copyOfRangeByte_23 rfl ?_
  refine g_s2 (pc := 24) (M' := mt_JMath_min) dc_JArrays_copyOfRangeByte_24 mo_JMath_min st_JMath_min ln_J_304 (Nat.le_of_ble_eq_true rfl) (Nat.le_of_ble_eq_true rfl) (am_G.mono (c_JMath_min (x := cap - f) (y := t - f) (by omega) (by omega)) ?_)
  intro r h2 hq
  rw [hq.1, hq.2]
  refine ⟨am_nti _, ?_⟩
  rw [show Nat.min (cap - f) (t - f) = t - f from Nat.min_eq_right (by omega)]
  refine g_arraycopy (pc := 27) (a := b) (b := h1.length) (t := 0) (sp := f) (dp := 0) (n := t - f) (n0 := cap) (n1 := t - f) dc_JArrays_copyOfRangeByte_27 (am_t3 143 rfl rfl) rfl rfl (am_ap hb) am_an (by omega) (by omega) (by omega) (fun i _ => hg _) (Nat.le_of_ble_eq_true rfl) ?_
  rw [am_as]
  refine g_aload (pc := 30) dc_JArrays_copyOfRangeByte_30 rfl ?_
  exact g_areturn dc_JArrays_copyOfRangeByte_32 rfl (Or.inr ⟨_, rfl⟩) ⟨rfl, rfl⟩
theorem c_JArrays_copyOfRange (hb : h[b]? = some (.inl (0, cap, .inl g))) (hf1 : 1 ≤ f) (hft : f ≤ t) (ht : t ≤ cap) (hm : cap ≤ 134217728) (hg : ∀ j, bt (g j)) : am_C X mt_JArrays_copyOfRange (d + 2) [.ref b, .int (nI f), .int (nI t)] h (fun r h1 => r = some (.ref h.length) ∧ h1 = h ++ [.inl (0, t - f, .inl (va_cpy g (fun _ => 0) f 0 (t - f)))]) := by
  show am_G X mt_JArrays_copyOfRange (d + 2) 0 [some (.ref b), some (.int (nI f)), some (.int (nI t))] [] h _
  refine g_iload_n (pc := 0) dc_JArrays_copyOfRange_0 rfl ?_
  refine q_if_ne (pc := 1) (tgt := 10) f dc_JArrays_copyOfRange_1 (by omega) rfl (fun hc1 => ?_) (fun hc => absurd hc (by omega))
  refine g_aload_n (pc := 10) dc_JArrays_copyOfRange_10 rfl ?_
  refine g_iload_n (pc := 11) dc_JArrays_copyOfRange_11 rfl ?_
  refine g_iload_n (pc := 12) dc_JArrays_copyOfRange_12 rfl ?_
  refine g_s3 (pc := 13) (M' := mt_JArrays_copyOfRangeByte) dc_JArrays_copyOfRange_13 mo_JArrays_copyOfRangeByte st_JArrays_copyOfRangeByte ln_J_339 (Nat.le_of_ble_eq_true rfl) (Nat.le_of_ble_eq_true rfl) (am_G.mono (c_JArrays_copyOfRangeByte (d := d) hb hft ht hm hg) ?_)
  intro r h1 hq
  rw [hq.1, hq.2]
  refine ⟨am_ntr _, ?_⟩
  exact g_areturn dc_JArrays_copyOfRange_16 rfl (Or.inr ⟨_, rfl⟩) ⟨rfl, rfl⟩
end CPO
/-- an array that holds just L -/
def aX (w : Gw) (h : List va_E) (i c : Nat) (L : List Int32) : Prop := ∃ g, cO w h i c (.inl (0, L.length, .inl g)) ∧ tx g 0 L ∧ (∀ j, bt (g j)) ∧ L.length ≤ 33554432
/-- a page -/
def gG (w : Gw) (h : List va_E) (pg : Nat) (x : Pg) : Prop := ∃ a1 a2, cO w h 99 pg (.inr (10, [.ref a1, .int (nI x.2.1), .ref a2])) ∧ aX w h 99 a1 x.1 ∧ aX w h 99 a2 x.2.2
section GGS
variable {X : am_X} {d i c pg pg2 a j : Nat} {w w1 : Gw} {h h1 : List va_E} {L D : List Int32} {x y : Pg} {I : List Nat}
theorem aX.fr (z : aX w h i c L) (f : fr w w1 h h1 I) (hi : ¬ i ∈ I) : aX w1 h1 i c L := by
  obtain ⟨g, a1, a2⟩ := z
  exact ⟨g, a1.fr f hi, a2⟩
theorem aX.tO (z : aX w h i c L) : tO w h i c 0 L := by
  obtain ⟨g, a1, a2, a3, a4⟩ := z
  exact ⟨⟨L.length, g, a1.1, a2, by omega, a4, a3⟩, a1.2⟩
theorem gG.fr (z : gG w h pg x) (f : fr w w1 h h1 I) (hi : ¬ 99 ∈ I) : gG w1 h1 pg x := by
  obtain ⟨a1, a2, b1, b2, b3⟩ := z
  exact ⟨a1, a2, b1.fr f hi, b2.fr f hi, b3.fr f hi⟩
theorem c_G_isAt (hG : gG w h pg x) (hB : bE w h j a D) : am_C X mt_G_isAt (d + 1) [.ref pg, .ref a] h (fun r h1 => r = some (.int (b1 (decide (x.1 = D)))) ∧ h1 = h) := by
  show am_G X mt_G_isAt (d + 1) 0 [some (.ref pg), some (.ref a)] [] h _
  obtain ⟨a1, a2, g1, g2, g3⟩ := hG
  have ht1 := g2.tO.1.tt
  obtain ⟨ga, e1, e2, e3, e4⟩ := g2
  obtain ⟨b, b1⟩ := hB
  have hbh := b1.1.ha
  have ht2 := b1.1.ttb.tt
  have hbl : D.length < 2 ^ 31 := by obtain ⟨cap, g, -, -, q3, q4, -⟩ := b1.1.ttb; omega
  refine g_aload_n (pc := 0) dc_G_isAt_0 rfl ?_
  refine g_getfield (pc := 1) dc_G_isAt_1 fl_G_23 g1.1 rfl ?_
  refine g_alen (pc := 4) dc_G_isAt_4 e1.1 (by decide) ?_
  refine g_aload_n (pc := 5) dc_G_isAt_5 rfl ?_
  refine g_getfield (pc := 6) dc_G_isAt_6 fl_G_13 hbh rfl ?_
  refine q_icmp_ne (pc := 9) (tgt := 36) x.1.length D.length dc_G_isAt_9 (by omega) (by omega) rfl (fun hc9 => ?_) (fun hc9 => ?_)
  · refine g_iconst (pc := 36) (v := 0) dc_G_isAt_36 rfl ?_
    exact g_zreturn dc_G_isAt_37 rfl rfl ⟨congrArg (fun z => some (Value.int z)) (b1_f (fun h9 => hc9 (by rw [h9]))), rfl⟩
  · refine g_aload_n (pc := 12) dc_G_isAt_12 rfl ?_
    refine g_getfield (pc := 13) dc_G_isAt_13 fl_G_23 g1.1 rfl ?_
    refine g_iconst (pc := 16) (v := 0) dc_G_isAt_16 rfl ?_
    refine g_aload_n (pc := 17) dc_G_isAt_17 rfl ?_
    refine g_getfield (pc := 18) dc_G_isAt_18 fl_G_7 hbh rfl ?_
    refine g_iconst (pc := 21) (v := 0) dc_G_isAt_21 rfl ?_
    refine g_aload_n (pc := 22) dc_G_isAt_22 rfl ?_
    refine g_getfield (pc := 23) dc_G_isAt_23 fl_G_13 hbh rfl ?_
    refine g_s5 (pc := 26) (M' := mt_W_sameBytes) dc_G_isAt_26 mo_W_sameBytes st_W_sameBytes ln_G_38 (Nat.le_of_ble_eq_true rfl) (Nat.le_of_ble_eq_true rfl) (am_G.mono (t_sameBytes (s := 0) (s2 := 0) (f := 0) (e := 0) (n := D.length) (L := x.1) (M := D) ht1 ht2 (by omega) (by omega)) ?_)
    intro r h1 hq
    rw [hq.1, hq.2, Nat.zero_add, show sub x.1 0 D.length = x.1 from by rw [← hc9]; exact sub_all rfl, show sub D 0 D.length = D from sub_all rfl]
    clear hq h1 r
    refine ⟨am_nti _, ?_⟩
    refine q_ifb_eq (pc := 29) (tgt := 36) dc_G_isAt_29 rfl (fun hc29 => ?_) (fun hc29 => ?_)
    · refine g_iconst (pc := 36) (v := 0) dc_G_isAt_36 rfl ?_
      exact g_zreturn dc_G_isAt_37 rfl rfl ⟨congrArg (fun z => some (Value.int z)) (b1_f (of_decide_eq_false hc29)), rfl⟩
    · refine g_iconst (pc := 32) (v := 1) dc_G_isAt_32 rfl ?_
      refine g_goto (pc := 33) (tgt := 37) dc_G_isAt_33 rfl ?_
      exact g_zreturn dc_G_isAt_37 rfl rfl ⟨congrArg (fun z => some (Value.int z)) (b1_t (of_decide_eq_true hc29)), rfl⟩
theorem c_G_hasTextOf (hG : gG w h pg x) (hB : gG w h pg2 y) : am_C X mt_G_hasTextOf (d + 1) [.ref pg, .ref pg2] h (fun r h1 => r = some (.int (b1 (decide (x.2.2 = y.2.2)))) ∧ h1 = h) := by
  show am_G X mt_G_hasTextOf (d + 1) 0 [some (.ref pg), some (.ref pg2)] [] h _
  obtain ⟨a1, a2, g1, -, g3⟩ := hG
  have ht1 := g3.tO.1.tt
  obtain ⟨ga, e1, e2, e3, e4⟩ := g3
  obtain ⟨b1, b2, k1, -, k3⟩ := hB
  have ht2 := k3.tO.1.tt
  obtain ⟨gb, f1, f2, f3, f4⟩ := k3
  refine g_aload_n (pc := 0) dc_G_hasTextOf_0 rfl ?_
  refine g_getfield (pc := 1) dc_G_hasTextOf_1 fl_G_35 g1.1 rfl ?_
  refine g_alen (pc := 4) dc_G_hasTextOf_4 e1.1 (by decide) ?_
  refine g_aload_n (pc := 5) dc_G_hasTextOf_5 rfl ?_
  refine g_getfield (pc := 6) dc_G_hasTextOf_6 fl_G_35 k1.1 rfl ?_
  refine g_alen (pc := 9) dc_G_hasTextOf_9 f1.1 (by decide) ?_
  refine q_icmp_ne (pc := 10) (tgt := 38) x.2.2.length y.2.2.length dc_G_hasTextOf_10 (by omega) (by omega) rfl (fun hc10 => ?_) (fun hc10 => ?_)
  · refine g_iconst (pc := 38) (v := 0) dc_G_hasTextOf_38 rfl ?_
    exact g_zreturn dc_G_hasTextOf_39 rfl rfl ⟨congrArg (fun z => some (Value.int z)) (b1_f (fun h9 => hc10 (by rw [h9]))), rfl⟩
  · refine g_aload_n (pc := 13) dc_G_hasTextOf_13 rfl ?_
    refine g_getfield (pc := 14) dc_G_hasTextOf_14 fl_G_35 g1.1 rfl ?_
    refine g_iconst (pc := 17) (v := 0) dc_G_hasTextOf_17 rfl ?_
    refine g_aload_n (pc := 18) dc_G_hasTextOf_18 rfl ?_
    refine g_getfield (pc := 19) dc_G_hasTextOf_19 fl_G_35 k1.1 rfl ?_
    refine g_iconst (pc := 22) (v := 0) dc_G_hasTextOf_22 rfl ?_
    refine g_aload_n (pc := 23) dc_G_hasTextOf_23 rfl ?_
    refine g_getfield (pc := 24) dc_G_hasTextOf_24 fl_G_35 g1.1 rfl ?_
    refine g_alen (pc := 27) dc_G_hasTextOf_27 e1.1 (by decide) ?_
    refine g_s5 (pc := 28) (M' := mt_W_sameBytes) dc_G_hasTextOf_28 mo_W_sameBytes st_W_sameBytes ln_G_38 (Nat.le_of_ble_eq_true rfl) (Nat.le_of_ble_eq_true rfl) (am_G.mono (t_sameBytes (s := 0) (s2 := 0) (f := 0) (e := 0) (n := x.2.2.length) (L := x.2.2) (M := y.2.2) ht1 ht2 (by omega) (by omega)) ?_)
    intro r h1 hq
    rw [hq.1, hq.2, Nat.zero_add, show sub x.2.2 0 x.2.2.length = x.2.2 from sub_all rfl, show sub y.2.2 0 x.2.2.length = y.2.2 from by rw [hc10]; exact sub_all rfl]
    clear hq h1 r
    refine ⟨am_nti _, ?_⟩
    refine q_ifb_eq (pc := 31) (tgt := 38) dc_G_hasTextOf_31 rfl (fun hc31 => ?_) (fun hc31 => ?_)
    · refine g_iconst (pc := 38) (v := 0) dc_G_hasTextOf_38 rfl ?_
      exact g_zreturn dc_G_hasTextOf_39 rfl rfl ⟨congrArg (fun z => some (Value.int z)) (b1_f (of_decide_eq_false hc31)), rfl⟩
    · refine g_iconst (pc := 34) (v := 1) dc_G_hasTextOf_34 rfl ?_
      refine g_goto (pc := 35) (tgt := 39) dc_G_hasTextOf_35 rfl ?_
      exact g_zreturn dc_G_hasTextOf_39 rfl rfl ⟨congrArg (fun z => some (Value.int z)) (b1_t (of_decide_eq_true hc31)), rfl⟩
end GGS
