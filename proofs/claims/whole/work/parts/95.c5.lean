/-! ===== the class: rules are told ===== -/
abbrev IR : List Nat := [26, 28, 100, 101, 102, 103, 104, 105, 106, 107, 108, 109, 110, 111, 112, 113, 114, 115, 116, 117, 118, 119, 120, 121, 122, 123, 124, 125, 126, 127, 128, 129, 130, 131, 132, 133, 134, 135, 136, 137, 138, 139, 140, 141, 142, 143, 144, 145, 146, 147, 148, 149, 150, 151, 152, 153, 154, 155, 156, 157, 158, 159, 160, 161, 162, 163, 164, 165, 166, 167, 168, 169, 170, 171]
theorem inIR {x : Nat} (h1 : 100 ≤ x) (h2 : x < 172) : x ∈ IR := by
  have : ∀ y, y < 72 → (100 + y) ∈ IR := by decide
  have h3 := this (x - 100) (by omega)
  rw [show 100 + (x - 100) = x by omega] at h3
  exact h3
def rlx (Rs Rt : List (List Int32)) (D x : List Int32) : Option (List (List Int32) × List (List Int32)) := match nbr Rs (sit D) with
  | some j => some (Rs, Rt.set j x)
  | none => if Rs.length = 12 then none else some (Rs ++ [sit D], Rt ++ [x])
def own11 (u : Nat) : Nat → Nat
  | 0 => u
  | 1 => u + 1
  | 2 => u + 1
  | 3 => u + 2
  | 4 => u + 3
  | 5 => u + 3
  | 6 => u + 2
  | 7 => u + 4
  | 8 => u + 5
  | 9 => u + 5
  | _ => u + 4
section C5S
variable {X : am_X} {d i c u tc a b f t n k q s : Nat} {w w1 : Gw} {h h1 h2 : List va_E} {L D x : List Int32} {I : List Nat} {Rs Rt A Dd : List (List Int32)} {g : Nat → Option Nat}
theorem isB_0 (h1 : h[a]? = some (.inr (1, [.ref b, .int 0]))) (h2 : h[b]? = some (.inl (0, n, .inl (fun _ => 0)))) (hn : 16 ≤ n ∧ n ≤ 33554432) : isB h a b n [] := ⟨fun _ => 0, h1, h2, rfl, Nat.zero_le _, hn, fun _ => bt_0⟩
theorem newS (hA : sA w h g) (hk : k < 12) (hu : u = 100 + 6 * k) (hz : ∀ j, j < 6 → w.2 (u + j) = 0) (hx : xT (h ++ [(.inr (11, [.null, .null, .null]) : va_E)]) h2 h.length) : ∃ w1, fr w w1 h (h2.set 28 (.inl (5, 12, .inr (.inr (.inr (.inr (va_up g k (some h.length)))))))) [28, u + 1, u + 2, u + 3, u + 4, u + 5] ∧ sA w1 (h2.set 28 (.inl (5, 12, .inr (.inr (.inr (.inr (va_up g k (some h.length)))))))) (va_up g k (some h.length)) ∧ stX w1 (h2.set 28 (.inl (5, 12, .inr (.inr (.inr (.inr (va_up g k (some h.length)))))))) u h.length [] [] [] ∧ (∀ j, ¬ (j = u + 1 ∨ j = u + 2 ∨ j = u + 3 ∨ j = u + 4 ∨ j = u + 5) → w1.2 j = w.2 j) := by
  have h28 := am_lt hA.1
  have hl1 : (h ++ [(.inr (11, [.null, .null, .null]) : va_E)]).length = h.length + 1 := by rw [List.length_append]; rfl
  have hs1 : am_sl (h ++ [(.inr (11, [.null, .null, .null]) : va_E)]) = am_sl h + 3 := by rw [am_sl_app]; rfl
  obtain ⟨⟨k1, k2, k3⟩, c0, c1, c2, c3, c4, c5, c6, c7, c8, c9, c10⟩ := hx
  rw [hl1] at k1 k2 c0 c1 c2 c3 c4 c5 c6 c7 c8 c9 c10
  rw [hs1] at k3
  have e28 : h2[28]? = some (.inl (5, 12, .inr (.inr (.inr (.inr g))))) := by rw [k2 28 (by omega) (by omega), app_k h28]; exact hA.1
  have z1 := hz 1 (by decide)
  have z2 := hz 2 (by decide)
  have z3 := hz 3 (by decide)
  have z4 := hz 4 (by decide)
  have z5 := hz 5 (by decide)
  obtain ⟨cN, hcN⟩ : ∃ cN, cN = up1 (up1 (up1 (up1 (up1 w.2 (u + 1) 66) (u + 2) 8) (u + 3) 64) (u + 4) 8) (u + 5) 64 := ⟨_, rfl⟩
  have t1 := tos_up (c := w.2) (i := u + 1) (v := 66) 400 (by omega)
  have t2 := tos_up (c := up1 w.2 (u + 1) 66) (i := u + 2) (v := 8) 400 (by omega)
  have t3 := tos_up (c := up1 (up1 w.2 (u + 1) 66) (u + 2) 8) (i := u + 3) (v := 64) 400 (by omega)
  have t4 := tos_up (c := up1 (up1 (up1 w.2 (u + 1) 66) (u + 2) 8) (u + 3) 64) (i := u + 4) (v := 8) 400 (by omega)
  have t5 := tos_up (c := up1 (up1 (up1 (up1 w.2 (u + 1) 66) (u + 2) 8) (u + 3) 64) (u + 4) 8) (i := u + 5) (v := 64) 400 (by omega)
  rw [up1_n (by omega), z2] at t2
  rw [up1_n (by omega), up1_n (by omega), z3] at t3
  rw [up1_n (by omega), up1_n (by omega), up1_n (by omega), z4] at t4
  rw [up1_n (by omega), up1_n (by omega), up1_n (by omega), up1_n (by omega), z5, ← hcN] at t5
  rw [z1] at t1
  have n1 : cN (u + 1) = 66 := by rw [hcN, up1_n (by omega), up1_n (by omega), up1_n (by omega), up1_n (by omega), up1_s]
  have n2 : cN (u + 2) = 8 := by rw [hcN, up1_n (by omega), up1_n (by omega), up1_n (by omega), up1_s]
  have n3 : cN (u + 3) = 64 := by rw [hcN, up1_n (by omega), up1_n (by omega), up1_s]
  have n4 : cN (u + 4) = 8 := by rw [hcN, up1_n (by omega), up1_s]
  have n5 : cN (u + 5) = 64 := by rw [hcN, up1_s]
  have nn : ∀ j, ¬ (j = u + 1 ∨ j = u + 2 ∨ j = u + 3 ∨ j = u + 4 ∨ j = u + 5) → cN j = w.2 j := fun j hj => by rw [hcN, up1_n (by omega), up1_n (by omega), up1_n (by omega), up1_n (by omega), up1_n (by omega)]
  have kbu : ∀ j, j < 6 → 20000 ≤ kb (u + j) := fun j _ => by have := kb_ge (u + j); omega
  have ow : ∀ j, j < 11 → (fun k => if h.length ≤ k then own11 u (k - h.length) else w.1 k) (h.length + j) = own11 u j := fun j _ => by
    dsimp only
    rw [if_pos (by omega), show h.length + j - h.length = j by omega]
  have cel : ∀ (j : Nat) (e : va_E), h2[h.length + 1 + j]? = some e → (h2.set 28 (.inl (5, 12, .inr (.inr (.inr (.inr (va_up g k (some h.length)))))) : va_E))[h.length + (1 + j)]? = some e := fun j e he => by
    rw [set_k (by omega), show h.length + (1 + j) = h.length + 1 + j by omega]; exact he
  refine ⟨(fun k => if h.length ≤ k then own11 u (k - h.length) else w.1 k, cN), ⟨⟨by rw [List.length_set, k1]; omega, fun j hj => ⟨if_neg (by omega), fun h9 => ?_⟩⟩, fun j hj => ?_, ?_, ?_, fun j _ => ?_⟩, ⟨am_se (am_lt e28), ?_⟩, ⟨h.length + 1, h.length + 3, h.length + 4, h.length + 7, h.length + 8, ⟨?_, ow 0 (by decide)⟩, ⟨h.length + 2, ?_, ow 1 (by decide), ow 2 (by decide), ?_⟩, ⟨h.length + 5, h.length + 6, ⟨?_, ?_, fun _ => 0, ?_, fun j hj => absurd hj (Nat.not_lt_zero j), Nat.zero_le _, ?_⟩, ⟨ow 3 (by decide), ow 6 (by decide), ow 4 (by decide), ow 5 (by decide)⟩, ?_, ?_, ?_⟩, ⟨h.length + 9, h.length + 10, ⟨?_, ?_, fun _ => 0, ?_, fun j hj => absurd hj (Nat.not_lt_zero j), Nat.zero_le _, ?_⟩, ⟨ow 7 (by decide), ow 10 (by decide), ow 8 (by decide), ow 9 (by decide)⟩, ?_, ?_, ?_⟩⟩, nn⟩
  · have hj28 : ¬ j = 28 := fun e => h9 (by rw [e, hA.2]; exact List.mem_cons_self ..)
    rw [set_k hj28, k2 j (by omega) (by omega), app_k hj]
  · refine nn j (fun h9 => hj ?_)
    simp only [List.mem_cons, List.not_mem_nil, or_false]
    omega
  · show am_sl (h2.set 28 _) + 2 * tos w.2 400 ≤ am_sl h + 2 * tos cN 400
    rw [am_sl_set _ _ (.inl (5, 12, .inr (.inr (.inr (.inr (va_up g k (some h.length))))))) _ e28 rfl, k3]
    omega
  · show 16 * (h2.set 28 _).length + tos w.2 400 ≤ 16 * h.length + tos cN 400
    rw [List.length_set, k1]
    omega
  · show cN j = w.2 j ∨ ((0 < w.2 j ∨ (100 ≤ j ∧ j < 172)) ∧ cN j ≤ kb j)
    by_cases q : j = u + 1 ∨ j = u + 2 ∨ j = u + 3 ∨ j = u + 4 ∨ j = u + 5
    · have h9 := kb_ge j
      refine Or.inr ⟨Or.inr (by omega), ?_⟩
      rcases q with e | e | e | e | e
      · rw [e] at h9 ⊢; rw [n1]; omega
      · rw [e] at h9 ⊢; rw [n2]; omega
      · rw [e] at h9 ⊢; rw [n3]; omega
      · rw [e] at h9 ⊢; rw [n4]; omega
      · rw [e] at h9 ⊢; rw [n5]; omega
    · exact Or.inl (nn j q)
  · show (if h.length ≤ 28 then _ else w.1 28) = 28
    rw [if_neg (by omega)]; exact hA.2
  · rw [set_k (by omega)]; exact c0
  · show isB _ _ _ (cN (u + 1)) []
    rw [n1]
    exact isB_0 (cel 0 _ c1) (cel 1 _ c2) (by decide)
  · show cN (u + 1) ≤ _
    rw [n1]; have := kbu 1 (by decide); omega
  · exact cel 2 _ c3
  · show isB _ _ _ (cN (u + 3)) ([] ++ [])
    rw [n3]
    exact isB_0 (cel 3 _ c4) (cel 4 _ c5) (by decide)
  · show _ = some (Sum.inl (1, cN (u + 2), _))
    rw [n2]
    exact cel 5 _ c6
  · show cN (u + 2) ≤ _
    rw [n2]; decide
  · show cN (u + 2) ≤ _
    rw [n2]; have := kbu 2 (by decide); omega
  · show cN (u + 3) ≤ _
    rw [n3]; have := kbu 3 (by decide); omega
  · show 0 < cN (u + 2)
    rw [n2]; decide
  · exact cel 6 _ c7
  · show isB _ _ _ (cN (u + 5)) ([] ++ [])
    rw [n5]
    exact isB_0 (cel 7 _ c8) (cel 8 _ c9) (by decide)
  · show _ = some (Sum.inl (1, cN (u + 4), _))
    rw [n4]
    exact cel 9 _ c10
  · show cN (u + 4) ≤ _
    rw [n4]; decide
  · show cN (u + 4) ≤ _
    rw [n4]; have := kbu 4 (by decide); omega
  · show cN (u + 5) ≤ _
    rw [n5]; have := kbu 5 (by decide); omega
  · show 0 < cN (u + 4)
    rw [n4]; decide
theorem w_B_putAll0 {M : List Int32} {j : Nat} (hi : i < 400) (hB : bE w h i a L) (hx : tO w h j c 0 M) (hij : ¬ j = i) (hft : f ≤ t) (ht : t ≤ M.length) (hl : 2 * (L.length + (t - f)) + 16 ≤ kb i) : am_C X mt_B_putAll (d + 2) [.ref a, .ref c, .int (nI f), .int (nI t)] h (fun r h1 => r = none ∧ ∃ w1, fr w w1 h h1 [i] ∧ bE w1 h1 i a (L ++ sub M f t)) := by
  have h9 := w_B_putAll (X := X) (d := d) (s := 0) hi hB hx hij hft ht hl
  rw [Nat.zero_add, Nat.zero_add] at h9
  exact h9
theorem t93_V_tellRules {m9 : Nat} (hV : vO w h n m9) (hA : sA w h g) (hk : k < 12) (hg : g k = some tc) (hS : stX w h (100 + 6 * k) tc x A Dd) (hL : bE w h 1 1 L) (hL8 : L.length ≤ 8000) (hf : f ≤ L.length) : am_G X mt_V_tellRules (d + 9) 93 [some (.ref 26), none, some (.ref 1), some (.int (nI f)), some (.int (nI k))] [] h (fun r h1 => r = some (.int (nI ((rlz (sub L f L.length)).2.2.2.1.length + (rlz (sub L f L.length)).2.2.2.2.length))) ∧ ∃ w1, fr w w1 h h1 [100 + 6 * k + 2, 100 + 6 * k + 3, 100 + 6 * k + 4, 100 + 6 * k + 5] ∧ stX w1 h1 (100 + 6 * k) tc x (rlz (sub L f L.length)).2.2.2.1 (rlz (sub L f L.length)).2.2.2.2) := by
  have hto : ∃ fs, h[tc]? = some (.inr (11, fs)) := by obtain ⟨st, al, alb, di, dib, a1, -⟩ := hS; exact ⟨_, a1.1⟩
  obtain ⟨fs, hto⟩ := hto
  obtain ⟨bL, l1⟩ := hL
  have hlh := l1.1.ha
  have hll : f + (sub L f L.length).length = L.length := by rw [sub_len (Nat.le_refl _)]; omega
  refine g_aload_n (pc := 93) dc_V_tellRules_93 rfl ?_
  refine g_getfield (pc := 94) dc_V_tellRules_94 fl_V_19 hV.1 rfl ?_
  refine g_iload (pc := 97) dc_V_tellRules_97 rfl ?_
  refine q_aaload5 (pc := 99) k dc_V_tellRules_99 hA.1 (by omega) (by omega) hg ?_
  refine g_aload_n (pc := 100) dc_V_tellRules_100 rfl ?_
  refine g_getfield (pc := 101) dc_V_tellRules_101 fl_V_46 hlh rfl ?_
  refine g_iload_n (pc := 104) dc_V_tellRules_104 rfl ?_
  refine g_aload_n (pc := 105) dc_V_tellRules_105 rfl ?_
  refine g_getfield (pc := 106) dc_V_tellRules_106 fl_V_52 hlh rfl ?_
  have h109 := w_T_tell (X := X) (d := d) (s := f) (L := sub L f L.length) (by omega) (by decide : 1 < 100) (by omega) hS (l1.tO.sub hf)
  rw [hll] at h109
  refine g_v3 (pc := 109) (M' := mt_T_tell) dc_V_tellRules_109 mo_T_tell im_T_tell se_T_tell ln_V_77 hto rfl rfl (Nat.le_of_ble_eq_true rfl) (Nat.le_of_ble_eq_true rfl) (am_G.mono h109 ?_)
  intro r h1 hz
  obtain ⟨z1, z2⟩ := hz
  rw [z1]
  refine ⟨am_nti _, ?_⟩
  exact g_ireturn dc_V_tellRules_112 rfl ⟨rfl, z2⟩
theorem w_V_tellRules (hV : vO w h n Rs.length) (hR : ruC w h Rs Rt) (hO : rsO Rs) (h12 : Rs.length ≤ 12) (hrt : Rt.length = Rs.length) (hD : bE w h 8 8 D) (ho : okD D) (hL : bE w h 1 1 L) (hL8 : L.length ≤ 8000) (hf : f ≤ L.length) : am_C X mt_V_tellRules (d + 9) [.ref 26, .ref 8, .ref 1, .int (nI f)] h (fun r h1 => match rlx Rs Rt D (sub L f L.length) with | none => r = some (.int (-1)) ∧ h1 = h | some z => r = some (.int (nI (jgH D z.1 z.2))) ∧ ∃ w1, fr w w1 h h1 IR ∧ vO w1 h1 n z.1.length ∧ ruC w1 h1 z.1 z.2) := by
  show am_G X mt_V_tellRules (d + 9) 0 [some (.ref 26), some (.ref 8), some (.ref 1), some (.int (nI f)), none] [] h _
  obtain ⟨oo, hoo⟩ : ∃ oo, oo = nbr Rs (sit D) := ⟨_, rfl⟩
  have hnp2 : ∀ j, oo = some j → j < 2 ^ 31 := fun j hj => by have := (nbr_s (hoo.symm.trans hj)).1; omega
  have hR0 := hR
  obtain ⟨g, hg, hg2, hg3⟩ := hR
  have d1 := ho.2.1
  have d2 := ho.2.2.1
  have h26 := am_lt hV.1
  refine g_aload_n (pc := 0) dc_V_tellRules_0 rfl ?_
  refine g_aload_n (pc := 1) dc_V_tellRules_1 rfl ?_
  refine g_v1 (pc := 2) (M' := mt_V_siteNumber) dc_V_tellRules_2 mo_V_siteNumber im_V_siteNumber se_V_siteNumber ln_V_69 hV.1 rfl rfl (Nat.le_of_ble_eq_true rfl) (Nat.le_of_ble_eq_true rfl) (am_G.mono (c_V_siteNumber (d := d + 5) hV hR0 hO h12 hD ho) ?_)
  intro r h1 hq
  rw [hq.1, hq.2, ← hoo]
  clear hq h1 r
  refine ⟨am_nti _, ?_⟩
  refine g_istore (pc := 5) dc_V_tellRules_5 (by decide) ?_
  show am_G X mt_V_tellRules _ 7 [some (.ref 26), some (.ref 8), some (.ref 1), some (.int (nI f)), some (.int (er oo))] [] _ _
  refine g_iload (pc := 7) dc_V_tellRules_7 rfl ?_
  refine g_iconst (pc := 9) (v := (-1)) dc_V_tellRules_9 rfl ?_
  refine q_o_ne (pc := 10) (tgt := 24) dc_V_tellRules_10 hnp2 rfl (fun k10 hc10 => ?_) (fun hc10 => ?_)
  · rw [hc10]
    rw [show er (some k10) = nI k10 from rfl]
    have hk10 := hnp2 k10 hc10
    refine g_iload (pc := 24) dc_V_tellRules_24 rfl ?_
    refine g_iconst (pc := 26) (v := (-1)) dc_V_tellRules_26 rfl ?_
    refine g_icmp_ne (pc := 27) (tgt := 93) dc_V_tellRules_27 rfl (fun _ => ?_) (fun hc => absurd hc (q_nem1 (by omega)))
    refine am_wk (am_le_s (am_le_n (am_le_s (am_le_s (am_le_s am_le_0))))) ?_
    have hkl := (nbr_s (hoo.symm.trans hc10)).1
    obtain ⟨tc, hp1, hp2⟩ := hg2 k10 hkl
    refine am_G.mono (t93_V_tellRules hV hg (by omega) hp1 hp2 hL hL8 hf) (fun r h1 hz => ?_)
    obtain ⟨y1, w1, y2, y3⟩ := hz
    have e5 : rlx Rs Rt D (sub L f L.length) = some (Rs, Rt.set k10 (sub L f L.length)) := by unfold rlx; rw [← hoo, hc10]
    rw [e5]
    have n4 : ∀ y, ¬ (y = 100 + 6 * k10 + 2 ∨ y = 100 + 6 * k10 + 3 ∨ y = 100 + 6 * k10 + 4 ∨ y = 100 + 6 * k10 + 5) → ¬ y ∈ [100 + 6 * k10 + 2, 100 + 6 * k10 + 3, 100 + 6 * k10 + 4, 100 + 6 * k10 + 5] := fun y h1 h9 => h1 (inU4.mp h9)
    refine ⟨?_, w1, y2.mo (fun y hy => inIR (by have := inU4.mp hy; omega) (by have := inU4.mp hy; omega)), hV.fr y2 (n4 26 (by omega)), ⟨g, cO.fr hg y2 (n4 28 (by omega)), fun q hq => ?_, fun q j h1 h2 h3 => ?_⟩⟩
    · rw [y1]; unfold jgH; rw [← hoo, hc10]; show _ = some (Value.int (nI ((rlz (gT (Rt.set k10 (sub L f L.length)) k10)).2.2.2.1.length + (rlz (gT (Rt.set k10 (sub L f L.length)) k10)).2.2.2.2.length))); rw [gT_set (by omega), if_pos rfl]
    · by_cases e9 : q = k10
      · rw [e9]
        refine ⟨tc, hp1, ?_⟩
        unfold stC
        rw [gT_set (by omega), if_pos rfl]
        exact y3
      · obtain ⟨tc2, z1, z2⟩ := hg2 q hq
        refine ⟨tc2, z1, ?_⟩
        unfold stC
        rw [gT_set (by omega), if_neg e9]
        exact stX.fr z2 y2 (fun j hj => n4 _ (by omega))
    · have h1b : Rs.length ≤ q := h1
      rw [y2.2.1 _ (n4 _ (by omega))]; exact hg3 q j h1b h2 h3
  · rw [hc10]
    refine g_aload_n (pc := 13) dc_V_tellRules_13 rfl ?_
    refine g_getfield (pc := 14) dc_V_tellRules_14 fl_V_58 hV.1 rfl ?_
    refine g_bipush (pc := 17) (v := 12) dc_V_tellRules_17 rfl ?_
    refine q_icmp_ne (pc := 19) (tgt := 24) Rs.length 12 dc_V_tellRules_19 (by omega) (by omega) rfl (fun hc19 => ?_) (fun hc19 => ?_)
    · refine g_iload (pc := 24) dc_V_tellRules_24 rfl ?_
      refine g_iconst (pc := 26) (v := (-1)) dc_V_tellRules_26 rfl ?_
      refine g_icmp_ne (pc := 27) (tgt := 93) dc_V_tellRules_27 rfl (fun hc => absurd hc (by decide)) (fun _ => ?_)
      refine g_aload_n (pc := 30) dc_V_tellRules_30 rfl ?_
      refine g_getfield (pc := 31) dc_V_tellRules_31 fl_V_58 hV.1 rfl ?_
      refine g_istore (pc := 34) dc_V_tellRules_34 (by decide) ?_
      show am_G X mt_V_tellRules _ 36 [some (.ref 26), some (.ref 8), some (.ref 1), some (.int (nI f)), some (.int (nI Rs.length))] [] _ _
      refine g_aload_n (pc := 36) dc_V_tellRules_36 rfl ?_
      refine g_getfield (pc := 37) dc_V_tellRules_37 fl_V_19 hV.1 rfl ?_
      refine g_iload (pc := 40) dc_V_tellRules_40 rfl ?_
      refine g_new (pc := 42) dc_V_tellRules_42 mk_V_17 ?_
      refine g_dup (pc := 45) dc_V_tellRules_45 rfl ?_
      refine g_i0 (pc := 46) (M' := mt_T_init) dc_V_tellRules_46 mo_T_init im_T_init rfl rfl ln_V_72 (Nat.le_of_ble_eq_true rfl) (Nat.le_of_ble_eq_true rfl) (am_G.mono (c_T_init (d := d + 5) (a := h.length) am_an) ?_)
      intro r h2 hz
      obtain ⟨z1, hxT⟩ := hz
      rw [z1]
      clear z1 r
      have hl1 : (h ++ [(.inr (11, [.null, .null, .null]) : va_E)]).length = h.length + 1 := by rw [List.length_append]; rfl
      have e28 : h2[28]? = some (.inl (5, 12, .inr (.inr (.inr (.inr g))))) := by have h28 := am_lt hg.1; rw [hxT.1.2.1 28 (by omega) (by omega), app_k h28]; exact hg.1
      refine ⟨am_nt0, ?_⟩
      refine q_aastore5 (pc := 49) Rs.length dc_V_tellRules_49 e28 (by omega) (by omega) hxT.2.1 ?_
      obtain ⟨w2, f2, hA2, hS2, hcN⟩ := newS (u := 100 + 6 * Rs.length) hg (by omega) rfl (fun j hj => hg3 Rs.length j (Nat.le_refl _) (by omega) hj) hxT
      generalize (h2.set 28 (.inl (5, 12, .inr (.inr (.inr (.inr (va_up g Rs.length (some h.length)))))) : va_E)) = h3 at f2 hA2 hS2 ⊢
      have nI6 : ∀ y, y < 100 → ¬ y = 28 → ¬ y ∈ [28, 100 + 6 * Rs.length + 1, 100 + 6 * Rs.length + 2, 100 + 6 * Rs.length + 3, 100 + 6 * Rs.length + 4, 100 + 6 * Rs.length + 5] := fun y h1 h2 h9 => by simp only [List.mem_cons, List.not_mem_nil, or_false] at h9; omega
      have hV2 := hV.fr f2 (nI6 26 (by decide) (by decide))
      have hD2 := hD.fr f2 (nI6 8 (by decide) (by decide))
      have hL2 := hL.fr f2 (nI6 1 (by decide) (by decide))
      obtain ⟨st, al, alb, di, dib, s1, s2, s3, s4⟩ := hS2
      obtain ⟨b8, q8⟩ := hD2
      have q8h := q8.1.ha
      refine g_aload_n (pc := 50) dc_V_tellRules_50 rfl ?_
      refine g_getfield (pc := 51) dc_V_tellRules_51 fl_V_19 hV2.1 rfl ?_
      refine g_iload (pc := 54) dc_V_tellRules_54 rfl ?_
      refine q_aaload5 (pc := 56) Rs.length dc_V_tellRules_56 hA2.1 (by omega) (by omega) vau_s ?_
      refine g_getfield (pc := 57) dc_V_tellRules_57 fl_V_61 s1.1 rfl ?_
      refine g_aload_n (pc := 60) dc_V_tellRules_60 rfl ?_
      refine g_getfield (pc := 61) dc_V_tellRules_61 fl_V_46 q8h rfl ?_
      refine g_ldcS (pc := 64) 10 dc_V_tellRules_64 (by decide) rfl rfl ?_
      refine g_x0 (pc := 66) (M' := mt_JString_length) dc_V_tellRules_66 mo_JString_length im_JString_length se_JString_length (am_t5 40 rfl rfl) (by decide) (Nat.le_of_ble_eq_true rfl) (Nat.le_of_ble_eq_true rfl) (am_G.mono (c_strLen (by decide)) ?_)
      intro r h1 hq
      rw [hq.1, hq.2]
      clear hq h1 r
      refine ⟨am_nti _, ?_⟩
      refine g_aload_n (pc := 69) dc_V_tellRules_69 rfl ?_
      refine g_getfield (pc := 70) dc_V_tellRules_70 fl_V_46 q8h rfl ?_
      refine g_aload_n (pc := 73) dc_V_tellRules_73 rfl ?_
      refine g_getfield (pc := 74) dc_V_tellRules_74 fl_V_52 q8h rfl ?_
      refine g_s2 (pc := 77) (M' := mt_W_siteTo) dc_V_tellRules_77 mo_W_siteTo st_W_siteTo ln_V_54 (Nat.le_of_ble_eq_true rfl) (Nat.le_of_ble_eq_true rfl) (am_G.mono (t_siteTo (d := d + 6) (t := D.length) q8.1.ttb.tt (by omega) (by omega)) ?_)
      intro r h1 hq
      rw [hq.1, hq.2]
      clear hq h1 r
      refine ⟨am_nti _, ?_⟩
      have hsth : ∃ fs, h3[st]? = some (.inr (1, fs)) := by obtain ⟨b9, q9⟩ := s2; exact ⟨_, q9.1.ha⟩
      obtain ⟨fs9, hsth⟩ := hsth
      refine g_v3 (pc := 80) (M' := mt_B_putAll) dc_V_tellRules_80 mo_B_putAll im_B_putAll se_B_putAll ln_V_73 hsth rfl rfl (Nat.le_of_ble_eq_true rfl) (Nat.le_of_ble_eq_true rfl) (am_G.mono (w_B_putAll0 (d := d + 6) (i := 100 + 6 * Rs.length + 1) (f := 7) (t := hen D) (by omega) s2 q8.tO (by omega) (by omega) (by omega) (by have := kb_ge (100 + 6 * Rs.length + 1); show 2 * (0 + (hen D - 7)) + 16 ≤ _; have := ho.2.2.2.1; omega)) ?_)
      intro r h4 hz
      obtain ⟨z1, w3, f3, s2b⟩ := hz
      rw [z1]
      clear z1 r
      have nI1 : ∀ y, ¬ y = 100 + 6 * Rs.length + 1 → ¬ y ∈ [100 + 6 * Rs.length + 1] := fun y h1 h9 => h1 (List.mem_singleton.mp h9)
      have hV3 := hV2.fr f3 (nI1 26 (by omega))
      refine ⟨am_nt0, ?_⟩
      refine g_aload_n (pc := 83) dc_V_tellRules_83 rfl ?_
      refine g_dup (pc := 84) dc_V_tellRules_84 rfl ?_
      refine g_getfield (pc := 85) dc_V_tellRules_85 fl_V_58 hV3.1 rfl ?_
      refine g_iconst (pc := 88) (v := 1) dc_V_tellRules_88 rfl ?_
      refine g_iadd (pc := 89) (v := (nI (Rs.length + 1))) dc_V_tellRules_89 (nI_add Rs.length 1) ?_
      refine g_putfield (pc := 90) dc_V_tellRules_90 fp_V_tellRules_58 hV3.1 (Nat.le_of_ble_eq_true rfl) rfl rfl ?_
      show am_G X mt_V_tellRules _ 93 _ _ (h4.set 26 (.inr (6, [.int (nI n), .ref 27, .ref 28, .int (nI (Rs.length + 1))]))) _
      refine am_wk (am_le_s (am_le_n (am_le_s (am_le_s (am_le_s am_le_0))))) ?_
      have f4 : fr w3 w3 h4 (h4.set 26 (.inr (6, [.int (nI n), .ref 27, .ref 28, .int (nI (Rs.length + 1))]))) [26] := fr.st hV3.1 rfl hV3.2
      have hV4 : vO w3 (h4.set 26 (.inr (6, [.int (nI n), .ref 27, .ref 28, .int (nI (Rs.length + 1))]))) n (Rs.length + 1) := ⟨am_se (am_lt hV3.1), hV3.2⟩
      generalize (h4.set 26 (.inr (6, [.int (nI n), .ref 27, .ref 28, .int (nI (Rs.length + 1))]))) = h5 at f4 hV4 ⊢
      have hA4 := cO.fr (cO.fr hA2 f3 (nI1 28 (by omega))) f4 (by decide)
      have n26 : ∀ y, ¬ y = 26 → ¬ y ∈ [26] := fun y h1 h9 => h1 (List.mem_singleton.mp h9)
      have hS4 : stX w3 h5 (100 + 6 * Rs.length) h.length (sub D 7 (hen D)) [] [] := ⟨st, al, alb, di, dib, (s1.fr f3 (nI1 _ (by omega))).fr f4 (n26 _ (by omega)), s2b.fr f4 (n26 _ (by omega)), (s3.fr f3 (nI1 _ (by omega)) (nI1 _ (by omega))).fr f4 (n26 _ (by omega)) (n26 _ (by omega)), (s4.fr f3 (nI1 _ (by omega)) (nI1 _ (by omega))).fr f4 (n26 _ (by omega)) (n26 _ (by omega))⟩
      refine am_G.mono (t93_V_tellRules hV4 hA4 (by omega) vau_s hS4 ((hL2.fr f3 (nI1 1 (by omega))).fr f4 (by decide)) hL8 hf) (fun r h1 hz => ?_)
      obtain ⟨y1, w1, y2, y3⟩ := hz
      have e5 : rlx Rs Rt D (sub L f L.length) = some (Rs ++ [sit D], Rt ++ [sub L f L.length]) := by unfold rlx; rw [← hoo, hc10]; exact if_neg hc19
      rw [e5]
      have hnb := nbr_n (hoo.symm.trans hc10)
      have hlen : (Rs ++ [sit D]).length = Rs.length + 1 := by rw [List.length_append]; rfl
      have n4 : ∀ y, ¬ (y = 100 + 6 * Rs.length + 2 ∨ y = 100 + 6 * Rs.length + 3 ∨ y = 100 + 6 * Rs.length + 4 ∨ y = 100 + 6 * Rs.length + 5) → ¬ y ∈ [100 + 6 * Rs.length + 2, 100 + 6 * Rs.length + 3, 100 + 6 * Rs.length + 4, 100 + 6 * Rs.length + 5] := fun y h1 h9 => h1 (inU4.mp h9)
      have n6 : ∀ y, ¬ y = 28 → ¬ (y = 100 + 6 * Rs.length + 1 ∨ y = 100 + 6 * Rs.length + 2 ∨ y = 100 + 6 * Rs.length + 3 ∨ y = 100 + 6 * Rs.length + 4 ∨ y = 100 + 6 * Rs.length + 5) → ¬ y ∈ [28, 100 + 6 * Rs.length + 1, 100 + 6 * Rs.length + 2, 100 + 6 * Rs.length + 3, 100 + 6 * Rs.length + 4, 100 + 6 * Rs.length + 5] := fun y h1 h2 h9 => by simp only [List.mem_cons, List.not_mem_nil, or_false] at h9; omega
      have fI : ∀ y, y ∈ [28, 100 + 6 * Rs.length + 1, 100 + 6 * Rs.length + 2, 100 + 6 * Rs.length + 3, 100 + 6 * Rs.length + 4, 100 + 6 * Rs.length + 5] → y ∈ IR := fun y hy => by
        simp only [List.mem_cons, List.not_mem_nil, or_false] at hy
        rcases hy with e | e
        · rw [e]; decide
        · exact inIR (by omega) (by omega)
      have F : fr w w1 h h1 IR := (((f2.mo fI).tr (f3.mo (fun y hy => by rw [List.mem_singleton.mp hy]; exact inIR (by omega) (by omega)))).tr (f4.mo (by decide))).tr (y2.mo (fun y hy => inIR (by have := inU4.mp hy; omega) (by have := inU4.mp hy; omega)))
      have nb9 : nbr (Rs ++ [sit D]) (sit D) = some Rs.length := nbr_fst (by omega) gT_new (fun j hj h9 => hnb (by rw [gT_app hj] at h9; rw [← h9]; exact gT_mem hj))
      have gt9 : gT (Rt ++ [sub L f L.length]) Rs.length = sub L f L.length := by rw [← hrt]; exact gT_new
      refine ⟨?_, w1, F, by rw [hlen]; exact hV4.fr y2 (n4 26 (by omega)), ⟨_, cO.fr hA4 y2 (n4 28 (by omega)), fun q hq => ?_, fun q j h1 h2 h3 => ?_⟩⟩
      · rw [y1]; unfold jgH; rw [nb9]; show _ = some (Value.int (nI ((rlz (gT (Rt ++ [sub L f L.length]) Rs.length)).2.2.2.1.length + (rlz (gT (Rt ++ [sub L f L.length]) Rs.length)).2.2.2.2.length))); rw [gt9]
      · by_cases e9 : q = Rs.length
        · rw [e9]
          refine ⟨h.length, vau_s, ?_⟩
          unfold stC
          rw [gT_new, gt9]
          have hsd : sub (sit D) 7 (sit D).length = sub D 7 (hen D) := (sit7 ho ho).mpr rfl
          rw [hsd]
          exact y3
        · have hq2 : q < (Rs ++ [sit D]).length := hq
          obtain ⟨tc2, z1, z2⟩ := hg2 q (by omega)
          refine ⟨tc2, by rw [vau_n e9]; exact z1, ?_⟩
          unfold stC
          rw [gT_app (by omega), gT_app (by omega)]
          exact stX.fr (stX.fr (stX.fr (stX.fr z2 f2 (fun j hj => n6 _ (by omega) (by omega))) f3 (fun j hj => nI1 _ (by omega))) f4 (fun j hj => n26 _ (by omega))) y2 (fun j hj => n4 _ (by omega))
      · have h1b : (Rs ++ [sit D]).length ≤ q := h1
        rw [y2.2.1 _ (n4 _ (by omega)), f4.2.1 _ (n26 _ (by omega)), f3.2.1 _ (nI1 _ (by omega)), f2.2.1 _ (n6 _ (by omega) (by omega))]; exact hg3 q j (by omega) h2 h3
    · refine g_iconst (pc := 22) (v := (-1)) dc_V_tellRules_22 rfl ?_
      have e5 : rlx Rs Rt D (sub L f L.length) = none := by unfold rlx; rw [← hoo, hc10]; exact if_pos hc19
      rw [e5]
      exact g_ireturn dc_V_tellRules_23 rfl ⟨rfl, rfl⟩
end C5S
