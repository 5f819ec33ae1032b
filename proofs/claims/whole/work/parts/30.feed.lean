/-! ===== feed and end: their throws, and the law's catches ===== -/
theorem am_fc {a : Cond} {L : List Cond} {P : Cond → Prop} (h : P a) (t : ∀ w ∈ L, P w) : ∀ w ∈ a :: L, P w := List.forall_mem_cons.mpr ⟨h, t⟩
theorem am_fn {P : Cond → Prop} : ∀ w ∈ ([] : List Cond), P w := fun _ h => by cases h
theorem at_feed : ∀ w ∈ Bundle.ownAtoms0 "WebFinder" 91 (am_xn 0) am_up, am_tw w := am_fc (Or.inl (am_t1 12 rfl rfl)) (am_fc (Or.inl (am_t4 17 rfl rfl)) (am_fc (Or.inl (am_t4 26 rfl rfl)) (am_fc (Or.inl (am_t4 29 rfl rfl)) (am_fc (Or.inl (am_t4 32 rfl rfl)) (am_fc (Or.inl (am_t4 34 rfl rfl)) (am_fc (Or.inl (am_t4 18 rfl rfl)) (am_fc (Or.inl (am_t4 19 rfl rfl)) (am_fc (Or.inl (am_t1 37 rfl rfl)) (am_fc (Or.inl (am_t1 38 rfl rfl)) (am_fc (Or.inl (am_t4 20 rfl rfl)) (am_fc (Or.inl (am_t4 25 rfl rfl)) (am_fc (Or.inl (am_t4 30 rfl rfl)) (am_fc (Or.inl (am_t4 229 rfl rfl)) (am_fc (Or.inl (am_t4 7 rfl rfl)) (am_fc (Or.inl (am_t4 230 rfl rfl)) (am_fc (Or.inl (am_t4 9 rfl rfl)) (am_fc (Or.inl (am_t4 231 rfl rfl)) (am_fc (Or.inl (am_t4 11 rfl rfl)) (am_fc (Or.inl (am_t4 21 rfl rfl)) (am_fc (Or.inr (Or.inr (Or.inl rfl))) (am_fc (Or.inl (am_t4 23 rfl rfl)) (am_fc (Or.inr (Or.inr (Or.inr (Or.inl rfl)))) (am_fc (Or.inl (am_t4 13 rfl rfl)) (am_fc (Or.inl (am_t7 71 rfl rfl)) (am_fc (Or.inl (am_t7 72 rfl rfl)) (am_fc (Or.inl (am_t7 73 rfl rfl)) (am_fc (Or.inl (am_t7 74 rfl rfl)) (am_fc (Or.inr (Or.inl (am_n3 238 rfl rfl))) (am_fc (Or.inl (am_t7 74 rfl rfl)) (am_fc (Or.inl (am_t7 75 rfl rfl)) (am_fc (Or.inl (am_t7 76 rfl rfl)) (am_fc (Or.inl (am_t7 77 rfl rfl)) (am_fc (Or.inr (Or.inl (am_n4 0 rfl rfl))) (am_fc (Or.inl (am_t7 77 rfl rfl)) (am_fc (Or.inl (am_t7 78 rfl rfl)) (am_fc (Or.inl (am_t7 79 rfl rfl)) (am_fc (Or.inl (am_t4 18 rfl rfl)) (am_fc (Or.inr (Or.inl (am_n4 2 rfl rfl))) (am_fc (Or.inl (am_t7 70 rfl rfl)) (am_fc (Or.inl (am_t7 62 rfl rfl)) (am_fc (Or.inr (Or.inl (am_n7 63 rfl rfl))) (am_fc (Or.inl (am_t7 64 rfl rfl)) (am_fc (Or.inl (am_t4 28 rfl rfl)) (am_fc (Or.inl (am_t7 65 rfl rfl)) (am_fc (Or.inl (am_t7 66 rfl rfl)) (am_fc (Or.inl (am_t7 67 rfl rfl)) (am_fc (Or.inl (am_t7 68 rfl rfl)) (am_fc (Or.inr (Or.inr (Or.inr (Or.inr (Or.inl rfl))))) (am_fc (Or.inr (Or.inr (Or.inr (Or.inr (Or.inr rfl))))) (am_fc (Or.inl (am_t4 16 rfl rfl)) (am_fc (Or.inl (am_t4 15 rfl rfl)) (am_fc (Or.inl (am_t7 69 rfl rfl)) (am_fn)))))))))))))))))))))))))))))))))))))))))))))))))))))
theorem at_end : ∀ w ∈ Bundle.ownAtoms0 "WebFinder" 97 (am_xn 1) am_up, am_tw w := am_fc (Or.inl (am_t1 12 rfl rfl)) (am_fc (Or.inl (am_t4 17 rfl rfl)) (am_fc (Or.inl (am_t4 26 rfl rfl)) (am_fc (Or.inl (am_t4 29 rfl rfl)) (am_fc (Or.inl (am_t4 32 rfl rfl)) (am_fc (Or.inl (am_t4 34 rfl rfl)) (am_fc (Or.inl (am_t4 18 rfl rfl)) (am_fc (Or.inl (am_t4 19 rfl rfl)) (am_fc (Or.inl (am_t1 37 rfl rfl)) (am_fc (Or.inl (am_t1 38 rfl rfl)) (am_fc (Or.inl (am_t4 20 rfl rfl)) (am_fc (Or.inl (am_t4 25 rfl rfl)) (am_fc (Or.inl (am_t4 30 rfl rfl)) (am_fc (Or.inl (am_t4 229 rfl rfl)) (am_fc (Or.inl (am_t4 7 rfl rfl)) (am_fc (Or.inl (am_t4 230 rfl rfl)) (am_fc (Or.inl (am_t4 9 rfl rfl)) (am_fc (Or.inl (am_t4 231 rfl rfl)) (am_fc (Or.inl (am_t4 11 rfl rfl)) (am_fc (Or.inl (am_t4 21 rfl rfl)) (am_fc (Or.inr (Or.inr (Or.inl rfl))) (am_fc (Or.inl (am_t4 23 rfl rfl)) (am_fc (Or.inr (Or.inr (Or.inr (Or.inl rfl)))) (am_fc (Or.inl (am_t4 13 rfl rfl)) (am_fc (Or.inl (am_t7 96 rfl rfl)) (am_fc (Or.inl (am_t7 97 rfl rfl)) (am_fc (Or.inl (am_t7 98 rfl rfl)) (am_fc (Or.inl (am_t7 74 rfl rfl)) (am_fc (Or.inr (Or.inl (am_n3 238 rfl rfl))) (am_fc (Or.inl (am_t7 74 rfl rfl)) (am_fc (Or.inl (am_t7 75 rfl rfl)) (am_fc (Or.inl (am_t7 76 rfl rfl)) (am_fc (Or.inl (am_t7 77 rfl rfl)) (am_fc (Or.inr (Or.inl (am_n4 0 rfl rfl))) (am_fc (Or.inl (am_t7 77 rfl rfl)) (am_fc (Or.inl (am_t7 78 rfl rfl)) (am_fc (Or.inl (am_t7 79 rfl rfl)) (am_fc (Or.inl (am_t4 18 rfl rfl)) (am_fc (Or.inr (Or.inl (am_n4 2 rfl rfl))) (am_fc (Or.inl (am_t7 95 rfl rfl)) (am_fc (Or.inl (am_t3 236 rfl rfl)) (am_fc (Or.inr (Or.inl (am_n3 237 rfl rfl))) (am_fc (Or.inl (am_t4 4 rfl rfl)) (am_fc (Or.inl (am_t4 5 rfl rfl)) (am_fc (Or.inl (am_t4 6 rfl rfl)) (am_fc (Or.inl (am_t4 8 rfl rfl)) (am_fc (Or.inl (am_t4 10 rfl rfl)) (am_fc (Or.inl (am_t4 12 rfl rfl)) (am_fc (Or.inr (Or.inr (Or.inr (Or.inr (Or.inl rfl))))) (am_fc (Or.inr (Or.inr (Or.inr (Or.inr (Or.inr rfl))))) (am_fc (Or.inl (am_t4 16 rfl rfl)) (am_fc (Or.inl (am_t4 15 rfl rfl)) (am_fc (Or.inl (am_t4 14 rfl rfl)) (am_fn)))))))))))))))))))))))))))))))))))))))))))))))))))))
section AMF
variable {X : am_X} {d : Nat} {l : am_lo} {st : List Value} {h : List va_E} {Q : Option Value → List va_E → Prop}
theorem th_feed (hl9 : X.1.stackTraces = false) (hw : (st.map fun v => v.category).sum ≤ 8) (hq : Q (some (.double 0)) (h ++ [.inr (13, [.null, .null, .null, .null, .null, .null])])) : am_G X mt_W_feed (d + 6) 16 l st h Q :=
  g_throw (M := mt_W_feed) (pc := 16) (ik := 89) (ic := 91) 0 rfl hl9 (by decide +kernel) dc_W_feed_16 dc_W_feed_19 dc_W_feed_20 dc_W_feed_23 (by decide +kernel) (am_t7 61 rfl rfl) (am_t1 15 rfl rfl) at_feed hw hq
theorem th_end (hl9 : X.1.stackTraces = false) (hw : (st.map fun v => v.category).sum ≤ 8) (hq : Q (some (.double 1)) (h ++ [.inr (14, [.null, .null, .null, .null, .null, .null])])) : am_G X mt_W_end (d + 6) 15 l st h Q :=
  g_throw (M := mt_W_end) (pc := 15) (ik := 95) (ic := 97) 1 rfl hl9 (by decide +kernel) dc_W_end_15 dc_W_end_18 dc_W_end_19 dc_W_end_22 (by decide +kernel) (am_t7 94 rfl rfl) (am_t1 19 rfl rfl) at_end hw hq
theorem ct_feed {a : Nat} {fs : List Value} {v1 v2 v3 v4 v5 : Value} (hh : h[a]? = some (.inr (0, fs))) (hen : (am_en [.ref a, v1, v2, v3, v4, v5]).length ≤ mt_W_feed.2.2.1)
    (hc : am_G X mt_W_feed d 0 (am_fr mt_W_feed.2.2.1 [.ref a, v1, v2, v3, v4, v5]) [] h (fun r h1 => (am_nt r ∧ am_G X mt_L_feed (d + 1) 11 l r.toList h1 Q) ∨ (r = some (.double 0) ∧ 0 < h1.length ∧ am_G X mt_L_feed (d + 1) 14 l [.ref (h1.length - 1)] h1 Q))) : am_G X mt_L_feed (d + 1) 8 l [v5, v4, v3, v2, v1, .ref a] h Q :=
  g_vcatch (M := mt_L_feed) (M' := mt_W_feed) (vs := [v1, v2, v3, v4, v5]) (rest := []) dc_L_feed_8 mo_W_feed im_W_feed se_W_feed (am_t7 57 rfl rfl) hh rfl rfl rfl hen (by decide) (s0 := 0) (e0 := 11) (hp := 14) (ct := 13) (by decide +kernel) (by decide) (by decide) 0 (am_t7 56 rfl rfl) (am_n7 63 rfl rfl) (by simpa using hc)
theorem ct_end {a : Nat} {fs : List Value} {v1 : Value} {rest : List Value} (hw : (rest.map fun v => v.category).sum ≤ 8) (hh : h[a]? = some (.inr (0, fs))) (hen : (am_en [.ref a, v1]).length ≤ mt_W_end.2.2.1)
    (hc : am_G X mt_W_end d 0 (am_fr mt_W_end.2.2.1 [.ref a, v1]) [] h (fun r h1 => (am_nt r ∧ am_G X mt_L_end (d + 1) 7 l (r.toList ++ rest) h1 Q) ∨ (r = some (.double 1) ∧ 0 < h1.length ∧ am_G X mt_L_end (d + 1) 12 l [.ref (h1.length - 1)] h1 Q))) : am_G X mt_L_end (d + 1) 4 l (v1 :: .ref a :: rest) h Q :=
  g_vcatch (M := mt_L_end) (M' := mt_W_end) (vs := [v1]) (rest := rest) dc_L_end_4 mo_W_end im_W_end se_W_end (am_t7 90 rfl rfl) hh rfl rfl rfl hen hw (s0 := 0) (e0 := 9) (hp := 12) (ct := 19) (by decide +kernel) (by decide) (by decide) 1 (am_t7 89 rfl rfl) (am_n3 237 rfl rfl) hc
theorem sw_feed {v1 v2 v3 v4 v5 v6 : Value} (hw : (st.map fun v => v.category).sum ≤ 8) (hen : (am_en [v1, v2, v3, v4, v5, v6]).length ≤ mt_L_feed.2.2.1)
    (hc : am_G X mt_L_feed d 0 (am_fr mt_L_feed.2.2.1 [v1, v2, v3, v4, v5, v6]) [] h (fun r h1 => am_nt r ∧ am_G X mt_L_law (d + 1) 202 l (r.toList ++ st) h1 Q)) : am_G X mt_L_law (d + 1) 199 l (v6 :: v5 :: v4 :: v3 :: v2 :: v1 :: st) h Q :=
  g_staticW (M := mt_L_law) (M' := mt_L_feed) (vs := [v1, v2, v3, v4, v5, v6]) (rest := st) dc_L_law_199 mo_L_feed st_L_feed (am_t7 53 rfl rfl) rfl hen hw hc (fun _ _ hq => hq)
theorem sw_end {v1 v2 v3 : Value} (hw : (st.map fun v => v.category).sum ≤ 8) (hen : (am_en [v1, v2, v3]).length ≤ mt_L_end.2.2.1)
    (hc : am_G X mt_L_end d 0 (am_fr mt_L_end.2.2.1 [v1, v2, v3]) [] h (fun r h1 => am_nt r ∧ am_G X mt_L_law (d + 1) 263 l (r.toList ++ st) h1 Q)) : am_G X mt_L_law (d + 1) 260 l (v3 :: v2 :: v1 :: st) h Q :=
  g_staticW (M := mt_L_law) (M' := mt_L_end) (vs := [v1, v2, v3]) (rest := st) dc_L_law_260 mo_L_end st_L_end (am_t7 86 rfl rfl) rfl hen hw hc (fun _ _ hq => hq)
end AMF
section AMS
variable {X : am_X} {M : am_Mt} {d pc : Nat} {l : am_lo} {st : List Value} {h : List va_E} {Q : Option Value → List va_E → Prop}
theorem g_scriptLoadV {i p : Int32} (hd : decode M.2.1 pc = .ok (.iaload, 1)) (hin : vp_in i X.2.2.2.2.2.1) (hv : X.2.2.2.2.2.2 i.toNatClampNeg = p) (kk : am_G X M d (pc + 1) l (.int p :: st) h Q) : am_G X M d pc l (.int i :: .retAddr 300 :: st) h Q := by
  subst hv
  exact g_scriptLoad hd hin kk
theorem g_scriptLenV {n : Nat} {v : Int32} (hd : decode M.2.1 pc = .ok (.arraylength, 1)) (hL : X.2.2.2.2.2.1 = n) (hv : Int32.ofNat n = v) (kk : am_G X M d (pc + 1) l (.int v :: st) h Q) : am_G X M d pc l (.retAddr 300 :: st) h Q := by
  subst hv
  subst hL
  exact g_scriptLen hd kk
theorem am_and31 (w : Int32) : ∃ j : Nat, j < 32 ∧ w &&& 31 = nI j := pk_andE w (m := 31) 5 rfl
end AMS
theorem am_p4 (p : Int32) : p = 0 ∨ p = 1 ∨ p = 2 ∨ p = 3 ∨ p.toInt < 0 ∨ 3 < p.toInt := by
  rcases (by omega : p.toInt < 0 ∨ 3 < p.toInt ∨ p.toInt = 0 ∨ p.toInt = 1 ∨ p.toInt = 2 ∨ p.toInt = 3) with h | h | h | h | h | h
  · exact Or.inr (Or.inr (Or.inr (Or.inr (Or.inl h))))
  · exact Or.inr (Or.inr (Or.inr (Or.inr (Or.inr h))))
  · exact Or.inl (Int32.toInt_inj.mp (h.trans rfl))
  · exact Or.inr (Or.inl (Int32.toInt_inj.mp (h.trans rfl)))
  · exact Or.inr (Or.inr (Or.inl (Int32.toInt_inj.mp (h.trans rfl))))
  · exact Or.inr (Or.inr (Or.inr (Or.inl (Int32.toInt_inj.mp (h.trans rfl)))))
theorem am_p5 (p : Int32) : p = 0 ∨ p = 1 ∨ p = 2 ∨ p = 3 ∨ p = 4 ∨ p.toInt < 0 ∨ 4 < p.toInt := by
  rcases (by omega : p.toInt < 0 ∨ 4 < p.toInt ∨ p.toInt = 0 ∨ p.toInt = 1 ∨ p.toInt = 2 ∨ p.toInt = 3 ∨ p.toInt = 4) with h | h | h | h | h | h | h
  · exact Or.inr (Or.inr (Or.inr (Or.inr (Or.inr (Or.inl h)))))
  · exact Or.inr (Or.inr (Or.inr (Or.inr (Or.inr (Or.inr h)))))
  · exact Or.inl (Int32.toInt_inj.mp (h.trans rfl))
  · exact Or.inr (Or.inl (Int32.toInt_inj.mp (h.trans rfl)))
  · exact Or.inr (Or.inr (Or.inl (Int32.toInt_inj.mp (h.trans rfl))))
  · exact Or.inr (Or.inr (Or.inr (Or.inl (Int32.toInt_inj.mp (h.trans rfl)))))
  · exact Or.inr (Or.inr (Or.inr (Or.inr (Or.inl (Int32.toInt_inj.mp (h.trans rfl))))))
