/-! ===== the class: a site's rules are made and told ===== -/
section C3A
variable {X : am_X} {d a n m tc : Nat} {h h1 : List va_E}
/-- the cells below keep what they hold, but one -/
def kpx (h h1 : List va_E) (a n s : Nat) : Prop := h1.length = h.length + n ∧ (∀ k, k < h.length → ¬ k = a → h1[k]? = h[k]?) ∧ am_sl h1 = am_sl h + s
def xB (h h1 : List va_E) (a n : Nat) : Prop := kpx h h1 a 1 n ∧ h1[a]? = some (.inr (1, [.ref h.length, .int 0])) ∧ h1[h.length]? = some (.inl (0, n, .inl (fun _ => 0)))
def xR (h h1 : List va_E) (a n m : Nat) : Prop := kpx h h1 a 3 (2 + n + m) ∧ h1[a]? = some (.inr (4, [.ref h.length, .ref (h.length + 2), .int 0])) ∧ h1[h.length]? = some (.inr (1, [.ref (h.length + 1), .int 0])) ∧ h1[h.length + 1]? = some (.inl (0, n, .inl (fun _ => 0))) ∧ h1[h.length + 2]? = some (.inl (1, m, .inl (fun _ => 0)))
theorem set_k {e : va_E} {k : Nat} (hne : ¬ k = a) : (h.set a e)[k]? = h[k]? := List.getElem?_set_ne (fun q => hne q.symm)
theorem app_k {e : va_E} {k : Nat} (hk : k < h.length) : (h ++ [e])[k]? = h[k]? := List.getElem?_append_left hk
theorem c_B_init (ha : h[a]? = some (.inr (1, [.null, .int 0]))) (hn : n ≤ 100000) : am_C X mt_B_init (d + 1) [.ref a, .int (nI n)] h (fun r h1 => r = none ∧ xB h h1 a n) := by
  show am_G X mt_B_init (d + 1) 0 [some (.ref a), some (.int (nI n))] [] h _
  have hal := am_lt ha
  refine g_aload_n (pc := 0) dc_B_init_0 rfl ?_
  refine g_objInit (pc := 1) dc_B_init_1 ob_B_3 (Nat.le_of_ble_eq_true rfl) ?_
  refine g_aload_n (pc := 4) dc_B_init_4 rfl ?_
  refine g_iload_n (pc := 5) dc_B_init_5 rfl ?_
  refine g_newarray_b (pc := 6) (N := n) dc_B_init_6 (nI_pos (by omega)) (nI_clamp (by omega)) (by omega) ?_
  refine g_putfield (pc := 8) dc_B_init_8 fp_B_init_9 (am_ap ha) (Nat.le_of_ble_eq_true rfl) rfl rfl ?_
  show am_G X mt_B_init _ 11 _ _ ((h ++ [(.inl (0, n, .inl (fun _ => 0)) : va_E)]).set a (.inr (1, [.ref h.length, .int 0]))) _
  refine g_return dc_B_init_11 rfl ⟨rfl, ⟨?_, fun k hk hne => ?_, ?_⟩, am_se (by rw [List.length_append]; omega), ?_⟩
  · rw [List.length_set, List.length_append]; rfl
  · rw [set_k hne, app_k hk]
  · rw [am_sl_set _ _ (.inr (1, [.ref h.length, .int 0])) _ (am_ap ha) rfl, am_sl_app]; rfl
  · rw [set_k (by omega)]; exact am_an
theorem c_R_init (ha : h[a]? = some (.inr (4, [.null, .null, .int 0]))) (hn : n ≤ 100000) (hm : m ≤ 100000) : am_C X mt_R_init (d + 2) [.ref a, .int (nI n), .int (nI m)] h (fun r h1 => r = none ∧ xR h h1 a n m) := by
  show am_G X mt_R_init (d + 2) 0 [some (.ref a), some (.int (nI n)), some (.int (nI m))] [] h _
  have hal := am_lt ha
  refine g_aload_n (pc := 0) dc_R_init_0 rfl ?_
  refine g_objInit (pc := 1) dc_R_init_1 ob_R_3 (Nat.le_of_ble_eq_true rfl) ?_
  refine g_aload_n (pc := 4) dc_R_init_4 rfl ?_
  refine g_new (pc := 5) dc_R_init_5 mk_R_9 ?_
  refine g_dup (pc := 8) dc_R_init_8 rfl ?_
  refine g_iload_n (pc := 9) dc_R_init_9 rfl ?_
  refine g_i1 (pc := 10) (M' := mt_B_init) dc_R_init_10 mo_B_init im_B_init rfl rfl ln_R_11 (Nat.le_of_ble_eq_true rfl) (Nat.le_of_ble_eq_true rfl) (am_G.mono (c_B_init (d := d) (a := h.length) (n := n) am_an hn) ?_)
  intro r h2 hq
  obtain ⟨q1, ⟨k1, k2, k3⟩, q3, q4⟩ := hq
  rw [q1]
  clear q1 r
  have hl1 : (h ++ [(.inr (1, [.null, .int 0]) : va_E)]).length = h.length + 1 := by rw [List.length_append]; rfl
  rw [hl1] at k1 k2 q3 q4
  have e2 : h2[a]? = some (.inr (4, [.null, .null, .int 0])) := by rw [k2 a (by omega) (by omega), app_k hal]; exact ha
  refine ⟨am_nt0, ?_⟩
  refine g_putfield (pc := 13) dc_R_init_13 fp_R_init_14 e2 (Nat.le_of_ble_eq_true rfl) rfl rfl ?_
  show am_G X mt_R_init _ 16 _ _ (h2.set a (.inr (4, [.ref h.length, .null, .int 0]))) _
  refine g_aload_n (pc := 16) dc_R_init_16 rfl ?_
  refine g_iload_n (pc := 17) dc_R_init_17 rfl ?_
  refine g_newarray_i (pc := 18) (N := m) dc_R_init_18 (nI_pos (by omega)) (nI_clamp (by omega)) (by omega) ?_
  rw [List.length_set, k1, show h.length + 1 + 1 = h.length + 2 from rfl]
  refine g_putfield (pc := 20) dc_R_init_20 fp_R_init_20 (am_ap (am_se (am_lt e2))) (Nat.le_of_ble_eq_true rfl) rfl rfl ?_
  show am_G X mt_R_init _ 23 _ _ ((h2.set a (.inr (4, [.ref h.length, .null, .int 0])) ++ [(.inl (1, m, .inl (fun _ => 0)) : va_E)]).set a (.inr (4, [.ref h.length, .ref (h.length + 2), .int 0]))) _
  refine g_return dc_R_init_23 rfl ⟨rfl, ⟨?_, fun k hk hne => ?_, ?_⟩, am_se ?_, ?_, ?_, ?_⟩
  · rw [List.length_set, List.length_append, List.length_set, k1]; rfl
  · rw [set_k hne, app_k (by rw [List.length_set]; omega), set_k hne, k2 k (by omega) (by omega), app_k hk]
  · rw [am_sl_set _ _ (.inr (4, [.ref h.length, .ref (h.length + 2), .int 0])) (.inr (4, [.ref h.length, .null, .int 0])) (am_ap (am_se (am_lt e2))) rfl, am_sl_app, am_sl_set _ _ (.inr (4, [.ref h.length, .null, .int 0])) _ e2 rfl, k3, am_sl_app]
    show am_sl h + (2 + 0) + n + (m + 0) = _
    omega
  · rw [List.length_append, List.length_set, k1]; omega
  · rw [set_k (by omega), app_k (by rw [List.length_set]; omega), set_k (by omega)]; exact q3
  · rw [set_k (by omega), app_k (by rw [List.length_set]; omega), set_k (by omega)]; exact q4
  · rw [set_k (by omega)]
    have e9 : (h2.set a (.inr (4, [.ref h.length, .null, .int 0]))).length = h.length + 2 := by rw [List.length_set, k1]
    rw [← e9]
    exact am_an
def xT (h h1 : List va_E) (a : Nat) : Prop := kpx h h1 a 10 222 ∧ h1[a]? = some (.inr (11, [.ref h.length, .ref (h.length + 2), .ref (h.length + 6)])) ∧ h1[h.length]? = some (.inr (1, [.ref (h.length + 1), .int 0])) ∧ h1[h.length + 1]? = some (.inl (0, 66, .inl (fun _ => 0))) ∧ h1[h.length + 2]? = some (.inr (4, [.ref (h.length + 3), .ref (h.length + 5), .int 0])) ∧ h1[h.length + 3]? = some (.inr (1, [.ref (h.length + 4), .int 0])) ∧ h1[h.length + 4]? = some (.inl (0, 64, .inl (fun _ => 0))) ∧ h1[h.length + 5]? = some (.inl (1, 8, .inl (fun _ => 0))) ∧ h1[h.length + 6]? = some (.inr (4, [.ref (h.length + 7), .ref (h.length + 9), .int 0])) ∧ h1[h.length + 7]? = some (.inr (1, [.ref (h.length + 8), .int 0])) ∧ h1[h.length + 8]? = some (.inl (0, 64, .inl (fun _ => 0))) ∧ h1[h.length + 9]? = some (.inl (1, 8, .inl (fun _ => 0)))
theorem c_T_init (ha : h[a]? = some (.inr (11, [.null, .null, .null]))) : am_C X mt_T_init (d + 3) [.ref a] h (fun r h1 => r = none ∧ xT h h1 a) := by
  show am_G X mt_T_init (d + 3) 0 [some (.ref a)] [] h _
  have hal := am_lt ha
  refine g_aload_n (pc := 0) dc_T_init_0 rfl ?_
  refine g_objInit (pc := 1) dc_T_init_1 ob_T_3 (Nat.le_of_ble_eq_true rfl) ?_
  refine g_aload_n (pc := 4) dc_T_init_4 rfl ?_
  refine g_new (pc := 5) dc_T_init_5 mk_T_9 ?_
  refine g_dup (pc := 8) dc_T_init_8 rfl ?_
  refine g_bipush (pc := 9) (v := 66) dc_T_init_9 rfl ?_
  refine g_i1 (pc := 11) (M' := mt_B_init) dc_T_init_11 mo_B_init im_B_init rfl rfl ln_T_11 (Nat.le_of_ble_eq_true rfl) (Nat.le_of_ble_eq_true rfl) (am_G.mono (c_B_init (d := d + 1) (a := h.length) (n := 66) am_an (by decide)) ?_)
  intro r h2 hq
  obtain ⟨q1, ⟨k1, k2, k3⟩, q3, q4⟩ := hq
  rw [q1]
  clear q1 r
  have hl1 : (h ++ [(.inr (1, [.null, .int 0]) : va_E)]).length = h.length + 1 := by rw [List.length_append]; rfl
  have hs1 : am_sl (h ++ [(.inr (1, [.null, .int 0]) : va_E)]) = am_sl h + 2 := by rw [am_sl_app]; rfl
  rw [hl1] at k1 k2 q3 q4
  rw [hs1] at k3
  have e2 : h2[a]? = some (.inr (11, [.null, .null, .null])) := by rw [k2 a (by omega) (by omega), app_k hal]; exact ha
  refine ⟨am_nt0, ?_⟩
  refine g_putfield (pc := 14) dc_T_init_14 fp_T_init_14 e2 (Nat.le_of_ble_eq_true rfl) rfl rfl ?_
  show am_G X mt_T_init _ 17 _ _ (h2.set a (.inr (11, [.ref h.length, .null, .null]) : va_E)) _
  have f2 : ∀ k, ¬ k = a → (h2.set a (.inr (11, [.ref h.length, .null, .null]) : va_E))[k]? = h2[k]? := fun k hk => set_k hk
  have e3 : (h2.set a (.inr (11, [.ref h.length, .null, .null]) : va_E))[a]? = some (.inr (11, [.ref h.length, .null, .null]) : va_E) := am_se (am_lt e2)
  have l3 : (h2.set a (.inr (11, [.ref h.length, .null, .null]) : va_E)).length = h.length + 2 := by rw [List.length_set, k1]
  have s3 : am_sl (h2.set a (.inr (11, [.ref h.length, .null, .null]) : va_E)) = am_sl h + 2 + 66 := by rw [am_sl_set _ _ (.inr (11, [.ref h.length, .null, .null]) : va_E) _ e2 rfl, k3]
  generalize (h2.set a (.inr (11, [.ref h.length, .null, .null]) : va_E)) = h3 at f2 e3 l3 s3 ⊢
  refine g_aload_n (pc := 17) dc_T_init_17 rfl ?_
  refine g_new (pc := 18) dc_T_init_18 mk_T_20 ?_
  rw [l3]
  refine g_dup (pc := 21) dc_T_init_21 rfl ?_
  refine g_bipush (pc := 22) (v := 64) dc_T_init_22 rfl ?_
  refine g_bipush (pc := 24) (v := 8) dc_T_init_24 rfl ?_
  have la3 : (h3 ++ [(.inr (4, [.null, .null, .int 0]) : va_E)]).length = h.length + 3 := by rw [List.length_append, l3]; rfl
  have sa3 : am_sl (h3 ++ [(.inr (4, [.null, .null, .int 0]) : va_E)]) = am_sl h + 2 + 66 + 3 := by rw [am_sl_app, s3]; rfl
  have na3 : (h3 ++ [(.inr (4, [.null, .null, .int 0]) : va_E)])[h.length + 2]? = some (.inr (4, [.null, .null, .int 0])) := by rw [← l3]; exact am_an
  refine g_i2 (pc := 26) (M' := mt_R_init) dc_T_init_26 mo_R_init im_R_init rfl rfl ln_T_22 (Nat.le_of_ble_eq_true rfl) (Nat.le_of_ble_eq_true rfl) (am_G.mono (c_R_init (d := d) (a := h.length + 2) (n := 64) (m := 8) na3 (by decide) (by decide)) ?_)
  intro r h4 hq
  obtain ⟨q1, ⟨m1, m2, m3⟩, m4, m5, m6, m7⟩ := hq
  rw [q1]
  clear q1 r
  rw [la3] at m1 m2 m4 m5 m6 m7
  rw [sa3] at m3
  refine ⟨am_nt0, ?_⟩
  have e4 : h4[a]? = some (.inr (11, [.ref h.length, .null, .null]) : va_E) := by rw [m2 a (by omega) (by omega), app_k (by omega)]; exact e3
  have g0 : h4[h.length]? = some (.inr (1, [.ref (h.length + 1), .int 0])) := by rw [m2 _ (by omega) (by omega), app_k (by omega), f2 _ (by omega)]; exact q3
  have g1 : h4[h.length + 1]? = some (.inl (0, 66, .inl (fun _ => 0))) := by rw [m2 _ (by omega) (by omega), app_k (by omega), f2 _ (by omega)]; exact q4
  have gf : ∀ k, k < h.length → ¬ k = a → h4[k]? = h[k]? := fun k hk hne => by rw [m2 k (by omega) (by omega), app_k (by omega), f2 k hne, k2 k (by omega) (by omega), app_k hk]
  refine g_putfield (pc := 29) dc_T_init_29 fp_T_init_25 e4 (Nat.le_of_ble_eq_true rfl) rfl rfl ?_
  show am_G X mt_T_init _ 32 _ _ (h4.set a (.inr (11, [.ref h.length, .ref (h.length + 2), .null]) : va_E)) _
  have e5 : (h4.set a (.inr (11, [.ref h.length, .ref (h.length + 2), .null]) : va_E))[a]? = some (.inr (11, [.ref h.length, .ref (h.length + 2), .null]) : va_E) := am_se (am_lt e4)
  have f5 : ∀ k, ¬ k = a → (h4.set a (.inr (11, [.ref h.length, .ref (h.length + 2), .null]) : va_E))[k]? = h4[k]? := fun k hk => set_k hk
  have l5 : (h4.set a (.inr (11, [.ref h.length, .ref (h.length + 2), .null]) : va_E)).length = h.length + 6 := by rw [List.length_set, m1]
  have s5 : am_sl (h4.set a (.inr (11, [.ref h.length, .ref (h.length + 2), .null]) : va_E)) = am_sl h + (2 + 66 + 3 + (2 + 64 + 8)) := by rw [am_sl_set _ _ (.inr (11, [.ref h.length, .ref (h.length + 2), .null]) : va_E) _ e4 rfl, m3]
  generalize (h4.set a (.inr (11, [.ref h.length, .ref (h.length + 2), .null]) : va_E)) = h5 at e5 f5 l5 s5 ⊢
  obtain ⟨m41, m51, m61, m71⟩ : h5[h.length + 2]? = some (.inr (4, [.ref (h.length + 3), .ref (h.length + 5), .int 0])) ∧ h5[h.length + 3]? = some (.inr (1, [.ref (h.length + 4), .int 0])) ∧ h5[h.length + 4]? = some (.inl (0, 64, .inl (fun _ => 0))) ∧ h5[h.length + 5]? = some (.inl (1, 8, .inl (fun _ => 0))) := ⟨(f5 _ (by omega)).trans m4, (f5 _ (by omega)).trans m5, (f5 _ (by omega)).trans m6, (f5 _ (by omega)).trans m7⟩
  clear m1 m2 m3 m4 m5 m6 m7
  refine g_aload_n (pc := 32) dc_T_init_32 rfl ?_
  refine g_new (pc := 33) dc_T_init_33 mk_T_20 ?_
  rw [l5]
  refine g_dup (pc := 36) dc_T_init_36 rfl ?_
  refine g_bipush (pc := 37) (v := 64) dc_T_init_37 rfl ?_
  refine g_bipush (pc := 39) (v := 8) dc_T_init_39 rfl ?_
  have la5 : (h5 ++ [(.inr (4, [.null, .null, .int 0]) : va_E)]).length = h.length + 7 := by rw [List.length_append, l5]; rfl
  have sa5 : am_sl (h5 ++ [(.inr (4, [.null, .null, .int 0]) : va_E)]) = am_sl h + 2 + 66 + 3 + (2 + 64 + 8) + 3 := by rw [am_sl_app, s5]; rfl
  have na5 : (h5 ++ [(.inr (4, [.null, .null, .int 0]) : va_E)])[h.length + 6]? = some (.inr (4, [.null, .null, .int 0])) := by rw [← l5]; exact am_an
  refine g_i2 (pc := 41) (M' := mt_R_init) dc_T_init_41 mo_R_init im_R_init rfl rfl ln_T_22 (Nat.le_of_ble_eq_true rfl) (Nat.le_of_ble_eq_true rfl) (am_G.mono (c_R_init (d := d) (a := h.length + 6) (n := 64) (m := 8) na5 (by decide) (by decide)) ?_)
  intro r h6 hq
  obtain ⟨q1, ⟨m1, m2, m3⟩, m4, m5, m6, m7⟩ := hq
  rw [q1]
  clear q1 r
  rw [la5] at m1 m2 m4 m5 m6 m7
  rw [sa5] at m3
  refine ⟨am_nt0, ?_⟩
  have e6 : h6[a]? = some (.inr (11, [.ref h.length, .ref (h.length + 2), .null]) : va_E) := by rw [m2 a (by omega) (by omega), app_k (by omega)]; exact e5
  have u6 : ∀ k, k < h.length + 6 → ¬ k = a → h6[k]? = h5[k]? := fun k hk hne => by rw [m2 k (by omega) (by omega), app_k (by omega)]
  refine g_putfield (pc := 44) dc_T_init_44 fp_T_init_29 e6 (Nat.le_of_ble_eq_true rfl) rfl rfl ?_
  show am_G X mt_T_init _ 47 _ _ (h6.set a (.inr (11, [.ref h.length, .ref (h.length + 2), .ref (h.length + 6)]) : va_E)) _
  refine g_return dc_T_init_47 rfl ⟨rfl, ⟨?_, fun k hk hne => ?_, ?_⟩, am_se (am_lt e6), ?_, ?_, ?_, ?_, ?_, ?_, ?_, ?_, ?_, ?_⟩
  · rw [List.length_set, m1]
  · rw [set_k hne, u6 k (by omega) hne, f5 k hne, gf k hk hne]
  · rw [am_sl_set _ _ (.inr (11, [.ref h.length, .ref (h.length + 2), .ref (h.length + 6)]) : va_E) _ e6 rfl, m3]
  · rw [set_k (by omega), u6 _ (by omega) (by omega), f5 _ (by omega)]; exact g0
  · rw [set_k (by omega), u6 _ (by omega) (by omega), f5 _ (by omega)]; exact g1
  · rw [set_k (by omega), u6 _ (by omega) (by omega)]; exact m41
  · rw [set_k (by omega), u6 _ (by omega) (by omega)]; exact m51
  · rw [set_k (by omega), u6 _ (by omega) (by omega)]; exact m61
  · rw [set_k (by omega), u6 _ (by omega) (by omega)]; exact m71
  · rw [set_k (by omega)]; exact m4
  · rw [set_k (by omega)]; exact m5
  · rw [set_k (by omega)]; exact m6
  · rw [set_k (by omega)]; exact m7
end C3A
