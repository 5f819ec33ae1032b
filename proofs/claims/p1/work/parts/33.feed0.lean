/-- twenty bytes -/
def up20 (g : Nat → Int32) (n : Nat) (p1 p2 p3 p4 p5 : Int32) : Nat → Int32 := up4 (up4 (up4 (up4 (up4 g n p1) (n + 4) p2) (n + 8) p3) (n + 12) p4) (n + 16) p5
theorem am_same : ∀ {h : List va_E} {k : Nat} {e : va_E}, h[k]? = some e → h.set k e = h
  | [], _, _, hk => by cases hk
  | x :: t, 0, e, hk => by
    have h9 : x = e := Option.some.inj hk
    rw [h9]
    rfl
  | x :: t, k + 1, e, hk => by
    show x :: t.set k e = x :: t
    rw [am_same (h := t) (k := k) (e := e) hk]
theorem am_sameV : ∀ {h : List Value} {k : Nat} {e : Value}, h[k]? = some e → h.set k e = h
  | [], _, _, hk => by cases hk
  | x :: t, 0, e, hk => by
    have h9 : x = e := Option.some.inj hk
    rw [h9]
    rfl
  | x :: t, k + 1, e, hk => by
    show x :: t.set k e = x :: t
    rw [am_sameV (h := t) (k := k) (e := e) hk]
theorem hB_is {h : List va_E} {a b cap n : Nat} {g : Nat → Int32} (ha : h[a]? = some (.inr (1, [.ref b, .int (nI n)]))) (hb : h[b]? = some (.inl (0, cap, .inl g))) : hB h a b cap g n = h := by
  unfold hB
  rw [am_same hb, am_same ha]
theorem hC_is {h : List va_E} {a c n : Nat} {fs : List Value} {g : Nat → Int32} (ha : h[a]? = some (.inr (12, fs))) (h1 : fs[1]? = some (.int (nI n))) (hc : h[c]? = some (.inl (0, 8020, .inl g))) : hC h a c fs g n = h := by
  unfold hC
  rw [am_same hc, am_sameV h1, am_same ha]
section AMF2
variable {X : am_X} {d : Nat} {h : List va_E} {x a b c cap n m : Nat} {fs : List Value} {g g' : Nat → Int32} {v1 v2 v3 v4 v5 : Int32} {Q : Option Value → List va_E → Prop}
theorem c_W_feed0 (hx : h[x]? = some (.inr (0, fs))) (hf : fs[0]? = some (.ref a)) (hxa : a ≠ x) (hxb : b ≠ x) (hab : a ≠ b) (ha : a < h.length) (hb : b < h.length) (hn : n + 20 ≤ cap) (hm : n + 20 ≤ 8000) (hcap : cap < 2 ^ 31) (hq : Q none (hB h a b cap (up20 g n v1 v2 v3 v4 v5) (n + 20))) :
    am_C X mt_W_feed (d + 2) [.ref x, .int v1, .int v2, .int v3, .int v4, .int v5] (hB h a b cap g n) Q := by
  show am_G X mt_W_feed (d + 2) 0 [some (.ref x), some (.int v1), some (.int v2), some (.int v3), some (.int v4), some (.int v5)] [] _ _
  refine g_aload_n (pc := 0) dc_W_feed_0 rfl ?_
  refine g_getfield (pc := 1) dc_W_feed_1 fl_W_12 (hB_k hxa hxb hx) hf ?_
  refine g_getfield (pc := 4) dc_W_feed_4 fl_W_85 (hB_a ha) rfl ?_
  refine g_bipush (pc := 7) (v := 20) dc_W_feed_7 rfl ?_
  refine g_iadd (pc := 9) dc_W_feed_9 (nI_add n 20) ?_
  refine g_sipush (pc := 10) (v := 8000) dc_W_feed_10 rfl ?_
  refine g_icmp_le (pc := 13) (tgt := 24) dc_W_feed_13 rfl (fun _ => ?_) (fun hc9 => absurd (nI_le (a := n + 20) (b := 8000) hm (by decide)) hc9)
  refine g_aload_n (pc := 24) dc_W_feed_24 rfl ?_
  refine g_getfield (pc := 25) dc_W_feed_25 fl_W_12 (hB_k hxa hxb hx) hf ?_
  refine g_iload_n (pc := 28) dc_W_feed_28 rfl ?_
  refine g_virtual (pc := 29) (M' := mt_B_putInt) (vs := [.int v1]) (rest := []) dc_W_feed_29 mo_B_putInt im_B_putInt se_B_putInt ln_W_92 (hB_a ha) rfl rfl rfl (Nat.le_of_ble_eq_true rfl) (by decide) (c_B_putInt0 hab ha hb (by omega) hcap) ?_
  rintro r h1 ⟨rfl, rfl⟩
  refine ⟨am_nt0, ?_⟩
  refine g_aload_n (pc := 32) dc_W_feed_32 rfl ?_
  refine g_getfield (pc := 33) dc_W_feed_33 fl_W_12 (hB_k hxa hxb hx) hf ?_
  refine g_iload_n (pc := 36) dc_W_feed_36 rfl ?_
  refine g_virtual (pc := 37) (M' := mt_B_putInt) (vs := [.int v2]) (rest := []) dc_W_feed_37 mo_B_putInt im_B_putInt se_B_putInt ln_W_92 (hB_a ha) rfl rfl rfl (Nat.le_of_ble_eq_true rfl) (by decide) (c_B_putInt0 hab ha hb (by omega) hcap) ?_
  rintro r h1 ⟨rfl, rfl⟩
  refine ⟨am_nt0, ?_⟩
  refine g_aload_n (pc := 40) dc_W_feed_40 rfl ?_
  refine g_getfield (pc := 41) dc_W_feed_41 fl_W_12 (hB_k hxa hxb hx) hf ?_
  refine g_iload_n (pc := 44) dc_W_feed_44 rfl ?_
  refine g_virtual (pc := 45) (M' := mt_B_putInt) (vs := [.int v3]) (rest := []) dc_W_feed_45 mo_B_putInt im_B_putInt se_B_putInt ln_W_92 (hB_a ha) rfl rfl rfl (Nat.le_of_ble_eq_true rfl) (by decide) (c_B_putInt0 hab ha hb (by omega) hcap) ?_
  rintro r h1 ⟨rfl, rfl⟩
  refine ⟨am_nt0, ?_⟩
  refine g_aload_n (pc := 48) dc_W_feed_48 rfl ?_
  refine g_getfield (pc := 49) dc_W_feed_49 fl_W_12 (hB_k hxa hxb hx) hf ?_
  refine g_iload (pc := 52) dc_W_feed_52 rfl ?_
  refine g_virtual (pc := 54) (M' := mt_B_putInt) (vs := [.int v4]) (rest := []) dc_W_feed_54 mo_B_putInt im_B_putInt se_B_putInt ln_W_92 (hB_a ha) rfl rfl rfl (Nat.le_of_ble_eq_true rfl) (by decide) (c_B_putInt0 hab ha hb (by omega) hcap) ?_
  rintro r h1 ⟨rfl, rfl⟩
  refine ⟨am_nt0, ?_⟩
  refine g_aload_n (pc := 57) dc_W_feed_57 rfl ?_
  refine g_getfield (pc := 58) dc_W_feed_58 fl_W_12 (hB_k hxa hxb hx) hf ?_
  refine g_iload (pc := 61) dc_W_feed_61 rfl ?_
  refine g_virtual (pc := 63) (M' := mt_B_putInt) (vs := [.int v5]) (rest := []) dc_W_feed_63 mo_B_putInt im_B_putInt se_B_putInt ln_W_92 (hB_a ha) rfl rfl rfl (Nat.le_of_ble_eq_true rfl) (by decide) (c_B_putInt0 hab ha hb (by omega) hcap) ?_
  rintro r h1 ⟨rfl, rfl⟩
  refine ⟨am_nt0, ?_⟩
  exact g_return dc_W_feed_66 rfl hq
theorem hC_s2 {v : Value} : (hC h a c fs g n).set a (.inr (12, (fs.set 1 (.int (nI n))).set 2 v)) = hC h a c (fs.set 2 v) g n := by
  unfold hC
  rw [List.set_set, List.set_comm _ _ (by decide : (2 : Nat) ≠ 1)]
theorem fs_2 {v w : Value} (hf : fs.length = 90) : ((fs.set 2 v).set 1 w)[2]? = some v := by
  rw [List.getElem?_set_ne (by decide)]
  exact List.getElem?_set_self (by omega)
theorem c_M_feed0 (hac : a ≠ c) (ha : a < h.length) (hc : c < h.length) (hf : fs.length = 90) (h0 : fs[0]? = some (.ref c)) (hm : n + 20 ≤ 8000) :
    am_C X mt_M_feed (d + 1) [.ref a, .int v1, .int v2, .int v3, .int v4, .int v5] (hC h a c fs g n) (fun r h' => r = none ∧ h' = hC h a c (fs.set 2 (.int 0)) (up20 g n v1 v2 v3 v4 v5) (n + 20)) := by
  show am_G X mt_M_feed (d + 1) 0 [some (.ref a), some (.int v1), some (.int v2), some (.int v3), some (.int v4), some (.int v5)] [] _ _
  refine g_aload_n (pc := 0) dc_M_feed_0 rfl ?_
  refine g_aload_n (pc := 1) dc_M_feed_1 rfl ?_
  refine g_getfield (pc := 2) dc_M_feed_2 fl_M_493 (hC_a ha) (fs_1 hf) ?_
  refine g_bipush (pc := 5) (v := 20) dc_M_feed_5 rfl ?_
  refine g_iadd (pc := 7) dc_M_feed_7 (nI_add n 20) ?_
  refine g_sipush (pc := 8) (v := 8000) dc_M_feed_8 rfl ?_
  refine g_icmp_le (pc := 11) (tgt := 18) dc_M_feed_11 rfl (fun _ => ?_) (fun hc9 => absurd (nI_le (a := n + 20) (b := 8000) hm (by decide)) hc9)
  refine g_iconst (pc := 18) (v := 0) dc_M_feed_18 rfl ?_
  refine g_putfield (pc := 19) dc_M_feed_19 fp_M_feed_1 (hC_a ha) (by rw [List.length_set, hf]; decide) rfl rfl ?_
  rw [hC_s2]
  have hf' : (fs.set 2 (.int 0)).length = 90 := by rw [List.length_set]; exact hf
  have h0' : (fs.set 2 (.int 0))[0]? = some (.ref c) := (List.getElem?_set_ne (by decide)).trans h0
  refine g_aload_n (pc := 22) dc_M_feed_22 rfl ?_
  refine g_getfield (pc := 23) dc_M_feed_23 fl_M_1 (hC_a ha) (fs_2 hf) ?_
  refine g_if_ne (pc := 26) (tgt := 56) dc_M_feed_26 rfl (fun hc9 => absurd rfl hc9) (fun _ => ?_)
  refine g_aload_n (pc := 29) dc_M_feed_29 rfl ?_
  refine g_iload_n (pc := 30) dc_M_feed_30 rfl ?_
  refine g_virtual (pc := 31) (M' := mt_M_take4) (vs := [.int v1]) (rest := []) dc_M_feed_31 mo_M_take4 im_M_take4 se_M_take4 ln_M_496 (hC_a ha) rfl rfl rfl (Nat.le_of_ble_eq_true rfl) (by decide) (c_M_take4 hac ha hc hf' h0' (by omega)) ?_
  rintro r h1 ⟨rfl, rfl⟩
  refine ⟨am_nt0, ?_⟩
  refine g_aload_n (pc := 34) dc_M_feed_34 rfl ?_
  refine g_iload_n (pc := 35) dc_M_feed_35 rfl ?_
  refine g_virtual (pc := 36) (M' := mt_M_take4) (vs := [.int v2]) (rest := []) dc_M_feed_36 mo_M_take4 im_M_take4 se_M_take4 ln_M_496 (hC_a ha) rfl rfl rfl (Nat.le_of_ble_eq_true rfl) (by decide) (c_M_take4 hac ha hc hf' h0' (by omega)) ?_
  rintro r h1 ⟨rfl, rfl⟩
  refine ⟨am_nt0, ?_⟩
  refine g_aload_n (pc := 39) dc_M_feed_39 rfl ?_
  refine g_iload_n (pc := 40) dc_M_feed_40 rfl ?_
  refine g_virtual (pc := 41) (M' := mt_M_take4) (vs := [.int v3]) (rest := []) dc_M_feed_41 mo_M_take4 im_M_take4 se_M_take4 ln_M_496 (hC_a ha) rfl rfl rfl (Nat.le_of_ble_eq_true rfl) (by decide) (c_M_take4 hac ha hc hf' h0' (by omega)) ?_
  rintro r h1 ⟨rfl, rfl⟩
  refine ⟨am_nt0, ?_⟩
  refine g_aload_n (pc := 44) dc_M_feed_44 rfl ?_
  refine g_iload (pc := 45) dc_M_feed_45 rfl ?_
  refine g_virtual (pc := 47) (M' := mt_M_take4) (vs := [.int v4]) (rest := []) dc_M_feed_47 mo_M_take4 im_M_take4 se_M_take4 ln_M_496 (hC_a ha) rfl rfl rfl (Nat.le_of_ble_eq_true rfl) (by decide) (c_M_take4 hac ha hc hf' h0' (by omega)) ?_
  rintro r h1 ⟨rfl, rfl⟩
  refine ⟨am_nt0, ?_⟩
  refine g_aload_n (pc := 50) dc_M_feed_50 rfl ?_
  refine g_iload (pc := 51) dc_M_feed_51 rfl ?_
  refine g_virtual (pc := 53) (M' := mt_M_take4) (vs := [.int v5]) (rest := []) dc_M_feed_53 mo_M_take4 im_M_take4 se_M_take4 ln_M_496 (hC_a ha) rfl rfl rfl (Nat.le_of_ble_eq_true rfl) (by decide) (c_M_take4 hac ha hc hf' h0' (by omega)) ?_
  rintro r h1 ⟨rfl, rfl⟩
  refine ⟨am_nt0, ?_⟩
  exact g_return dc_M_feed_56 rfl ⟨rfl, rfl⟩
end AMF2
theorem am_bB {h : List va_E} {a b cap n : Nat} {g : Nat → Int32} {c N : Nat} (hn : cap.ble 20000 = true) (k : am_sl h + (c + 20000 + 20000) ≤ N) : am_sl (hB h a b cap g n) + c ≤ N := by
  unfold hB
  exact am_bw rfl (am_bw hn k)
theorem am_bC {h : List va_E} {a b n : Nat} {fs : List Value} {g : Nat → Int32} {c N : Nat} (hn : fs.length.ble 20000 = true) (k : am_sl h + (c + 20000 + 20000) ≤ N) : am_sl (hC h a b fs g n) + c ≤ N := by
  unfold hC
  exact am_bw (by show ((fs.set 1 (.int (nI n))).length).ble 20000 = true; rw [List.length_set]; exact hn) (am_bw rfl k)
