/-! ===== the model's copying: append, show, tell ===== -/
section MCP
variable {X : am_X} {d k m0 : Nat} {A B : List va_E} {S : MS} {T : List (List Int32)} {D R : List Int32}
theorem v_M_append_host {Q : Option Value → List va_E → Prop} (hA : A.length = 84) (hR : tx S.host 0 R) (hb : ∀ j, bt (gx R j)) (hl : R.length ≤ 80) (hm : m0 + R.length ≤ 200) : ∀ n i : Nat, i + n = R.length → am_G X mt_M_append d 2 [some (.ref 84), some (.ref 91), some (.int (nI R.length)), some (.int (nI R.length))] [] (mput A ((S.s_made (wrt S.made m0 R)).s_madeLength (m0 + R.length)) B) Q → am_G X mt_M_append d 2 [some (.ref 84), some (.ref 91), some (.int (nI R.length)), some (.int (nI i))] [] (mput A ((S.s_made (wrt S.made m0 (sub R 0 i))).s_madeLength (m0 + i)) B) Q
  | 0, i, e, K => by
    obtain rfl : i = R.length := by omega
    rw [sub_all rfl]
    exact K
  | n + 1, i, e, K => by
    refine g_iload_n (pc := 2) dc_M_append_2 rfl ?_
    refine g_iload_n (pc := 3) dc_M_append_3 rfl ?_
    refine q_icmp_ge (pc := 4) (tgt := 35) i R.length dc_M_append_4 (by omega) (by omega) rfl (fun hc => absurd hc (by omega)) (fun hc4 => ?_)
    refine g_aload_n (pc := 7) dc_M_append_7 rfl ?_
    refine g_getfield (pc := 8) dc_M_append_8 fl_M_45 (mp_o hA) rfl ?_
    refine g_aload_n (pc := 11) dc_M_append_11 rfl ?_
    refine g_getfield (pc := 12) dc_M_append_12 fl_M_38 (mp_o hA) rfl ?_
    refine g_aload_n (pc := 15) dc_M_append_15 rfl ?_
    refine g_iload_n (pc := 16) dc_M_append_16 rfl ?_
    refine q_tx0 (pc := 17) i dc_M_append_17 (mp_a hA 7 rfl) hR (by omega) (by omega) (by omega) ?_
    refine asE_made (pc := 18) (m0 + i) (g := wrt S.made m0 (sub R 0 (i + 1))) hA dc_M_append_18 (by omega) (wrt_cp (by omega) hb) ?_
    refine g_aload_n (pc := 19) dc_M_append_19 rfl ?_
    refine g_dup (pc := 20) dc_M_append_20 rfl ?_
    refine g_getfield (pc := 21) dc_M_append_21 fl_M_38 (mp_o hA) rfl ?_
    refine g_iconst (pc := 24) (v := 1) dc_M_append_24 rfl ?_
    refine g_iadd (pc := 25) (v := (nI (m0 + (i + 1)))) dc_M_append_25 (nI_add (m0 + i) 1) ?_
    refine pf_madeLength (pc := 26) (v := m0 + (i + 1)) hA dc_M_append_26 fp_M_append_38 ?_
    refine g_iinc (pc := 29) (v := (nI (i + 1))) dc_M_append_29 rfl (nI_add i 1) (by decide) ?_
    refine g_goto (pc := 32) (tgt := 2) dc_M_append_32 rfl ?_
    exact v_M_append_host hA hR hb hl hm n (i + 1) (by omega) K
theorem c_M_append_host (hA : A.length = 84) (hR : tx S.host 0 R) (hb : ∀ j, bt (gx R j)) (hl : R.length ≤ 80) (hm : m0 + R.length ≤ 200) (h0 : S.madeLength = m0) : am_C X mt_M_append d [.ref 84, .ref 91, .int (nI R.length)] (mput A S B) (fun r h1 => r = none ∧ h1 = mput A ((S.s_made (wrt S.made m0 R)).s_madeLength (m0 + R.length)) B) := by
  subst h0
  show am_G X mt_M_append d 0 [some (.ref 84), some (.ref 91), some (.int (nI R.length)), none] [] (mput A S B) _
  have hK := v_M_append_host (X := X) (d := d) (B := B) (Q := fun r h1 => r = none ∧ h1 = mput A ((S.s_made (wrt S.made S.madeLength R)).s_madeLength (S.madeLength + R.length)) B) hA hR hb hl hm R.length 0 (by omega) (by
    refine g_iload_n (pc := 2) dc_M_append_2 rfl ?_
    refine g_iload_n (pc := 3) dc_M_append_3 rfl ?_
    refine q_icmp_ge (pc := 4) (tgt := 35) R.length R.length dc_M_append_4 (by omega) (by omega) rfl (fun hc4 => ?_) (fun hc => absurd hc (by omega))
    exact g_return dc_M_append_35 rfl ⟨rfl, rfl⟩)
  rw [sub_nil (Nat.le_refl 0), wrt_nil, Nat.add_zero] at hK
  refine g_iconst (pc := 0) (v := 0) dc_M_append_0 rfl ?_
  refine g_istore_n (pc := 1) dc_M_append_1 (by decide) ?_
  exact hK
theorem v_M_append_neat {Q : Option Value → List va_E → Prop} (hA : A.length = 84) (hR : tx S.neat 0 R) (hb : ∀ j, bt (gx R j)) (hl : R.length ≤ 8400) (hm : m0 + R.length ≤ 200) : ∀ n i : Nat, i + n = R.length → am_G X mt_M_append d 2 [some (.ref 84), some (.ref 94), some (.int (nI R.length)), some (.int (nI R.length))] [] (mput A ((S.s_made (wrt S.made m0 R)).s_madeLength (m0 + R.length)) B) Q → am_G X mt_M_append d 2 [some (.ref 84), some (.ref 94), some (.int (nI R.length)), some (.int (nI i))] [] (mput A ((S.s_made (wrt S.made m0 (sub R 0 i))).s_madeLength (m0 + i)) B) Q
  | 0, i, e, K => by
    obtain rfl : i = R.length := by omega
    rw [sub_all rfl]
    exact K
  | n + 1, i, e, K => by
    refine g_iload_n (pc := 2) dc_M_append_2 rfl ?_
    refine g_iload_n (pc := 3) dc_M_append_3 rfl ?_
    refine q_icmp_ge (pc := 4) (tgt := 35) i R.length dc_M_append_4 (by omega) (by omega) rfl (fun hc => absurd hc (by omega)) (fun hc4 => ?_)
    refine g_aload_n (pc := 7) dc_M_append_7 rfl ?_
    refine g_getfield (pc := 8) dc_M_append_8 fl_M_45 (mp_o hA) rfl ?_
    refine g_aload_n (pc := 11) dc_M_append_11 rfl ?_
    refine g_getfield (pc := 12) dc_M_append_12 fl_M_38 (mp_o hA) rfl ?_
    refine g_aload_n (pc := 15) dc_M_append_15 rfl ?_
    refine g_iload_n (pc := 16) dc_M_append_16 rfl ?_
    refine q_tx0 (pc := 17) i dc_M_append_17 (mp_a hA 10 rfl) hR (by omega) (by omega) (by omega) ?_
    refine asE_made (pc := 18) (m0 + i) (g := wrt S.made m0 (sub R 0 (i + 1))) hA dc_M_append_18 (by omega) (wrt_cp (by omega) hb) ?_
    refine g_aload_n (pc := 19) dc_M_append_19 rfl ?_
    refine g_dup (pc := 20) dc_M_append_20 rfl ?_
    refine g_getfield (pc := 21) dc_M_append_21 fl_M_38 (mp_o hA) rfl ?_
    refine g_iconst (pc := 24) (v := 1) dc_M_append_24 rfl ?_
    refine g_iadd (pc := 25) (v := (nI (m0 + (i + 1)))) dc_M_append_25 (nI_add (m0 + i) 1) ?_
    refine pf_madeLength (pc := 26) (v := m0 + (i + 1)) hA dc_M_append_26 fp_M_append_38 ?_
    refine g_iinc (pc := 29) (v := (nI (i + 1))) dc_M_append_29 rfl (nI_add i 1) (by decide) ?_
    refine g_goto (pc := 32) (tgt := 2) dc_M_append_32 rfl ?_
    exact v_M_append_neat hA hR hb hl hm n (i + 1) (by omega) K
theorem c_M_append_neat (hA : A.length = 84) (hR : tx S.neat 0 R) (hb : ∀ j, bt (gx R j)) (hl : R.length ≤ 8400) (hm : m0 + R.length ≤ 200) (h0 : S.madeLength = m0) : am_C X mt_M_append d [.ref 84, .ref 94, .int (nI R.length)] (mput A S B) (fun r h1 => r = none ∧ h1 = mput A ((S.s_made (wrt S.made m0 R)).s_madeLength (m0 + R.length)) B) := by
  subst h0
  show am_G X mt_M_append d 0 [some (.ref 84), some (.ref 94), some (.int (nI R.length)), none] [] (mput A S B) _
  have hK := v_M_append_neat (X := X) (d := d) (B := B) (Q := fun r h1 => r = none ∧ h1 = mput A ((S.s_made (wrt S.made S.madeLength R)).s_madeLength (S.madeLength + R.length)) B) hA hR hb hl hm R.length 0 (by omega) (by
    refine g_iload_n (pc := 2) dc_M_append_2 rfl ?_
    refine g_iload_n (pc := 3) dc_M_append_3 rfl ?_
    refine q_icmp_ge (pc := 4) (tgt := 35) R.length R.length dc_M_append_4 (by omega) (by omega) rfl (fun hc4 => ?_) (fun hc => absurd hc (by omega))
    exact g_return dc_M_append_35 rfl ⟨rfl, rfl⟩)
  rw [sub_nil (Nat.le_refl 0), wrt_nil, Nat.add_zero] at hK
  refine g_iconst (pc := 0) (v := 0) dc_M_append_0 rfl ?_
  refine g_istore_n (pc := 1) dc_M_append_1 (by decide) ?_
  exact hK
theorem v_M_append_query {Q : Option Value → List va_E → Prop} (hA : A.length = 84) (hR : tx S.query 0 R) (hb : ∀ j, bt (gx R j)) (hl : R.length ≤ 8400) (hm : m0 + R.length ≤ 200) : ∀ n i : Nat, i + n = R.length → am_G X mt_M_append d 2 [some (.ref 84), some (.ref 93), some (.int (nI R.length)), some (.int (nI R.length))] [] (mput A ((S.s_made (wrt S.made m0 R)).s_madeLength (m0 + R.length)) B) Q → am_G X mt_M_append d 2 [some (.ref 84), some (.ref 93), some (.int (nI R.length)), some (.int (nI i))] [] (mput A ((S.s_made (wrt S.made m0 (sub R 0 i))).s_madeLength (m0 + i)) B) Q
  | 0, i, e, K => by
    obtain rfl : i = R.length := by omega
    rw [sub_all rfl]
    exact K
  | n + 1, i, e, K => by
    refine g_iload_n (pc := 2) dc_M_append_2 rfl ?_
    refine g_iload_n (pc := 3) dc_M_append_3 rfl ?_
    refine q_icmp_ge (pc := 4) (tgt := 35) i R.length dc_M_append_4 (by omega) (by omega) rfl (fun hc => absurd hc (by omega)) (fun hc4 => ?_)
    refine g_aload_n (pc := 7) dc_M_append_7 rfl ?_
    refine g_getfield (pc := 8) dc_M_append_8 fl_M_45 (mp_o hA) rfl ?_
    refine g_aload_n (pc := 11) dc_M_append_11 rfl ?_
    refine g_getfield (pc := 12) dc_M_append_12 fl_M_38 (mp_o hA) rfl ?_
    refine g_aload_n (pc := 15) dc_M_append_15 rfl ?_
    refine g_iload_n (pc := 16) dc_M_append_16 rfl ?_
    refine q_tx0 (pc := 17) i dc_M_append_17 (mp_a hA 9 rfl) hR (by omega) (by omega) (by omega) ?_
    refine asE_made (pc := 18) (m0 + i) (g := wrt S.made m0 (sub R 0 (i + 1))) hA dc_M_append_18 (by omega) (wrt_cp (by omega) hb) ?_
    refine g_aload_n (pc := 19) dc_M_append_19 rfl ?_
    refine g_dup (pc := 20) dc_M_append_20 rfl ?_
    refine g_getfield (pc := 21) dc_M_append_21 fl_M_38 (mp_o hA) rfl ?_
    refine g_iconst (pc := 24) (v := 1) dc_M_append_24 rfl ?_
    refine g_iadd (pc := 25) (v := (nI (m0 + (i + 1)))) dc_M_append_25 (nI_add (m0 + i) 1) ?_
    refine pf_madeLength (pc := 26) (v := m0 + (i + 1)) hA dc_M_append_26 fp_M_append_38 ?_
    refine g_iinc (pc := 29) (v := (nI (i + 1))) dc_M_append_29 rfl (nI_add i 1) (by decide) ?_
    refine g_goto (pc := 32) (tgt := 2) dc_M_append_32 rfl ?_
    exact v_M_append_query hA hR hb hl hm n (i + 1) (by omega) K
theorem c_M_append_query (hA : A.length = 84) (hR : tx S.query 0 R) (hb : ∀ j, bt (gx R j)) (hl : R.length ≤ 8400) (hm : m0 + R.length ≤ 200) (h0 : S.madeLength = m0) : am_C X mt_M_append d [.ref 84, .ref 93, .int (nI R.length)] (mput A S B) (fun r h1 => r = none ∧ h1 = mput A ((S.s_made (wrt S.made m0 R)).s_madeLength (m0 + R.length)) B) := by
  subst h0
  show am_G X mt_M_append d 0 [some (.ref 84), some (.ref 93), some (.int (nI R.length)), none] [] (mput A S B) _
  have hK := v_M_append_query (X := X) (d := d) (B := B) (Q := fun r h1 => r = none ∧ h1 = mput A ((S.s_made (wrt S.made S.madeLength R)).s_madeLength (S.madeLength + R.length)) B) hA hR hb hl hm R.length 0 (by omega) (by
    refine g_iload_n (pc := 2) dc_M_append_2 rfl ?_
    refine g_iload_n (pc := 3) dc_M_append_3 rfl ?_
    refine q_icmp_ge (pc := 4) (tgt := 35) R.length R.length dc_M_append_4 (by omega) (by omega) rfl (fun hc4 => ?_) (fun hc => absurd hc (by omega))
    exact g_return dc_M_append_35 rfl ⟨rfl, rfl⟩)
  rw [sub_nil (Nat.le_refl 0), wrt_nil, Nat.add_zero] at hK
  refine g_iconst (pc := 0) (v := 0) dc_M_append_0 rfl ?_
  refine g_istore_n (pc := 1) dc_M_append_1 (by decide) ?_
  exact hK
theorem v_M_show_made {Q : Option Value → List va_E → Prop} (hA : A.length = 84) (hx : tx S.made 0 D) (hl : D.length ≤ 200) (hb : ∀ j, bt (gx D j)) (h2 : D.length ≤ 20000) : ∀ n i : Nat, i + n = D.length → am_G X mt_M_show d 8 [some (.ref 84), some (.ref 90), some (.int (nI 0)), some (.int (nI D.length)), some (.int (nI D.length))] [] (mput A ((S.s_productSize D.length).s_product (wrt S.product 0 D)) B) Q → am_G X mt_M_show d 8 [some (.ref 84), some (.ref 90), some (.int (nI 0)), some (.int (nI D.length)), some (.int (nI i))] [] (mput A ((S.s_productSize D.length).s_product (wrt S.product 0 (sub D 0 i))) B) Q
  | 0, i, e, K => by
    obtain rfl : i = D.length := by omega
    rw [sub_all rfl]
    exact K
  | n + 1, i, e, K => by
    have hw := wrt_cp (g := S.product) (n := 0) (i := i) (D := D) (by omega) hb
    rw [Nat.zero_add] at hw
    refine g_iload (pc := 8) dc_M_show_8 rfl ?_
    refine g_iload_n (pc := 10) dc_M_show_10 rfl ?_
    refine q_icmp_ge (pc := 11) (tgt := 33) i D.length dc_M_show_11 (by omega) (by omega) rfl (fun hc => absurd hc (by omega)) (fun hc11 => ?_)
    refine g_aload_n (pc := 14) dc_M_show_14 rfl ?_
    refine g_getfield (pc := 15) dc_M_show_15 fl_M_337 (mp_o hA) rfl ?_
    refine g_iload (pc := 18) dc_M_show_18 rfl ?_
    refine g_aload_n (pc := 20) dc_M_show_20 rfl ?_
    refine g_iload_n (pc := 21) dc_M_show_21 rfl ?_
    refine g_iload (pc := 22) dc_M_show_22 rfl ?_
    refine g_iadd (pc := 24) (v := (nI i)) dc_M_show_24 (by show nI 0 + nI i = nI i; rw [nI_add, Nat.zero_add]) ?_
    refine q_tx0 (pc := 25) i dc_M_show_25 (mp_a hA 6 rfl) hx (by omega) (by omega) (by omega) ?_
    refine asE_product (pc := 26) i (g := wrt S.product 0 (sub D 0 (i + 1))) hA dc_M_show_26 (by omega) (hw) ?_
    rw [MS.ss_product]
    refine g_iinc (pc := 27) (v := (nI (i + 1))) dc_M_show_27 rfl (nI_add i 1) (by decide) ?_
    refine g_goto (pc := 30) (tgt := 8) dc_M_show_30 rfl ?_
    exact v_M_show_made hA hx hl hb h2 n (i + 1) (by omega) K
theorem c_M_show_made (hA : A.length = 84) (hx : tx S.made 0 D) (hl : D.length ≤ 200) (hb : ∀ j, bt (gx D j)) (h2 : D.length ≤ 20000) : am_C X mt_M_show d [.ref 84, .ref 90, .int (nI 0), .int (nI D.length)] (mput A S B) (fun r h1 => r = some (.int (nI D.length)) ∧ h1 = mput A ((S.s_productSize D.length).s_product (wrt S.product 0 D)) B) := by
  show am_G X mt_M_show d 0 [some (.ref 84), some (.ref 90), some (.int (nI 0)), some (.int (nI D.length)), none] [] (mput A S B) _
  have hK := v_M_show_made (X := X) (d := d) (B := B) (Q := fun r h1 => r = some (.int (nI D.length)) ∧ h1 = mput A ((S.s_productSize D.length).s_product (wrt S.product 0 D)) B) hA hx hl hb h2 D.length 0 (by omega) (by
    refine g_iload (pc := 8) dc_M_show_8 rfl ?_
    refine g_iload_n (pc := 10) dc_M_show_10 rfl ?_
    refine q_icmp_ge (pc := 11) (tgt := 33) D.length D.length dc_M_show_11 (by omega) (by omega) rfl (fun hc11 => ?_) (fun hc => absurd hc (by omega))
    refine g_iload_n (pc := 33) dc_M_show_33 rfl ?_
    exact g_ireturn dc_M_show_34 rfl ⟨rfl, rfl⟩)
  rw [sub_nil (Nat.le_refl 0), wrt_nil] at hK
  refine g_aload_n (pc := 0) dc_M_show_0 rfl ?_
  refine g_iload_n (pc := 1) dc_M_show_1 rfl ?_
  refine pf_productSize (pc := 2) (v := D.length) hA dc_M_show_2 fp_M_show_499 ?_
  refine g_iconst (pc := 5) (v := 0) dc_M_show_5 rfl ?_
  refine g_istore (pc := 6) dc_M_show_6 (by decide) ?_
  exact hK
theorem v_M_show_addr {Q : Option Value → List va_E → Prop} {p0 : Nat} (hA : A.length = 84) (hx : tx S.addresses p0 D) (hl : p0 + D.length ≤ 700000) (hb : ∀ j, bt (gx D j)) (h2 : D.length ≤ 20000) : ∀ n i : Nat, i + n = D.length → am_G X mt_M_show d 8 [some (.ref 84), some (.ref 87), some (.int (nI p0)), some (.int (nI D.length)), some (.int (nI D.length))] [] (mput A ((S.s_productSize D.length).s_product (wrt S.product 0 D)) B) Q → am_G X mt_M_show d 8 [some (.ref 84), some (.ref 87), some (.int (nI p0)), some (.int (nI D.length)), some (.int (nI i))] [] (mput A ((S.s_productSize D.length).s_product (wrt S.product 0 (sub D 0 i))) B) Q
  | 0, i, e, K => by
    obtain rfl : i = D.length := by omega
    rw [sub_all rfl]
    exact K
  | n + 1, i, e, K => by
    have hw := wrt_cp (g := S.product) (n := 0) (i := i) (D := D) (by omega) hb
    rw [Nat.zero_add] at hw
    refine g_iload (pc := 8) dc_M_show_8 rfl ?_
    refine g_iload_n (pc := 10) dc_M_show_10 rfl ?_
    refine q_icmp_ge (pc := 11) (tgt := 33) i D.length dc_M_show_11 (by omega) (by omega) rfl (fun hc => absurd hc (by omega)) (fun hc11 => ?_)
    refine g_aload_n (pc := 14) dc_M_show_14 rfl ?_
    refine g_getfield (pc := 15) dc_M_show_15 fl_M_337 (mp_o hA) rfl ?_
    refine g_iload (pc := 18) dc_M_show_18 rfl ?_
    refine g_aload_n (pc := 20) dc_M_show_20 rfl ?_
    refine g_iload_n (pc := 21) dc_M_show_21 rfl ?_
    refine g_iload (pc := 22) dc_M_show_22 rfl ?_
    refine g_iadd (pc := 24) (v := (nI (p0 + i))) dc_M_show_24 (nI_add p0 i) ?_
    refine q_tx (pc := 25) i dc_M_show_25 (mp_a hA 3 rfl) hx (by omega) (by omega) (by omega) ?_
    refine asE_product (pc := 26) i (g := wrt S.product 0 (sub D 0 (i + 1))) hA dc_M_show_26 (by omega) (hw) ?_
    rw [MS.ss_product]
    refine g_iinc (pc := 27) (v := (nI (i + 1))) dc_M_show_27 rfl (nI_add i 1) (by decide) ?_
    refine g_goto (pc := 30) (tgt := 8) dc_M_show_30 rfl ?_
    exact v_M_show_addr hA hx hl hb h2 n (i + 1) (by omega) K
theorem c_M_show_addr {p0 : Nat} (hA : A.length = 84) (hx : tx S.addresses p0 D) (hl : p0 + D.length ≤ 700000) (hb : ∀ j, bt (gx D j)) (h2 : D.length ≤ 20000) : am_C X mt_M_show d [.ref 84, .ref 87, .int (nI p0), .int (nI D.length)] (mput A S B) (fun r h1 => r = some (.int (nI D.length)) ∧ h1 = mput A ((S.s_productSize D.length).s_product (wrt S.product 0 D)) B) := by
  show am_G X mt_M_show d 0 [some (.ref 84), some (.ref 87), some (.int (nI p0)), some (.int (nI D.length)), none] [] (mput A S B) _
  have hK := v_M_show_addr (X := X) (d := d) (B := B) (Q := fun r h1 => r = some (.int (nI D.length)) ∧ h1 = mput A ((S.s_productSize D.length).s_product (wrt S.product 0 D)) B) hA hx hl hb h2 D.length 0 (by omega) (by
    refine g_iload (pc := 8) dc_M_show_8 rfl ?_
    refine g_iload_n (pc := 10) dc_M_show_10 rfl ?_
    refine q_icmp_ge (pc := 11) (tgt := 33) D.length D.length dc_M_show_11 (by omega) (by omega) rfl (fun hc11 => ?_) (fun hc => absurd hc (by omega))
    refine g_iload_n (pc := 33) dc_M_show_33 rfl ?_
    exact g_ireturn dc_M_show_34 rfl ⟨rfl, rfl⟩)
  rw [sub_nil (Nat.le_refl 0), wrt_nil] at hK
  refine g_aload_n (pc := 0) dc_M_show_0 rfl ?_
  refine g_iload_n (pc := 1) dc_M_show_1 rfl ?_
  refine pf_productSize (pc := 2) (v := D.length) hA dc_M_show_2 fp_M_show_499 ?_
  refine g_iconst (pc := 5) (v := 0) dc_M_show_5 rfl ?_
  refine g_istore (pc := 6) dc_M_show_6 (by decide) ?_
  exact hK
/-! texts -/
def rwe (b at_ en : Nat → Int32) (Y : List (List Int32)) : Prop := ∀ k, k < Y.length → at_ k = nI (ofs Y k) ∧ en k = nI (ofs Y (k + 1)) ∧ tx b (ofs Y k) (gT Y k)
def txT (S : MS) (Y : List (List Int32)) : Prop := S.textCount = Y.length ∧ S.textsEnd = ofs Y Y.length ∧ rwe S.texts S.textAt S.textEnd Y ∧ ∀ k, k < Y.length → ∀ j, bt (gx (gT Y k) j)
variable {Y : List (List Int32)} {L : List Int32} {f t : Nat}
theorem v_M_tell {Q : Option Value → List va_E → Prop} (hA : A.length = 84) (hL : tx S.coming 0 L) (hll : L.length ≤ 8020) (ht : t ≤ L.length) (hb : ∀ j, bt (gx (sub L f t) j)) (hr : m0 + (t - f) ≤ 24000) (hf : f ≤ t) {f1 : Nat → Int32} : ∀ n i : Nat, i + n = t - f → am_G X mt_M_tell d 15 [some (.ref 84), some (.int (nI f)), some (.int (nI t)), some (.int (nI t))] [] (mput A (((S.s_textAt f1).s_texts (wrt S.texts m0 (sub L f t))).s_textsEnd (m0 + (t - f))) B) Q → am_G X mt_M_tell d 15 [some (.ref 84), some (.int (nI f)), some (.int (nI t)), some (.int (nI (f + i)))] [] (mput A (((S.s_textAt f1).s_texts (wrt S.texts m0 (sub (sub L f t) 0 i))).s_textsEnd (m0 + i)) B) Q
  | 0, i, e, K => by
    obtain rfl : i = t - f := by omega
    rw [sub_all (by rw [sub_len ht]), show f + (t - f) = t by omega]
    exact K
  | n + 1, i, e, K => by
    have hsl := sub_len (L := L) (f := f) ht
    have hw := wrt_cp (g := S.texts) (n := m0) (i := i) (D := sub L f t) (by omega) hb
    rw [gx_sub (by omega) ht] at hw
    refine g_iload_n (pc := 15) dc_M_tell_15 rfl ?_
    refine g_iload_n (pc := 16) dc_M_tell_16 rfl ?_
    refine q_icmp_ge (pc := 17) (tgt := 51) (f + i) t dc_M_tell_17 (by omega) (by omega) rfl (fun hc => absurd hc (by omega)) (fun hc17 => ?_)
    refine g_aload_n (pc := 20) dc_M_tell_20 rfl ?_
    refine g_getfield (pc := 21) dc_M_tell_21 fl_M_140 (mp_o hA) rfl ?_
    refine g_aload_n (pc := 24) dc_M_tell_24 rfl ?_
    refine g_getfield (pc := 25) dc_M_tell_25 fl_M_137 (mp_o hA) rfl ?_
    refine g_aload_n (pc := 28) dc_M_tell_28 rfl ?_
    refine g_getfield (pc := 29) dc_M_tell_29 fl_M_143 (mp_o hA) rfl ?_
    refine g_iload_n (pc := 32) dc_M_tell_32 rfl ?_
    refine q_tx0 (pc := 33) (f + i) dc_M_tell_33 (mp_a hA 1 rfl) hL (by omega) (by omega) (by omega) ?_
    refine asE_texts (pc := 34) (m0 + i) (g := wrt S.texts m0 (sub (sub L f t) 0 (i + 1))) hA dc_M_tell_34 (by omega) (hw) ?_
    refine g_aload_n (pc := 35) dc_M_tell_35 rfl ?_
    refine g_dup (pc := 36) dc_M_tell_36 rfl ?_
    refine g_getfield (pc := 37) dc_M_tell_37 fl_M_137 (mp_o hA) rfl ?_
    refine g_iconst (pc := 40) (v := 1) dc_M_tell_40 rfl ?_
    refine g_iadd (pc := 41) (v := (nI (m0 + (i + 1)))) dc_M_tell_41 (nI_add (m0 + i) 1) ?_
    refine pf_textsEnd (pc := 42) (v := m0 + (i + 1)) hA dc_M_tell_42 fp_M_tell_137 ?_
    refine g_iinc (pc := 45) (v := (nI (f + (i + 1)))) dc_M_tell_45 rfl (nI_add (f + i) 1) (by decide) ?_
    refine g_goto (pc := 48) (tgt := 15) dc_M_tell_48 rfl ?_
    exact v_M_tell hA hL hll ht hb hr hf n (i + 1) (by omega) K
theorem txT.new {g1 g2 : Nat → Int32} (hY : txT S Y) (hb : ∀ j, bt (gx D j)) (h1 : g1 = upd S.textAt Y.length (nI (ofs Y Y.length))) (h2 : g2 = upd S.textEnd Y.length (nI (ofs Y Y.length + D.length))) : txT (((((S.s_textAt g1).s_texts (wrt S.texts (ofs Y Y.length) D)).s_textsEnd (ofs Y Y.length + D.length)).s_textEnd g2).s_textCount (Y.length + 1)) (Y ++ [D]) := by
  obtain ⟨y1, y2, y3, y4⟩ := hY
  subst h1 h2
  have hl : (Y ++ [D]).length = Y.length + 1 := by rw [List.length_append]; rfl
  have hof : ofs (Y ++ [D]) (Y.length + 1) = ofs Y Y.length + D.length := by rw [ofs_s (by omega), ofs_app (Nat.le_refl _), gT_new]
  refine ⟨hl.symm, by rw [hl, hof]; rfl, fun k hk => ?_, fun k hk => ?_⟩
  · show upd S.textAt Y.length (nI (ofs Y Y.length)) k = _ ∧ upd S.textEnd Y.length (nI (ofs Y Y.length + D.length)) k = _ ∧ tx (wrt S.texts (ofs Y Y.length) D) _ _
    by_cases e : k = Y.length
    · subst e
      unfold upd
      rw [if_pos rfl, if_pos rfl, hof, ofs_app (Nat.le_refl _), gT_new]
      exact ⟨rfl, rfl, wrt_tx _ _ _⟩
    · have hk2 : k < Y.length := by omega
      unfold upd
      rw [if_neg e, if_neg e, ofs_app (by omega), ofs_app (by omega), gT_app hk2]
      refine ⟨(y3 k hk2).1, (y3 k hk2).2.1, wrt_tx_l (y3 k hk2).2.2 ?_⟩
      rw [← ofs_s hk2]
      exact ofs_mono (by omega) (Nat.le_refl _)
  · by_cases e : k = Y.length
    · subst e
      rw [gT_new]
      exact hb
    · rw [gT_app (by omega)]
      exact y4 k (by omega)
theorem c_M_tell (hA : A.length = 84) (hY : txT S Y) (hL : tx S.coming 0 L) (hll : L.length ≤ 8020) (hf : f ≤ t) (ht : t ≤ L.length) (hb : ∀ j, bt (gx (sub L f t) j)) (hr : ofs Y Y.length + (t - f) ≤ 24000) (hc : Y.length < 1100) : am_C X mt_M_tell d [.ref 84, .int (nI f), .int (nI t)] (mput A S B) (fun r h1 => ∃ f1 f2 f3, r = some (.int (nI Y.length)) ∧ h1 = mput A (((((S.s_textAt f1).s_texts f3).s_textsEnd (ofs Y Y.length + (t - f))).s_textEnd f2).s_textCount (Y.length + 1)) B ∧ txT (((((S.s_textAt f1).s_texts f3).s_textsEnd (ofs Y Y.length + (t - f))).s_textEnd f2).s_textCount (Y.length + 1)) (Y ++ [sub L f t])) := by
  show am_G X mt_M_tell d 0 [some (.ref 84), some (.int (nI f)), some (.int (nI t)), none] [] (mput A S B) _
  have hY0 := hY
  obtain ⟨y1, y2, y3, y4⟩ := hY
  have hsl := sub_len (L := L) (f := f) ht
  refine g_aload_n (pc := 0) dc_M_tell_0 rfl ?_
  refine g_getfield (pc := 1) dc_M_tell_1 fl_M_131 (mp_o hA) rfl ?_
  refine g_aload_n (pc := 4) dc_M_tell_4 rfl ?_
  refine g_getfield (pc := 5) (v := .int (nI Y.length)) dc_M_tell_5 fl_M_134 (mp_o hA) (congrArg (fun z => some (Value.int (nI z))) y1) ?_
  refine g_aload_n (pc := 8) dc_M_tell_8 rfl ?_
  refine g_getfield (pc := 9) (v := .int (nI (ofs Y Y.length))) dc_M_tell_9 fl_M_137 (mp_o hA) (congrArg (fun z => some (Value.int (nI z))) y2) ?_
  refine as_textAt (pc := 12) Y.length hA dc_M_tell_12 (by omega) ?_
  refine g_iload_n (pc := 13) dc_M_tell_13 rfl ?_
  refine g_istore_n (pc := 14) dc_M_tell_14 (by decide) ?_
  have hK := v_M_tell (X := X) (d := d) (B := B) (Q := (fun r h1 => ∃ f1 f2 f3, r = some (.int (nI Y.length)) ∧ h1 = mput A (((((S.s_textAt f1).s_texts f3).s_textsEnd (ofs Y Y.length + (t - f))).s_textEnd f2).s_textCount (Y.length + 1)) B ∧ txT (((((S.s_textAt f1).s_texts f3).s_textsEnd (ofs Y Y.length + (t - f))).s_textEnd f2).s_textCount (Y.length + 1)) (Y ++ [sub L f t]))) (m0 := ofs Y Y.length) (f1 := upd S.textAt Y.length (nI (ofs Y Y.length))) hA hL hll ht hb hr hf (t - f) 0 (by omega) (by
    refine g_iload_n (pc := 15) dc_M_tell_15 rfl ?_
    refine g_iload_n (pc := 16) dc_M_tell_16 rfl ?_
    refine q_icmp_ge (pc := 17) (tgt := 51) t t dc_M_tell_17 (by omega) (by omega) rfl (fun hc17 => ?_) (fun hc => absurd hc (by omega))
    refine g_aload_n (pc := 51) dc_M_tell_51 rfl ?_
    refine g_getfield (pc := 52) dc_M_tell_52 fl_M_146 (mp_o hA) rfl ?_
    refine g_aload_n (pc := 55) dc_M_tell_55 rfl ?_
    refine g_getfield (pc := 56) (v := .int (nI Y.length)) dc_M_tell_56 fl_M_134 (mp_o hA) (congrArg (fun z => some (Value.int (nI z))) y1) ?_
    refine g_aload_n (pc := 59) dc_M_tell_59 rfl ?_
    refine g_getfield (pc := 60) dc_M_tell_60 fl_M_137 (mp_o hA) rfl ?_
    refine as_textEnd (pc := 63) Y.length hA dc_M_tell_63 (by omega) ?_
    refine g_aload_n (pc := 64) dc_M_tell_64 rfl ?_
    refine g_dup (pc := 65) dc_M_tell_65 rfl ?_
    refine g_getfield (pc := 66) (v := .int (nI Y.length)) dc_M_tell_66 fl_M_134 (mp_o hA) (congrArg (fun z => some (Value.int (nI z))) y1) ?_
    refine g_iconst (pc := 69) (v := 1) dc_M_tell_69 rfl ?_
    refine g_iadd (pc := 70) (v := (nI (Y.length + 1))) dc_M_tell_70 (nI_add Y.length 1) ?_
    refine pf_textCount (pc := 71) (v := Y.length + 1) hA dc_M_tell_71 fp_M_tell_134 ?_
    refine g_aload_n (pc := 74) dc_M_tell_74 rfl ?_
    refine g_getfield (pc := 75) dc_M_tell_75 fl_M_134 (mp_o hA) rfl ?_
    refine g_iconst (pc := 78) (v := 1) dc_M_tell_78 rfl ?_
    refine g_isub (pc := 79) (v := (nI Y.length)) dc_M_tell_79 (nI_pred Y.length) ?_
    exact g_ireturn dc_M_tell_80 rfl ⟨_, _, _, rfl, rfl, by have h9 := txT.new (g2 := upd S.textEnd Y.length (nI (ofs Y Y.length + (t - f)))) (D := sub L f t) hY0 hb rfl (by rw [hsl]); rw [hsl] at h9; exact h9⟩)
  rw [sub_nil (Nat.le_refl 0), wrt_nil, Nat.add_zero, Nat.add_zero] at hK
  have h8 : S.s_textAt (upd S.textAt Y.length (nI (ofs Y Y.length))) = (((S.s_textAt (upd S.textAt Y.length (nI (ofs Y Y.length)))).s_texts S.texts).s_textsEnd (ofs Y Y.length)) := by rw [← y2]; rfl
  rw [← h8] at hK
  exact hK
end MCP
