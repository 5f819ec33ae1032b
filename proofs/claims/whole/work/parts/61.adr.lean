/-! ===== the model's addresses ===== -/
/-- the model's addresses -/
def adT (S : MS) (T : List (List Int32)) : Prop := S.addressCount = T.length ∧ rws S.addresses S.addressAt S.addressLength T ∧ T.length ≤ 3500 ∧ (∀ k, k < T.length → 8 ≤ (gT T k).length ∧ (gT T k).length ≤ 200) ∧ T.Nodup
/-- the address that was made last -/
def mad (S : MS) (D : List Int32) : Prop := S.madeLength = D.length ∧ tx S.made 0 D ∧ (8 ≤ D.length ∧ D.length ≤ 200) ∧ ∀ j, bt (gx D j)
theorem adT.of {S : MS} {T : List (List Int32)} (h : adT S T) : ∀ k, k ≤ T.length → ofs T k ≤ 200 * k := ofs_le (fun k hk => (h.2.2.2.1 k hk).2)
section ADR
variable {X : am_X} {d k : Nat} {A B : List va_E} {S : MS} {T : List (List Int32)} {D : List Int32}
theorem l_M_isMade (hA : A.length = 84) (hT : adT S T) (hD : mad S D) (hk : k < T.length) (hl : (gT T k).length = D.length) : ∀ n i : Nat, i + n = D.length → (∀ j, j < i → gx (gT T k) j = gx D j) → am_G X mt_M_isMade d 21 [some (.ref 84), some (.int (nI k)), some (.int 1), some (.int (nI i))] [] (mput A S B) (fun r h1 => r = some (.int (b1 (decide (gT T k = D)))) ∧ h1 = mput A S B)
  | 0, i, e, hp => by
    have hT0 := hT
    have hD0 := hD
    obtain ⟨hT1, hT2, hT3, hT4, hT5⟩ := hT
    obtain ⟨hD1, hD2, hD3, hD4⟩ := hD
    have ho := adT.of hT0 k (by omega)
    have hx2 := (hT2 k hk).2.2
    refine g_iload_n (pc := 21) dc_M_isMade_21 rfl ?_
    refine g_aload_n (pc := 22) dc_M_isMade_22 rfl ?_
    refine g_getfield (pc := 23) (v := .int (nI D.length)) dc_M_isMade_23 fl_M_38 (mp_o hA) (congrArg (fun z => some (Value.int (nI z))) hD1) ?_
    refine q_icmp_ge (pc := 26) (tgt := 67) i D.length dc_M_isMade_26 (by omega) (by omega) rfl (fun hc26 => ?_) (fun hc => absurd hc (by omega))
    refine g_iload_n (pc := 67) dc_M_isMade_67 rfl ?_
    exact g_zreturn dc_M_isMade_68 rfl rfl ⟨congrArg (fun z => some (Value.int z)) (b1_t (eq_gx.mpr ⟨hl, fun j hj => hp j (by omega)⟩)), rfl⟩
  | n + 1, i, e, hp => by
    have hT0 := hT
    have hD0 := hD
    obtain ⟨hT1, hT2, hT3, hT4, hT5⟩ := hT
    obtain ⟨hD1, hD2, hD3, hD4⟩ := hD
    have ho := adT.of hT0 k (by omega)
    have hx2 := (hT2 k hk).2.2
    refine g_iload_n (pc := 21) dc_M_isMade_21 rfl ?_
    refine g_aload_n (pc := 22) dc_M_isMade_22 rfl ?_
    refine g_getfield (pc := 23) (v := .int (nI D.length)) dc_M_isMade_23 fl_M_38 (mp_o hA) (congrArg (fun z => some (Value.int (nI z))) hD1) ?_
    refine q_icmp_ge (pc := 26) (tgt := 67) i D.length dc_M_isMade_26 (by omega) (by omega) rfl (fun hc => absurd hc (by omega)) (fun hc26 => ?_)
    refine g_iload_n (pc := 29) dc_M_isMade_29 rfl ?_
    refine g_if_eq (pc := 30) (tgt := 67) dc_M_isMade_30 rfl (fun hc => absurd hc (by decide)) (fun _ => ?_)
    refine g_aload_n (pc := 33) dc_M_isMade_33 rfl ?_
    refine g_getfield (pc := 34) dc_M_isMade_34 fl_M_41 (mp_o hA) rfl ?_
    refine g_aload_n (pc := 37) dc_M_isMade_37 rfl ?_
    refine g_getfield (pc := 38) dc_M_isMade_38 fl_M_31 (mp_o hA) rfl ?_
    refine g_iload_n (pc := 41) dc_M_isMade_41 rfl ?_
    refine q_ialoadV (pc := 42) k dc_M_isMade_42 (mp_a hA 4 rfl) (by omega) (by omega) (v := (nI (ofs T k))) (hT2 k (by omega)).1 ?_
    refine g_iload_n (pc := 43) dc_M_isMade_43 rfl ?_
    refine g_iadd (pc := 44) (v := (nI ((ofs T k) + i))) dc_M_isMade_44 (nI_add (ofs T k) i) ?_
    refine q_tx (pc := 45) i dc_M_isMade_45 (mp_a hA 3 rfl) hx2 (by omega) (by omega) (by omega) ?_
    refine g_aload_n (pc := 46) dc_M_isMade_46 rfl ?_
    refine g_getfield (pc := 47) dc_M_isMade_47 fl_M_45 (mp_o hA) rfl ?_
    refine g_iload_n (pc := 50) dc_M_isMade_50 rfl ?_
    refine q_tx0 (pc := 51) i dc_M_isMade_51 (mp_a hA 6 rfl) hD2 (by omega) (by omega) (by omega) ?_
    refine g_icmp_ne (pc := 52) (tgt := 59) dc_M_isMade_52 rfl (fun hc52 => ?_) (fun hc52 => ?_)
    · refine g_iconst (pc := 59) (v := 0) dc_M_isMade_59 rfl ?_
      refine g_istore_n (pc := 60) dc_M_isMade_60 (by decide) ?_
      refine g_iinc (pc := 61) (v := (nI (i + 1))) dc_M_isMade_61 rfl (nI_add i 1) (by decide) ?_
      refine g_goto (pc := 64) (tgt := 21) dc_M_isMade_64 rfl ?_
      refine g_iload_n (pc := 21) dc_M_isMade_21 rfl ?_
      refine g_aload_n (pc := 22) dc_M_isMade_22 rfl ?_
      refine g_getfield (pc := 23) (v := .int (nI D.length)) dc_M_isMade_23 fl_M_38 (mp_o hA) (congrArg (fun z => some (Value.int (nI z))) hD1) ?_
      refine q_icmp_ge (pc := 26) (tgt := 67) (i + 1) D.length dc_M_isMade_26 (by omega) (by omega) rfl (fun hc26 => ?_) (fun hc26 => ?_)
      · refine g_iload_n (pc := 67) dc_M_isMade_67 rfl ?_
        exact g_zreturn dc_M_isMade_68 rfl rfl ⟨congrArg (fun z => some (Value.int z)) (b1_f (fun h9 => hc52 ((eq_gx.mp h9).2 i (by omega)))), rfl⟩
      · refine g_iload_n (pc := 29) dc_M_isMade_29 rfl ?_
        refine g_if_eq (pc := 30) (tgt := 67) dc_M_isMade_30 rfl (fun _ => ?_) (fun hc => absurd hc (by decide))
        refine g_iload_n (pc := 67) dc_M_isMade_67 rfl ?_
        exact g_zreturn dc_M_isMade_68 rfl rfl ⟨congrArg (fun z => some (Value.int z)) (b1_f (fun h9 => hc52 ((eq_gx.mp h9).2 i (by omega)))), rfl⟩
    · refine g_iconst (pc := 55) (v := 1) dc_M_isMade_55 rfl ?_
      refine g_goto (pc := 56) (tgt := 60) dc_M_isMade_56 rfl ?_
      refine g_istore_n (pc := 60) dc_M_isMade_60 (by decide) ?_
      refine g_iinc (pc := 61) (v := (nI (i + 1))) dc_M_isMade_61 rfl (nI_add i 1) (by decide) ?_
      refine g_goto (pc := 64) (tgt := 21) dc_M_isMade_64 rfl ?_
      exact l_M_isMade hA hT0 hD0 hk hl n (i + 1) (by omega) (fun j hj => by
        rcases Nat.eq_or_lt_of_le (Nat.le_of_lt_succ hj) with e9 | e9
        · rw [e9]; exact hc52
        · exact hp j e9)
theorem c_M_isMade (hA : A.length = 84) (hT : adT S T) (hD : mad S D) (hk : k < T.length) : am_C X mt_M_isMade d [.ref 84, .int (nI k)] (mput A S B) (fun r h1 => r = some (.int (b1 (decide (gT T k = D)))) ∧ h1 = mput A S B) := by
  show am_G X mt_M_isMade d 0 [some (.ref 84), some (.int (nI k)), none, none] [] (mput A S B) _
  have hT0 := hT
  have hD0 := hD
  obtain ⟨hT1, hT2, hT3, hT4, hT5⟩ := hT
  obtain ⟨hD1, hD2, hD3, hD4⟩ := hD
  have ho := adT.of hT0 k (by omega)
  have hx2 := (hT2 k hk).2.2
  have hl4 := hT4 k hk
  refine g_aload_n (pc := 0) dc_M_isMade_0 rfl ?_
  refine g_getfield (pc := 1) dc_M_isMade_1 fl_M_35 (mp_o hA) rfl ?_
  refine g_iload_n (pc := 4) dc_M_isMade_4 rfl ?_
  refine q_ialoadV (pc := 5) k dc_M_isMade_5 (mp_a hA 5 rfl) (by omega) (by omega) (v := (nI ((gT T k).length))) (hT2 k (by omega)).2.1 ?_
  refine g_aload_n (pc := 6) dc_M_isMade_6 rfl ?_
  refine g_getfield (pc := 7) (v := .int (nI D.length)) dc_M_isMade_7 fl_M_38 (mp_o hA) (congrArg (fun z => some (Value.int (nI z))) hD1) ?_
  refine q_icmp_ne (pc := 10) (tgt := 17) ((gT T k).length) D.length dc_M_isMade_10 (by omega) (by omega) rfl (fun hc10 => ?_) (fun hc10 => ?_)
  · refine g_iconst (pc := 17) (v := 0) dc_M_isMade_17 rfl ?_
    refine g_istore_n (pc := 18) dc_M_isMade_18 (by decide) ?_
    refine g_iconst (pc := 19) (v := 0) dc_M_isMade_19 rfl ?_
    refine g_istore_n (pc := 20) dc_M_isMade_20 (by decide) ?_
    refine g_iload_n (pc := 21) dc_M_isMade_21 rfl ?_
    refine g_aload_n (pc := 22) dc_M_isMade_22 rfl ?_
    refine g_getfield (pc := 23) (v := .int (nI D.length)) dc_M_isMade_23 fl_M_38 (mp_o hA) (congrArg (fun z => some (Value.int (nI z))) hD1) ?_
    refine q_icmp_ge (pc := 26) (tgt := 67) 0 D.length dc_M_isMade_26 (by omega) (by omega) rfl (fun hc26 => ?_) (fun hc26 => ?_)
    · refine g_iload_n (pc := 67) dc_M_isMade_67 rfl ?_
      exact g_zreturn dc_M_isMade_68 rfl rfl ⟨congrArg (fun z => some (Value.int z)) (b1_f (fun h9 => hc10 (eq_gx.mp h9).1)), rfl⟩
    · refine g_iload_n (pc := 29) dc_M_isMade_29 rfl ?_
      refine g_if_eq (pc := 30) (tgt := 67) dc_M_isMade_30 rfl (fun _ => ?_) (fun hc => absurd hc (by decide))
      refine g_iload_n (pc := 67) dc_M_isMade_67 rfl ?_
      exact g_zreturn dc_M_isMade_68 rfl rfl ⟨congrArg (fun z => some (Value.int z)) (b1_f (fun h9 => hc10 (eq_gx.mp h9).1)), rfl⟩
  · refine g_iconst (pc := 13) (v := 1) dc_M_isMade_13 rfl ?_
    refine g_goto (pc := 14) (tgt := 18) dc_M_isMade_14 rfl ?_
    refine g_istore_n (pc := 18) dc_M_isMade_18 (by decide) ?_
    refine g_iconst (pc := 19) (v := 0) dc_M_isMade_19 rfl ?_
    refine g_istore_n (pc := 20) dc_M_isMade_20 (by decide) ?_
    exact l_M_isMade hA hT0 hD0 hk hc10 D.length 0 (by omega) (fun j hj => absurd hj (by omega))
theorem wrt_cp {g : Nat → Int32} {n i : Nat} {D : List Int32} (hi : i < D.length) (hb : ∀ j, bt (gx D j)) : upd (wrt g n (sub D 0 i)) (n + i) (vp_nar .byte (gx D i)) = wrt g n (sub D 0 (i + 1)) := by
  rw [nar_bt (hb i), sub_snoc (Nat.zero_le i) hi, ← wrt_snoc, sub_len (by omega), Nat.sub_zero]
def kept (S : MS) (T : List (List Int32)) (D : List Int32) (S' : MS) (T' : List (List Int32)) (k : Nat) : Prop := adT S' T' ∧ mad S' D ∧ k < T'.length ∧ gT T' k = D ∧ ((T' = T ∧ S' = S) ∨ (T' = T ++ [D] ∧ ¬ D ∈ T ∧ ∃ f1 f2 f3, S' = (((S.s_addressAt f1).s_addressLength f2).s_addresses f3).s_addressCount (T.length + 1)))
theorem v_M_keep {Q : Option Value → List va_E → Prop} {p : Nat} {f1 f2 : Nat → Int32} (hA : A.length = 84) (hD : mad S D) (hp : p + D.length ≤ 700000) : ∀ n i : Nat, i + n = D.length → am_G X mt_M_keep (d + 1) 86 [some (.ref 84), some (.int (nI p)), some (.int (nI D.length))] [] (mput A (((S.s_addressAt f1).s_addressLength f2).s_addresses (wrt S.addresses p D)) B) Q → am_G X mt_M_keep (d + 1) 86 [some (.ref 84), some (.int (nI p)), some (.int (nI i))] [] (mput A (((S.s_addressAt f1).s_addressLength f2).s_addresses (wrt S.addresses p (sub D 0 i))) B) Q
  | 0, i, e, K => by
    obtain rfl : i = D.length := by omega
    rw [sub_all rfl]
    exact K
  | n + 1, i, e, K => by
    have hD0 := hD
    obtain ⟨hD1, hD2, hD3, hD4⟩ := hD
    refine g_iload_n (pc := 86) dc_M_keep_86 rfl ?_
    refine g_aload_n (pc := 87) dc_M_keep_87 rfl ?_
    refine g_getfield (pc := 88) (v := .int (nI D.length)) dc_M_keep_88 fl_M_38 (mp_o hA) (congrArg (fun z => some (Value.int (nI z))) hD1) ?_
    refine q_icmp_ge (pc := 91) (tgt := 114) i D.length dc_M_keep_91 (by omega) (by omega) rfl (fun hc => absurd hc (by omega)) (fun hc91 => ?_)
    refine g_aload_n (pc := 94) dc_M_keep_94 rfl ?_
    refine g_getfield (pc := 95) dc_M_keep_95 fl_M_41 (mp_o hA) rfl ?_
    refine g_iload_n (pc := 98) dc_M_keep_98 rfl ?_
    refine g_iload_n (pc := 99) dc_M_keep_99 rfl ?_
    refine g_iadd (pc := 100) (v := (nI (p + i))) dc_M_keep_100 (nI_add p i) ?_
    refine g_aload_n (pc := 101) dc_M_keep_101 rfl ?_
    refine g_getfield (pc := 102) dc_M_keep_102 fl_M_45 (mp_o hA) rfl ?_
    refine g_iload_n (pc := 105) dc_M_keep_105 rfl ?_
    refine q_tx0 (pc := 106) i dc_M_keep_106 (mp_a hA 6 rfl) hD2 (by omega) (by omega) (by omega) ?_
    refine asE_addresses (pc := 107) (p + i) (g := wrt S.addresses p (sub D 0 (i + 1))) hA dc_M_keep_107 (by omega) (wrt_cp (by omega) hD4) ?_
    rw [MS.ss_addresses]
    refine g_iinc (pc := 108) (v := (nI (i + 1))) dc_M_keep_108 rfl (nI_add i 1) (by decide) ?_
    refine g_goto (pc := 111) (tgt := 86) dc_M_keep_111 rfl ?_
    exact v_M_keep hA hD0 hp n (i + 1) (by omega) K
theorem adT.new {S : MS} {T : List (List Int32)} {D : List Int32} (hT : adT S T) (hD : mad S D) (hr : T.length < 3500) (hn : ¬ D ∈ T) : adT ((((S.s_addressAt (upd S.addressAt T.length (nI (ofs T T.length)))).s_addressLength (upd S.addressLength T.length (nI D.length))).s_addresses (wrt S.addresses (ofs T T.length) D)).s_addressCount (T.length + 1)) (T ++ [D]) := by
  have ho := adT.of hT
  obtain ⟨hT1, hT2, hT3, hT4, hT5⟩ := hT
  have hl : (T ++ [D]).length = T.length + 1 := by rw [List.length_append]; rfl
  refine ⟨hl.symm, fun k hk => ?_, by omega, fun k hk => ?_, ?_⟩
  · show upd S.addressAt T.length (nI (ofs T T.length)) k = _ ∧ upd S.addressLength T.length (nI D.length) k = _ ∧ tx (wrt S.addresses (ofs T T.length) D) _ _
    by_cases e : k = T.length
    · subst e
      unfold upd
      rw [if_pos rfl, if_pos rfl, ofs_app (Nat.le_refl _), gT_new]
      exact ⟨rfl, rfl, wrt_tx _ _ _⟩
    · have hk2 : k < T.length := by omega
      unfold upd
      rw [if_neg e, if_neg e, ofs_app (by omega), gT_app hk2]
      refine ⟨(hT2 k hk2).1, (hT2 k hk2).2.1, wrt_tx_l (hT2 k hk2).2.2 ?_⟩
      rw [← ofs_s hk2]
      exact ofs_mono (by omega) (Nat.le_refl _)
  · by_cases e : k = T.length
    · subst e
      rw [gT_new]
      exact hD.2.2.1
    · rw [gT_app (by omega)]
      exact hT4 k (by omega)
  · rw [List.nodup_append]
    refine ⟨hT5, by simp, fun x hx y hy e => ?_⟩
    rw [List.mem_singleton] at hy
    rw [← hy, ← e] at hn
    exact hn hx
theorem u_M_keep {l2 : Option Value} (hA : A.length = 84) (hT : adT S T) (hD : mad S D) (hr : T.length < 3500) (hn : ¬ D ∈ T) : am_G X mt_M_keep (d + 1) 60 [some (.ref 84), some (.int (nI T.length)), l2] [.int (nI (ofs T T.length))] (mput A S B) (fun r h1 => ∃ S1 T1 k, r = some (.int (nI k)) ∧ h1 = mput A S1 B ∧ kept S T D S1 T1 k) := by
  have hT0 := hT
  have hD0 := hD
  obtain ⟨hT1, hT2, hT3, hT4, hT5⟩ := hT
  obtain ⟨hD1, hD2, hD3, hD4⟩ := hD
  have ho := adT.of hT0 T.length (Nat.le_refl _)
  refine g_istore_n (pc := 60) dc_M_keep_60 (by decide) ?_
  refine g_aload_n (pc := 61) dc_M_keep_61 rfl ?_
  refine g_getfield (pc := 62) dc_M_keep_62 fl_M_31 (mp_o hA) rfl ?_
  refine g_aload_n (pc := 65) dc_M_keep_65 rfl ?_
  refine g_getfield (pc := 66) (v := .int (nI T.length)) dc_M_keep_66 fl_M_25 (mp_o hA) (congrArg (fun z => some (Value.int (nI z))) hT1) ?_
  refine g_iload_n (pc := 69) dc_M_keep_69 rfl ?_
  refine as_addressAt (pc := 70) T.length hA dc_M_keep_70 (by omega) ?_
  refine g_aload_n (pc := 71) dc_M_keep_71 rfl ?_
  refine g_getfield (pc := 72) dc_M_keep_72 fl_M_35 (mp_o hA) rfl ?_
  refine g_aload_n (pc := 75) dc_M_keep_75 rfl ?_
  refine g_getfield (pc := 76) (v := .int (nI T.length)) dc_M_keep_76 fl_M_25 (mp_o hA) (congrArg (fun z => some (Value.int (nI z))) hT1) ?_
  refine g_aload_n (pc := 79) dc_M_keep_79 rfl ?_
  refine g_getfield (pc := 80) (v := .int (nI D.length)) dc_M_keep_80 fl_M_38 (mp_o hA) (congrArg (fun z => some (Value.int (nI z))) hD1) ?_
  refine as_addressLength (pc := 83) T.length hA dc_M_keep_83 (by omega) ?_
  refine g_iconst (pc := 84) (v := 0) dc_M_keep_84 rfl ?_
  refine g_istore_n (pc := 85) dc_M_keep_85 (by decide) ?_
  have h86 : am_G X mt_M_keep (d + 1) 86 [some (.ref 84), some (.int (nI (ofs T T.length))), some (.int (nI 0))] [] (mput A (((S.s_addressAt (upd S.addressAt T.length (nI (ofs T T.length)))).s_addressLength (upd S.addressLength T.length (nI D.length))).s_addresses (wrt S.addresses (ofs T T.length) (sub D 0 0))) B) (fun r h1 => ∃ S1 T1 k, r = some (.int (nI k)) ∧ h1 = mput A S1 B ∧ kept S T D S1 T1 k) := by
    refine v_M_keep hA hD0 (by omega) D.length 0 (by omega) ?_
    refine g_iload_n (pc := 86) dc_M_keep_86 rfl ?_
    refine g_aload_n (pc := 87) dc_M_keep_87 rfl ?_
    refine g_getfield (pc := 88) (v := .int (nI D.length)) dc_M_keep_88 fl_M_38 (mp_o hA) (congrArg (fun z => some (Value.int (nI z))) hD1) ?_
    refine q_icmp_ge (pc := 91) (tgt := 114) D.length D.length dc_M_keep_91 (by omega) (by omega) rfl (fun hc91 => ?_) (fun hc => absurd hc (by omega))
    refine g_aload_n (pc := 114) dc_M_keep_114 rfl ?_
    refine g_dup (pc := 115) dc_M_keep_115 rfl ?_
    refine g_getfield (pc := 116) (v := .int (nI T.length)) dc_M_keep_116 fl_M_25 (mp_o hA) (congrArg (fun z => some (Value.int (nI z))) hT1) ?_
    refine g_iconst (pc := 119) (v := 1) dc_M_keep_119 rfl ?_
    refine g_iadd (pc := 120) (v := (nI (T.length + 1))) dc_M_keep_120 (nI_add T.length 1) ?_
    refine pf_addressCount (pc := 121) (v := T.length + 1) hA dc_M_keep_121 fp_M_keep_25 ?_
    refine g_aload_n (pc := 124) dc_M_keep_124 rfl ?_
    refine g_getfield (pc := 125) dc_M_keep_125 fl_M_25 (mp_o hA) rfl ?_
    refine g_iconst (pc := 128) (v := 1) dc_M_keep_128 rfl ?_
    refine g_isub (pc := 129) (v := (nI T.length)) dc_M_keep_129 (nI_pred T.length) ?_
    exact g_ireturn dc_M_keep_130 rfl ⟨_, T ++ [D], T.length, rfl, rfl, adT.new hT0 hD0 hr hn, hD0, by rw [List.length_append]; exact Nat.lt_succ_self _, gT_new, Or.inr ⟨rfl, hn, _, _, _, rfl⟩⟩
  rw [sub_nil (Nat.le_refl 0), wrt_nil] at h86
  exact h86
theorem l_M_keep (hA : A.length = 84) (hT : adT S T) (hD : mad S D) (hr : D ∈ T ∨ T.length < 3500) : ∀ n i : Nat, i + n = T.length → (∀ j, j < i → ¬ gT T j = D) → am_G X mt_M_keep (d + 1) 2 [some (.ref 84), some (.int (nI i)), none] [] (mput A S B) (fun r h1 => ∃ S1 T1 k, r = some (.int (nI k)) ∧ h1 = mput A S1 B ∧ kept S T D S1 T1 k)
  | 0, i, e, hp => by
    have hT0 := hT
    have hD0 := hD
    obtain ⟨hT1, hT2, hT3, hT4, hT5⟩ := hT
    obtain ⟨hD1, hD2, hD3, hD4⟩ := hD
    obtain rfl : i = T.length := by omega
    have hn : ¬ D ∈ T := fun h9 => by
      obtain ⟨j, hj, e9⟩ := List.getElem_of_mem h9
      exact hp j hj ((gT_eq hj).trans e9)
    have hr2 : T.length < 3500 := hr.resolve_left hn
    refine g_iload_n (pc := 2) dc_M_keep_2 rfl ?_
    refine g_aload_n (pc := 3) dc_M_keep_3 rfl ?_
    refine g_getfield (pc := 4) (v := .int (nI T.length)) dc_M_keep_4 fl_M_25 (mp_o hA) (congrArg (fun z => some (Value.int (nI z))) hT1) ?_
    refine q_icmp_ge (pc := 7) (tgt := 26) T.length T.length dc_M_keep_7 (by omega) (by omega) rfl (fun hc7 => ?_) (fun hc => absurd hc (by omega))
    refine g_aload_n (pc := 26) dc_M_keep_26 rfl ?_
    refine g_getfield (pc := 27) (v := .int (nI T.length)) dc_M_keep_27 fl_M_25 (mp_o hA) (congrArg (fun z => some (Value.int (nI z))) hT1) ?_
    refine q_if_ne (pc := 30) (tgt := 37) T.length dc_M_keep_30 (by omega) rfl (fun hc30 => ?_) (fun hc30 => ?_)
    · refine g_aload_n (pc := 37) dc_M_keep_37 rfl ?_
      refine g_getfield (pc := 38) dc_M_keep_38 fl_M_31 (mp_o hA) rfl ?_
      refine g_aload_n (pc := 41) dc_M_keep_41 rfl ?_
      refine g_getfield (pc := 42) (v := .int (nI T.length)) dc_M_keep_42 fl_M_25 (mp_o hA) (congrArg (fun z => some (Value.int (nI z))) hT1) ?_
      refine g_iconst (pc := 45) (v := 1) dc_M_keep_45 rfl ?_
      refine g_isub (pc := 46) (v := (nI (T.length - 1))) dc_M_keep_46 (q_sub (a := T.length) (b := 1) (by omega)) ?_
      refine q_ialoadV (pc := 47) (T.length - 1) dc_M_keep_47 (mp_a hA 4 rfl) (by omega) (by omega) (v := (nI (ofs T (T.length - 1)))) (hT2 (T.length - 1) (by omega)).1 ?_
      refine g_aload_n (pc := 48) dc_M_keep_48 rfl ?_
      refine g_getfield (pc := 49) dc_M_keep_49 fl_M_35 (mp_o hA) rfl ?_
      refine g_aload_n (pc := 52) dc_M_keep_52 rfl ?_
      refine g_getfield (pc := 53) (v := .int (nI T.length)) dc_M_keep_53 fl_M_25 (mp_o hA) (congrArg (fun z => some (Value.int (nI z))) hT1) ?_
      refine g_iconst (pc := 56) (v := 1) dc_M_keep_56 rfl ?_
      refine g_isub (pc := 57) (v := (nI (T.length - 1))) dc_M_keep_57 (q_sub (a := T.length) (b := 1) (by omega)) ?_
      refine q_ialoadV (pc := 58) (T.length - 1) dc_M_keep_58 (mp_a hA 5 rfl) (by omega) (by omega) (v := (nI ((gT T (T.length - 1)).length))) (hT2 (T.length - 1) (by omega)).2.1 ?_
      refine g_iadd (pc := 59) (v := (nI (ofs T (T.length - 1) + ((gT T (T.length - 1)).length)))) dc_M_keep_59 (nI_add (ofs T (T.length - 1)) ((gT T (T.length - 1)).length)) ?_
      have e9 := ofs_s (T := T) (k := T.length - 1) (by omega)
      rw [Nat.sub_add_cancel (by omega)] at e9
      rw [← e9]
      exact u_M_keep (l2 := none) hA hT0 hD0 hr2 hn
    · refine g_iconst (pc := 33) (v := 0) dc_M_keep_33 rfl ?_
      refine g_goto (pc := 34) (tgt := 60) dc_M_keep_34 rfl ?_
      have e9 : ofs T T.length = 0 := by rw [hc30]; rfl
      have h9 := u_M_keep (X := X) (d := d) (B := B) (l2 := none) hA hT0 hD0 hr2 hn
      rw [e9] at h9
      exact h9
  | n + 1, i, e, hp => by
    have hT0 := hT
    have hD0 := hD
    obtain ⟨hT1, hT2, hT3, hT4, hT5⟩ := hT
    obtain ⟨hD1, hD2, hD3, hD4⟩ := hD
    refine g_iload_n (pc := 2) dc_M_keep_2 rfl ?_
    refine g_aload_n (pc := 3) dc_M_keep_3 rfl ?_
    refine g_getfield (pc := 4) (v := .int (nI T.length)) dc_M_keep_4 fl_M_25 (mp_o hA) (congrArg (fun z => some (Value.int (nI z))) hT1) ?_
    refine q_icmp_ge (pc := 7) (tgt := 26) i T.length dc_M_keep_7 (by omega) (by omega) rfl (fun hc => absurd hc (by omega)) (fun hc7 => ?_)
    refine g_aload_n (pc := 10) dc_M_keep_10 rfl ?_
    refine g_iload_n (pc := 11) dc_M_keep_11 rfl ?_
    refine g_v1 (pc := 12) (M' := mt_M_isMade) dc_M_keep_12 mo_M_isMade im_M_isMade se_M_isMade ln_M_28 (mp_o hA) rfl rfl (Nat.le_of_ble_eq_true rfl) (Nat.le_of_ble_eq_true rfl) (am_G.mono (c_M_isMade (k := i) hA hT0 hD0 (by omega)) ?_)
    intro r h1 hq
    rw [hq.1, hq.2]
    clear hq h1 r
    refine ⟨am_nti _, ?_⟩
    refine q_ifb_eq (pc := 15) (tgt := 20) dc_M_keep_15 rfl (fun hc15 => ?_) (fun hc15 => ?_)
    · refine g_iinc (pc := 20) (v := (nI (i + 1))) dc_M_keep_20 rfl (nI_add i 1) (by decide) ?_
      refine g_goto (pc := 23) (tgt := 2) dc_M_keep_23 rfl ?_
      exact l_M_keep hA hT0 hD0 hr n (i + 1) (by omega) (fun j hj => by
        rcases Nat.eq_or_lt_of_le (Nat.le_of_lt_succ hj) with e9 | e9
        · rw [e9]; exact of_decide_eq_false hc15
        · exact hp j e9)
    · refine g_iload_n (pc := 18) dc_M_keep_18 rfl ?_
      exact g_ireturn dc_M_keep_19 rfl ⟨S, T, i, rfl, rfl, hT0, hD0, by omega, of_decide_eq_true hc15, Or.inl ⟨rfl, rfl⟩⟩
theorem c_M_keep (hA : A.length = 84) (hT : adT S T) (hD : mad S D) (hr : D ∈ T ∨ T.length < 3500) : am_C X mt_M_keep (d + 1) [.ref 84] (mput A S B) (fun r h1 => ∃ S1 T1 k, r = some (.int (nI k)) ∧ h1 = mput A S1 B ∧ kept S T D S1 T1 k) := by
  show am_G X mt_M_keep (d + 1) 0 [some (.ref 84), none, none] [] (mput A S B) _
  refine g_iconst (pc := 0) (v := 0) dc_M_keep_0 rfl ?_
  refine g_istore_n (pc := 1) dc_M_keep_1 (by decide) ?_
  exact l_M_keep hA hT hD hr T.length 0 (by omega) (fun j hj => absurd hj (by omega))
end ADR
