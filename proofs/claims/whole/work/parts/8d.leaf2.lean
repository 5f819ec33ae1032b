/-! ===== texts that are the same; addresses in their order ===== -/
/-- where two rows of bytes part -/
def dfp (D E : List Int32) : Nat := fx (fun j => decide (gx D j = gx E j)) 0 (min D.length E.length)
/-- D comes before E -/
def bef (D E : List Int32) : Bool := if dfp D E < min D.length E.length then decide (gx D (dfp D E) < gx E (dfp D E)) else decide (D.length < E.length)
section LF2
variable {X : am_X} {d k k2 a ab b cap e ecap : Nat} {A B h : List va_E} {S : MS} {T Y : List (List Int32)} {P : List Int32}
theorem l_M_isSameText (hA : A.length = 84) (hY : txT S Y) (hY1 : Y.length ≤ 1100) (hY2 : ∀ j, j < Y.length → ofs Y (j + 1) ≤ 24000) (hk : k < Y.length) (hk2 : k2 < Y.length) (he : (gT Y k2).length = (gT Y k).length) : ∀ n i : Nat, i + n = (gT Y k).length → (∀ j, j < i → gx (gT Y k) j = gx (gT Y k2) j) → am_G X mt_M_isSameText d 41 [some (.ref 84), some (.int (nI k)), some (.int (nI k2)), some (.int (nI ((gT Y k).length))), some (.int 1), some (.int (nI i))] [] (mput A S B) (fun r h1 => r = some (.int (b1 (decide (gT Y k = gT Y k2)))) ∧ h1 = mput A S B)
  | 0, i, e, hp => by
    have ho1 := ofs_s (T := Y) hk
    have ho2 := ofs_s (T := Y) hk2
    have hb1 := hY2 k hk
    have hb2 := hY2 k2 hk2
    have hx1 := (hY.2.2.1 k hk).2.2
    have hx2 := (hY.2.2.1 k2 hk2).2.2
    refine g_iload (pc := 41) dc_M_isSameText_41 rfl ?_
    refine g_iload_n (pc := 43) dc_M_isSameText_43 rfl ?_
    refine q_icmp_ge (pc := 44) (tgt := 96) i ((gT Y k).length) dc_M_isSameText_44 (by omega) (by omega) rfl (fun hc44 => ?_) (fun hc => absurd hc (by omega))
    refine g_iload (pc := 96) dc_M_isSameText_96 rfl ?_
    exact g_zreturn dc_M_isSameText_98 rfl rfl ⟨congrArg (fun z => some (Value.int z)) (b1_t (eq_gx.mpr ⟨he.symm, fun j hj => hp j (by omega)⟩)), rfl⟩
  | n + 1, i, e, hp => by
    have ho1 := ofs_s (T := Y) hk
    have ho2 := ofs_s (T := Y) hk2
    have hb1 := hY2 k hk
    have hb2 := hY2 k2 hk2
    have hx1 := (hY.2.2.1 k hk).2.2
    have hx2 := (hY.2.2.1 k2 hk2).2.2
    refine g_iload (pc := 41) dc_M_isSameText_41 rfl ?_
    refine g_iload_n (pc := 43) dc_M_isSameText_43 rfl ?_
    refine q_icmp_ge (pc := 44) (tgt := 96) i ((gT Y k).length) dc_M_isSameText_44 (by omega) (by omega) rfl (fun hc => absurd hc (by omega)) (fun hc44 => ?_)
    refine g_iload (pc := 47) dc_M_isSameText_47 rfl ?_
    refine g_if_eq (pc := 49) (tgt := 96) dc_M_isSameText_49 rfl (fun hc => absurd hc (by decide)) (fun _ => ?_)
    refine g_aload_n (pc := 52) dc_M_isSameText_52 rfl ?_
    refine g_getfield (pc := 53) dc_M_isSameText_53 fl_M_140 (mp_o hA) rfl ?_
    refine g_aload_n (pc := 56) dc_M_isSameText_56 rfl ?_
    refine g_getfield (pc := 57) dc_M_isSameText_57 fl_M_131 (mp_o hA) rfl ?_
    refine g_iload_n (pc := 60) dc_M_isSameText_60 rfl ?_
    refine q_ialoadV (pc := 61) k dc_M_isSameText_61 (mp_a hA 13 rfl) (by omega) (by omega) (v := (nI (ofs Y k))) (hY.2.2.1 k (by omega)).1 ?_
    refine g_iload (pc := 62) dc_M_isSameText_62 rfl ?_
    refine g_iadd (pc := 64) (v := (nI ((ofs Y k) + i))) dc_M_isSameText_64 (nI_add (ofs Y k) i) ?_
    refine q_tx (pc := 65) i dc_M_isSameText_65 (mp_a hA 12 rfl) hx1 (by omega) (by omega) (by omega) ?_
    refine g_aload_n (pc := 66) dc_M_isSameText_66 rfl ?_
    refine g_getfield (pc := 67) dc_M_isSameText_67 fl_M_140 (mp_o hA) rfl ?_
    refine g_aload_n (pc := 70) dc_M_isSameText_70 rfl ?_
    refine g_getfield (pc := 71) dc_M_isSameText_71 fl_M_131 (mp_o hA) rfl ?_
    refine g_iload_n (pc := 74) dc_M_isSameText_74 rfl ?_
    refine q_ialoadV (pc := 75) k2 dc_M_isSameText_75 (mp_a hA 13 rfl) (by omega) (by omega) (v := (nI (ofs Y k2))) (hY.2.2.1 k2 (by omega)).1 ?_
    refine g_iload (pc := 76) dc_M_isSameText_76 rfl ?_
    refine g_iadd (pc := 78) (v := (nI ((ofs Y k2) + i))) dc_M_isSameText_78 (nI_add (ofs Y k2) i) ?_
    refine q_tx (pc := 79) i dc_M_isSameText_79 (mp_a hA 12 rfl) hx2 (by omega) (by omega) (by omega) ?_
    refine g_icmp_ne (pc := 80) (tgt := 87) dc_M_isSameText_80 rfl (fun hc80 => ?_) (fun hc80 => ?_)
    · refine g_iconst (pc := 87) (v := 0) dc_M_isSameText_87 rfl ?_
      refine g_istore (pc := 88) dc_M_isSameText_88 (by decide) ?_
      show am_G X mt_M_isSameText _ 90 [some (.ref 84), some (.int (nI k)), some (.int (nI k2)), some (.int (nI ((gT Y k).length))), some (.int 0), some (.int (nI i))] [] _ _
      refine g_iinc (pc := 90) (v := (nI (i + 1))) dc_M_isSameText_90 rfl (nI_add i 1) (by decide) ?_
      show am_G X mt_M_isSameText _ 93 [some (.ref 84), some (.int (nI k)), some (.int (nI k2)), some (.int (nI ((gT Y k).length))), some (.int 0), some (.int (nI (i + 1)))] [] _ _
      refine g_goto (pc := 93) (tgt := 41) dc_M_isSameText_93 rfl ?_
      refine g_iload (pc := 41) dc_M_isSameText_41 rfl ?_
      refine g_iload_n (pc := 43) dc_M_isSameText_43 rfl ?_
      refine q_icmp_ge (pc := 44) (tgt := 96) (i + 1) ((gT Y k).length) dc_M_isSameText_44 (by omega) (by omega) rfl (fun hc44 => ?_) (fun hc44 => ?_)
      · refine g_iload (pc := 96) dc_M_isSameText_96 rfl ?_
        exact g_zreturn dc_M_isSameText_98 rfl rfl ⟨congrArg (fun z => some (Value.int z)) (b1_f (fun h9 => hc80 (by rw [h9]))), rfl⟩
      · refine g_iload (pc := 47) dc_M_isSameText_47 rfl ?_
        refine g_if_eq (pc := 49) (tgt := 96) dc_M_isSameText_49 rfl (fun _ => ?_) (fun hc => absurd hc (by decide))
        refine g_iload (pc := 96) dc_M_isSameText_96 rfl ?_
        exact g_zreturn dc_M_isSameText_98 rfl rfl ⟨congrArg (fun z => some (Value.int z)) (b1_f (fun h9 => hc80 (by rw [h9]))), rfl⟩
    · refine g_iconst (pc := 83) (v := 1) dc_M_isSameText_83 rfl ?_
      refine g_goto (pc := 84) (tgt := 88) dc_M_isSameText_84 rfl ?_
      refine g_istore (pc := 88) dc_M_isSameText_88 (by decide) ?_
      show am_G X mt_M_isSameText _ 90 [some (.ref 84), some (.int (nI k)), some (.int (nI k2)), some (.int (nI ((gT Y k).length))), some (.int 1), some (.int (nI i))] [] _ _
      refine g_iinc (pc := 90) (v := (nI (i + 1))) dc_M_isSameText_90 rfl (nI_add i 1) (by decide) ?_
      show am_G X mt_M_isSameText _ 93 [some (.ref 84), some (.int (nI k)), some (.int (nI k2)), some (.int (nI ((gT Y k).length))), some (.int 1), some (.int (nI (i + 1)))] [] _ _
      refine g_goto (pc := 93) (tgt := 41) dc_M_isSameText_93 rfl ?_
      exact l_M_isSameText hA hY hY1 hY2 hk hk2 he n (i + 1) (by omega) (fun j hj => by
        rcases Nat.eq_or_lt_of_le (Nat.le_of_lt_succ hj) with e9 | e9
        · rw [e9]; exact hc80
        · exact hp j e9)
theorem c_M_isSameText (hA : A.length = 84) (hY : txT S Y) (hY1 : Y.length ≤ 1100) (hY2 : ∀ j, j < Y.length → ofs Y (j + 1) ≤ 24000) (hk : k < Y.length) (hk2 : k2 < Y.length) : am_C X mt_M_isSameText d [.ref 84, .int (nI k), .int (nI k2)] (mput A S B) (fun r h1 => r = some (.int (b1 (decide (gT Y k = gT Y k2)))) ∧ h1 = mput A S B) := by
  show am_G X mt_M_isSameText d 0 [some (.ref 84), some (.int (nI k)), some (.int (nI k2)), none, none, none] [] (mput A S B) _
  have ho1 := ofs_s (T := Y) hk
  have ho2 := ofs_s (T := Y) hk2
  have hb1 := hY2 k hk
  have hb2 := hY2 k2 hk2
  have hx1 := (hY.2.2.1 k hk).2.2
  have hx2 := (hY.2.2.1 k2 hk2).2.2
  refine g_aload_n (pc := 0) dc_M_isSameText_0 rfl ?_
  refine g_getfield (pc := 1) dc_M_isSameText_1 fl_M_146 (mp_o hA) rfl ?_
  refine g_iload_n (pc := 4) dc_M_isSameText_4 rfl ?_
  refine q_ialoadV (pc := 5) k dc_M_isSameText_5 (mp_a hA 14 rfl) (by omega) (by omega) (v := (nI ((ofs Y k) + ((gT Y k).length)))) ((hY.2.2.1 k (by omega)).2.1.trans (congrArg nI (ofs_s (by omega)))) ?_
  refine g_aload_n (pc := 6) dc_M_isSameText_6 rfl ?_
  refine g_getfield (pc := 7) dc_M_isSameText_7 fl_M_131 (mp_o hA) rfl ?_
  refine g_iload_n (pc := 10) dc_M_isSameText_10 rfl ?_
  refine q_ialoadV (pc := 11) k dc_M_isSameText_11 (mp_a hA 13 rfl) (by omega) (by omega) (v := (nI (ofs Y k))) (hY.2.2.1 k (by omega)).1 ?_
  refine g_isub (pc := 12) (v := (nI ((gT Y k).length))) dc_M_isSameText_12 ((q_sub (a := ofs Y k + (gT Y k).length) (b := ofs Y k) (by omega)).trans (congrArg nI (by omega))) ?_
  refine g_istore_n (pc := 13) dc_M_isSameText_13 (by decide) ?_
  show am_G X mt_M_isSameText _ 14 [some (.ref 84), some (.int (nI k)), some (.int (nI k2)), some (.int (nI ((gT Y k).length))), none, none] [] _ _
  refine g_aload_n (pc := 14) dc_M_isSameText_14 rfl ?_
  refine g_getfield (pc := 15) dc_M_isSameText_15 fl_M_146 (mp_o hA) rfl ?_
  refine g_iload_n (pc := 18) dc_M_isSameText_18 rfl ?_
  refine q_ialoadV (pc := 19) k2 dc_M_isSameText_19 (mp_a hA 14 rfl) (by omega) (by omega) (v := (nI ((ofs Y k2) + ((gT Y k2).length)))) ((hY.2.2.1 k2 (by omega)).2.1.trans (congrArg nI (ofs_s (by omega)))) ?_
  refine g_aload_n (pc := 20) dc_M_isSameText_20 rfl ?_
  refine g_getfield (pc := 21) dc_M_isSameText_21 fl_M_131 (mp_o hA) rfl ?_
  refine g_iload_n (pc := 24) dc_M_isSameText_24 rfl ?_
  refine q_ialoadV (pc := 25) k2 dc_M_isSameText_25 (mp_a hA 13 rfl) (by omega) (by omega) (v := (nI (ofs Y k2))) (hY.2.2.1 k2 (by omega)).1 ?_
  refine g_isub (pc := 26) (v := (nI ((gT Y k2).length))) dc_M_isSameText_26 ((q_sub (a := ofs Y k2 + (gT Y k2).length) (b := ofs Y k2) (by omega)).trans (congrArg nI (by omega))) ?_
  refine g_iload_n (pc := 27) dc_M_isSameText_27 rfl ?_
  refine q_icmp_ne (pc := 28) (tgt := 35) ((gT Y k2).length) ((gT Y k).length) dc_M_isSameText_28 (by omega) (by omega) rfl (fun hc28 => ?_) (fun hc28 => ?_)
  · refine g_iconst (pc := 35) (v := 0) dc_M_isSameText_35 rfl ?_
    refine g_istore (pc := 36) dc_M_isSameText_36 (by decide) ?_
    show am_G X mt_M_isSameText _ 38 [some (.ref 84), some (.int (nI k)), some (.int (nI k2)), some (.int (nI ((gT Y k).length))), some (.int 0), none] [] _ _
    refine g_iconst (pc := 38) (v := 0) dc_M_isSameText_38 rfl ?_
    refine g_istore (pc := 39) dc_M_isSameText_39 (by decide) ?_
    show am_G X mt_M_isSameText _ 41 [some (.ref 84), some (.int (nI k)), some (.int (nI k2)), some (.int (nI ((gT Y k).length))), some (.int 0), some (.int 0)] [] _ _
    refine g_iload (pc := 41) dc_M_isSameText_41 rfl ?_
    refine g_iload_n (pc := 43) dc_M_isSameText_43 rfl ?_
    refine q_icmp_ge (pc := 44) (tgt := 96) 0 ((gT Y k).length) dc_M_isSameText_44 (by omega) (by omega) rfl (fun hc44 => ?_) (fun hc44 => ?_)
    · refine g_iload (pc := 96) dc_M_isSameText_96 rfl ?_
      exact g_zreturn dc_M_isSameText_98 rfl rfl ⟨congrArg (fun z => some (Value.int z)) (b1_f (fun h9 => hc28 (by rw [h9]))), rfl⟩
    · refine g_iload (pc := 47) dc_M_isSameText_47 rfl ?_
      refine g_if_eq (pc := 49) (tgt := 96) dc_M_isSameText_49 rfl (fun _ => ?_) (fun hc => absurd hc (by decide))
      refine g_iload (pc := 96) dc_M_isSameText_96 rfl ?_
      exact g_zreturn dc_M_isSameText_98 rfl rfl ⟨congrArg (fun z => some (Value.int z)) (b1_f (fun h9 => hc28 (by rw [h9]))), rfl⟩
  · refine g_iconst (pc := 31) (v := 1) dc_M_isSameText_31 rfl ?_
    refine g_goto (pc := 32) (tgt := 36) dc_M_isSameText_32 rfl ?_
    refine g_istore (pc := 36) dc_M_isSameText_36 (by decide) ?_
    show am_G X mt_M_isSameText _ 38 [some (.ref 84), some (.int (nI k)), some (.int (nI k2)), some (.int (nI ((gT Y k).length))), some (.int 1), none] [] _ _
    refine g_iconst (pc := 38) (v := 0) dc_M_isSameText_38 rfl ?_
    refine g_istore (pc := 39) dc_M_isSameText_39 (by decide) ?_
    show am_G X mt_M_isSameText _ 41 [some (.ref 84), some (.int (nI k)), some (.int (nI k2)), some (.int (nI ((gT Y k).length))), some (.int 1), some (.int 0)] [] _ _
    exact l_M_isSameText hA hY hY1 hY2 hk hk2 hc28 (gT Y k).length 0 (by omega) (fun j hj => absurd hj (by omega))
theorem l_M_isBefore (hA : A.length = 84) (hT : adT S T) (hk : k < T.length) (hk2 : k2 < T.length) : ∀ n i : Nat, i + n = (min (gT T k).length (gT T k2).length) → fx (fun j => decide (gx (gT T k) j = gx (gT T k2) j)) i (min (gT T k).length (gT T k2).length) = dfp (gT T k) (gT T k2) → am_G X mt_M_isBefore d 34 [some (.ref 84), some (.int (nI k)), some (.int (nI k2)), some (.int (nI (min (gT T k).length (gT T k2).length))), some (.int (nI i))] [] (mput A S B) (fun r h1 => r = some (.int (b1 (bef (gT T k) (gT T k2)))) ∧ h1 = mput A S B)
  | 0, i, e, hp => by
    have hT0 := hT
    obtain ⟨hT1, hT2, hT3, hT4, hT5⟩ := hT
    have ho := adT.of hT0 k (by omega)
    have ho2 := adT.of hT0 k2 (by omega)
    have h8 := hT4 k hk
    have h82 := hT4 k2 hk2
    have hx1 := (hT2 k hk).2.2
    have hx2 := (hT2 k2 hk2).2.2
    have e1 : fx (fun j => decide (gx (gT T k) j = gx (gT T k2) j)) i (min (gT T k).length (gT T k2).length) = i := fx_0 (by omega)
    have e2 : bef (gT T k) (gT T k2) = decide ((gT T k).length < (gT T k2).length) := if_neg (by omega)
    rw [e2]
    refine g_iload (pc := 34) dc_M_isBefore_34 rfl ?_
    refine g_iload_n (pc := 36) dc_M_isBefore_36 rfl ?_
    refine q_icmp_ge (pc := 37) (tgt := 77) i (min (gT T k).length (gT T k2).length) dc_M_isBefore_37 (by omega) (by omega) rfl (fun hc37 => ?_) (fun hc => absurd hc (by omega))
    refine g_iload (pc := 77) dc_M_isBefore_77 rfl ?_
    refine g_iload_n (pc := 79) dc_M_isBefore_79 rfl ?_
    refine q_icmp_ge (pc := 80) (tgt := 122) i (min (gT T k).length (gT T k2).length) dc_M_isBefore_80 (by omega) (by omega) rfl (fun hc80 => ?_) (fun hc => absurd hc (by omega))
    refine g_aload_n (pc := 122) dc_M_isBefore_122 rfl ?_
    refine g_getfield (pc := 123) dc_M_isBefore_123 fl_M_35 (mp_o hA) rfl ?_
    refine g_iload_n (pc := 126) dc_M_isBefore_126 rfl ?_
    refine q_ialoadV (pc := 127) k dc_M_isBefore_127 (mp_a hA 5 rfl) (by omega) (by omega) (v := (nI ((gT T k).length))) (hT2 k (by omega)).2.1 ?_
    refine g_aload_n (pc := 128) dc_M_isBefore_128 rfl ?_
    refine g_getfield (pc := 129) dc_M_isBefore_129 fl_M_35 (mp_o hA) rfl ?_
    refine g_iload_n (pc := 132) dc_M_isBefore_132 rfl ?_
    refine q_ialoadV (pc := 133) k2 dc_M_isBefore_133 (mp_a hA 5 rfl) (by omega) (by omega) (v := (nI ((gT T k2).length))) (hT2 k2 (by omega)).2.1 ?_
    refine q_icmp_ge (pc := 134) (tgt := 141) ((gT T k).length) ((gT T k2).length) dc_M_isBefore_134 (by omega) (by omega) rfl (fun hc134 => ?_) (fun hc134 => ?_)
    · refine g_iconst (pc := 141) (v := 0) dc_M_isBefore_141 rfl ?_
      exact g_zreturn dc_M_isBefore_142 rfl rfl ⟨congrArg (fun z => some (Value.int z)) (b1_f (by omega)), rfl⟩
    · refine g_iconst (pc := 137) (v := 1) dc_M_isBefore_137 rfl ?_
      refine g_goto (pc := 138) (tgt := 142) dc_M_isBefore_138 rfl ?_
      exact g_zreturn dc_M_isBefore_142 rfl rfl ⟨congrArg (fun z => some (Value.int z)) (b1_t (by omega)), rfl⟩
  | n + 1, i, e, hp => by
    have hT0 := hT
    obtain ⟨hT1, hT2, hT3, hT4, hT5⟩ := hT
    have ho := adT.of hT0 k (by omega)
    have ho2 := adT.of hT0 k2 (by omega)
    have h8 := hT4 k hk
    have h82 := hT4 k2 hk2
    have hx1 := (hT2 k hk).2.2
    have hx2 := (hT2 k2 hk2).2.2
    by_cases hq : gx (gT T k) i = gx (gT T k2) i
    · rw [fx_t (P := (fun j => decide (gx (gT T k) j = gx (gT T k2) j))) (f := i) (t := (min (gT T k).length (gT T k2).length)) (by omega) (decide_eq_true hq)] at hp
      refine g_iload (pc := 34) dc_M_isBefore_34 rfl ?_
      refine g_iload_n (pc := 36) dc_M_isBefore_36 rfl ?_
      refine q_icmp_ge (pc := 37) (tgt := 77) i (min (gT T k).length (gT T k2).length) dc_M_isBefore_37 (by omega) (by omega) rfl (fun hc => absurd hc (by omega)) (fun hc37 => ?_)
      refine g_aload_n (pc := 40) dc_M_isBefore_40 rfl ?_
      refine g_getfield (pc := 41) dc_M_isBefore_41 fl_M_41 (mp_o hA) rfl ?_
      refine g_aload_n (pc := 44) dc_M_isBefore_44 rfl ?_
      refine g_getfield (pc := 45) dc_M_isBefore_45 fl_M_31 (mp_o hA) rfl ?_
      refine g_iload_n (pc := 48) dc_M_isBefore_48 rfl ?_
      refine q_ialoadV (pc := 49) k dc_M_isBefore_49 (mp_a hA 4 rfl) (by omega) (by omega) (v := (nI (ofs T k))) (hT2 k (by omega)).1 ?_
      refine g_iload (pc := 50) dc_M_isBefore_50 rfl ?_
      refine g_iadd (pc := 52) (v := (nI ((ofs T k) + i))) dc_M_isBefore_52 (nI_add (ofs T k) i) ?_
      refine q_tx (pc := 53) i dc_M_isBefore_53 (mp_a hA 3 rfl) hx1 (by omega) (by omega) (by omega) ?_
      refine g_aload_n (pc := 54) dc_M_isBefore_54 rfl ?_
      refine g_getfield (pc := 55) dc_M_isBefore_55 fl_M_41 (mp_o hA) rfl ?_
      refine g_aload_n (pc := 58) dc_M_isBefore_58 rfl ?_
      refine g_getfield (pc := 59) dc_M_isBefore_59 fl_M_31 (mp_o hA) rfl ?_
      refine g_iload_n (pc := 62) dc_M_isBefore_62 rfl ?_
      refine q_ialoadV (pc := 63) k2 dc_M_isBefore_63 (mp_a hA 4 rfl) (by omega) (by omega) (v := (nI (ofs T k2))) (hT2 k2 (by omega)).1 ?_
      refine g_iload (pc := 64) dc_M_isBefore_64 rfl ?_
      refine g_iadd (pc := 66) (v := (nI ((ofs T k2) + i))) dc_M_isBefore_66 (nI_add (ofs T k2) i) ?_
      refine q_tx (pc := 67) i dc_M_isBefore_67 (mp_a hA 3 rfl) hx2 (by omega) (by omega) (by omega) ?_
      refine g_icmp_ne (pc := 68) (tgt := 77) dc_M_isBefore_68 rfl (fun hc => absurd hc (fun h8 => h8 hq)) (fun hc68 => ?_)
      refine g_iinc (pc := 71) (v := (nI (i + 1))) dc_M_isBefore_71 rfl (nI_add i 1) (by decide) ?_
      show am_G X mt_M_isBefore _ 74 [some (.ref 84), some (.int (nI k)), some (.int (nI k2)), some (.int (nI (min (gT T k).length (gT T k2).length))), some (.int (nI (i + 1)))] [] _ _
      refine g_goto (pc := 74) (tgt := 34) dc_M_isBefore_74 rfl ?_
      exact l_M_isBefore hA hT0 hk hk2 n (i + 1) (by omega) hp
    · rw [fx_f (P := (fun j => decide (gx (gT T k) j = gx (gT T k2) j))) (f := i) (t := (min (gT T k).length (gT T k2).length)) (by rw [decide_eq_true_eq]; exact hq)] at hp
      have e2 : bef (gT T k) (gT T k2) = decide (gx (gT T k) i < gx (gT T k2) i) := by unfold bef; rw [← hp, if_pos (by omega)]
      rw [e2]
      refine g_iload (pc := 34) dc_M_isBefore_34 rfl ?_
      refine g_iload_n (pc := 36) dc_M_isBefore_36 rfl ?_
      refine q_icmp_ge (pc := 37) (tgt := 77) i (min (gT T k).length (gT T k2).length) dc_M_isBefore_37 (by omega) (by omega) rfl (fun hc => absurd hc (by omega)) (fun hc37 => ?_)
      refine g_aload_n (pc := 40) dc_M_isBefore_40 rfl ?_
      refine g_getfield (pc := 41) dc_M_isBefore_41 fl_M_41 (mp_o hA) rfl ?_
      refine g_aload_n (pc := 44) dc_M_isBefore_44 rfl ?_
      refine g_getfield (pc := 45) dc_M_isBefore_45 fl_M_31 (mp_o hA) rfl ?_
      refine g_iload_n (pc := 48) dc_M_isBefore_48 rfl ?_
      refine q_ialoadV (pc := 49) k dc_M_isBefore_49 (mp_a hA 4 rfl) (by omega) (by omega) (v := (nI (ofs T k))) (hT2 k (by omega)).1 ?_
      refine g_iload (pc := 50) dc_M_isBefore_50 rfl ?_
      refine g_iadd (pc := 52) (v := (nI ((ofs T k) + i))) dc_M_isBefore_52 (nI_add (ofs T k) i) ?_
      refine q_tx (pc := 53) i dc_M_isBefore_53 (mp_a hA 3 rfl) hx1 (by omega) (by omega) (by omega) ?_
      refine g_aload_n (pc := 54) dc_M_isBefore_54 rfl ?_
      refine g_getfield (pc := 55) dc_M_isBefore_55 fl_M_41 (mp_o hA) rfl ?_
      refine g_aload_n (pc := 58) dc_M_isBefore_58 rfl ?_
      refine g_getfield (pc := 59) dc_M_isBefore_59 fl_M_31 (mp_o hA) rfl ?_
      refine g_iload_n (pc := 62) dc_M_isBefore_62 rfl ?_
      refine q_ialoadV (pc := 63) k2 dc_M_isBefore_63 (mp_a hA 4 rfl) (by omega) (by omega) (v := (nI (ofs T k2))) (hT2 k2 (by omega)).1 ?_
      refine g_iload (pc := 64) dc_M_isBefore_64 rfl ?_
      refine g_iadd (pc := 66) (v := (nI ((ofs T k2) + i))) dc_M_isBefore_66 (nI_add (ofs T k2) i) ?_
      refine q_tx (pc := 67) i dc_M_isBefore_67 (mp_a hA 3 rfl) hx2 (by omega) (by omega) (by omega) ?_
      refine g_icmp_ne (pc := 68) (tgt := 77) dc_M_isBefore_68 rfl (fun hc68 => ?_) (fun hc => absurd hc (hq))
      refine g_iload (pc := 77) dc_M_isBefore_77 rfl ?_
      refine g_iload_n (pc := 79) dc_M_isBefore_79 rfl ?_
      refine q_icmp_ge (pc := 80) (tgt := 122) i (min (gT T k).length (gT T k2).length) dc_M_isBefore_80 (by omega) (by omega) rfl (fun hc => absurd hc (by omega)) (fun hc80 => ?_)
      refine g_aload_n (pc := 83) dc_M_isBefore_83 rfl ?_
      refine g_getfield (pc := 84) dc_M_isBefore_84 fl_M_41 (mp_o hA) rfl ?_
      refine g_aload_n (pc := 87) dc_M_isBefore_87 rfl ?_
      refine g_getfield (pc := 88) dc_M_isBefore_88 fl_M_31 (mp_o hA) rfl ?_
      refine g_iload_n (pc := 91) dc_M_isBefore_91 rfl ?_
      refine q_ialoadV (pc := 92) k dc_M_isBefore_92 (mp_a hA 4 rfl) (by omega) (by omega) (v := (nI (ofs T k))) (hT2 k (by omega)).1 ?_
      refine g_iload (pc := 93) dc_M_isBefore_93 rfl ?_
      refine g_iadd (pc := 95) (v := (nI ((ofs T k) + i))) dc_M_isBefore_95 (nI_add (ofs T k) i) ?_
      refine q_tx (pc := 96) i dc_M_isBefore_96 (mp_a hA 3 rfl) hx1 (by omega) (by omega) (by omega) ?_
      refine g_aload_n (pc := 97) dc_M_isBefore_97 rfl ?_
      refine g_getfield (pc := 98) dc_M_isBefore_98 fl_M_41 (mp_o hA) rfl ?_
      refine g_aload_n (pc := 101) dc_M_isBefore_101 rfl ?_
      refine g_getfield (pc := 102) dc_M_isBefore_102 fl_M_31 (mp_o hA) rfl ?_
      refine g_iload_n (pc := 105) dc_M_isBefore_105 rfl ?_
      refine q_ialoadV (pc := 106) k2 dc_M_isBefore_106 (mp_a hA 4 rfl) (by omega) (by omega) (v := (nI (ofs T k2))) (hT2 k2 (by omega)).1 ?_
      refine g_iload (pc := 107) dc_M_isBefore_107 rfl ?_
      refine g_iadd (pc := 109) (v := (nI ((ofs T k2) + i))) dc_M_isBefore_109 (nI_add (ofs T k2) i) ?_
      refine q_tx (pc := 110) i dc_M_isBefore_110 (mp_a hA 3 rfl) hx2 (by omega) (by omega) (by omega) ?_
      refine g_icmp_ge (pc := 111) (tgt := 118) dc_M_isBefore_111 rfl (fun hc111 => ?_) (fun hc111 => ?_)
      · have hi111 : ((gx (gT T k2) i)).toInt ≤ ((gx (gT T k) i)).toInt := Int32.le_iff_toInt_le.mp hc111
        refine g_iconst (pc := 118) (v := 0) dc_M_isBefore_118 rfl ?_
        refine g_goto (pc := 119) (tgt := 142) dc_M_isBefore_119 rfl ?_
        exact g_zreturn dc_M_isBefore_142 rfl rfl ⟨congrArg (fun z => some (Value.int z)) (b1_f (Int32.not_lt.mpr hc111)), rfl⟩
      · have hi111 : ¬ (((gx (gT T k2) i)).toInt ≤ ((gx (gT T k) i)).toInt) := fun h9 => hc111 (Int32.le_iff_toInt_le.mpr h9)
        refine g_iconst (pc := 114) (v := 1) dc_M_isBefore_114 rfl ?_
        refine g_goto (pc := 115) (tgt := 142) dc_M_isBefore_115 rfl ?_
        exact g_zreturn dc_M_isBefore_142 rfl rfl ⟨congrArg (fun z => some (Value.int z)) (b1_t (Int32.not_le.mp hc111)), rfl⟩
theorem c_M_isBefore (hA : A.length = 84) (hT : adT S T) (hk : k < T.length) (hk2 : k2 < T.length) : am_C X mt_M_isBefore d [.ref 84, .int (nI k), .int (nI k2)] (mput A S B) (fun r h1 => r = some (.int (b1 (bef (gT T k) (gT T k2)))) ∧ h1 = mput A S B) := by
  show am_G X mt_M_isBefore d 0 [some (.ref 84), some (.int (nI k)), some (.int (nI k2)), none, none] [] (mput A S B) _
  have hT0 := hT
  obtain ⟨hT1, hT2, hT3, hT4, hT5⟩ := hT
  have h8 := hT4 k hk
  have h82 := hT4 k2 hk2
  refine g_aload_n (pc := 0) dc_M_isBefore_0 rfl ?_
  refine g_getfield (pc := 1) dc_M_isBefore_1 fl_M_35 (mp_o hA) rfl ?_
  refine g_iload_n (pc := 4) dc_M_isBefore_4 rfl ?_
  refine q_ialoadV (pc := 5) k dc_M_isBefore_5 (mp_a hA 5 rfl) (by omega) (by omega) (v := (nI ((gT T k).length))) (hT2 k (by omega)).2.1 ?_
  refine g_aload_n (pc := 6) dc_M_isBefore_6 rfl ?_
  refine g_getfield (pc := 7) dc_M_isBefore_7 fl_M_35 (mp_o hA) rfl ?_
  refine g_iload_n (pc := 10) dc_M_isBefore_10 rfl ?_
  refine q_ialoadV (pc := 11) k2 dc_M_isBefore_11 (mp_a hA 5 rfl) (by omega) (by omega) (v := (nI ((gT T k2).length))) (hT2 k2 (by omega)).2.1 ?_
  refine q_icmp_ge (pc := 12) (tgt := 24) ((gT T k).length) ((gT T k2).length) dc_M_isBefore_12 (by omega) (by omega) rfl (fun hc12 => ?_) (fun hc12 => ?_)
  · have emn : (gT T k2).length = (min (gT T k).length (gT T k2).length) := by omega
    
    refine g_aload_n (pc := 24) dc_M_isBefore_24 rfl ?_
    refine g_getfield (pc := 25) dc_M_isBefore_25 fl_M_35 (mp_o hA) rfl ?_
    refine g_iload_n (pc := 28) dc_M_isBefore_28 rfl ?_
    refine q_ialoadV (pc := 29) k2 dc_M_isBefore_29 (mp_a hA 5 rfl) (by omega) (by omega) (v := (nI ((gT T k2).length))) (hT2 k2 (by omega)).2.1 ?_
    rw [emn]
    refine g_istore_n (pc := 30) dc_M_isBefore_30 (by decide) ?_
    show am_G X mt_M_isBefore _ 31 [some (.ref 84), some (.int (nI k)), some (.int (nI k2)), some (.int (nI (min (gT T k).length (gT T k2).length))), none] [] _ _
    refine g_iconst (pc := 31) (v := 0) dc_M_isBefore_31 rfl ?_
    refine g_istore (pc := 32) dc_M_isBefore_32 (by decide) ?_
    show am_G X mt_M_isBefore _ 34 [some (.ref 84), some (.int (nI k)), some (.int (nI k2)), some (.int (nI (min (gT T k).length (gT T k2).length))), some (.int 0)] [] _ _
    exact l_M_isBefore hA hT0 hk hk2 (min (gT T k).length (gT T k2).length) 0 (by omega) rfl
  · have emn : (gT T k).length = (min (gT T k).length (gT T k2).length) := by omega
    refine g_aload_n (pc := 15) dc_M_isBefore_15 rfl ?_
    refine g_getfield (pc := 16) dc_M_isBefore_16 fl_M_35 (mp_o hA) rfl ?_
    refine g_iload_n (pc := 19) dc_M_isBefore_19 rfl ?_
    refine q_ialoadV (pc := 20) k dc_M_isBefore_20 (mp_a hA 5 rfl) (by omega) (by omega) (v := (nI ((gT T k).length))) (hT2 k (by omega)).2.1 ?_
    refine g_goto (pc := 21) (tgt := 30) dc_M_isBefore_21 rfl ?_
    rw [emn]
    refine g_istore_n (pc := 30) dc_M_isBefore_30 (by decide) ?_
    show am_G X mt_M_isBefore _ 31 [some (.ref 84), some (.int (nI k)), some (.int (nI k2)), some (.int (nI (min (gT T k).length (gT T k2).length))), none] [] _ _
    refine g_iconst (pc := 31) (v := 0) dc_M_isBefore_31 rfl ?_
    refine g_istore (pc := 32) dc_M_isBefore_32 (by decide) ?_
    show am_G X mt_M_isBefore _ 34 [some (.ref 84), some (.int (nI k)), some (.int (nI k2)), some (.int (nI (min (gT T k).length (gT T k2).length))), some (.int 0)] [] _ _
    exact l_M_isBefore hA hT0 hk hk2 (min (gT T k).length (gT T k2).length) 0 (by omega) rfl
theorem l_R_isBefore (hR : isR h a ab b cap e ecap T P) (hk : k < T.length) (hk2 : k2 < T.length) : ∀ n i : Nat, i + n = (min (gT T k).length (gT T k2).length) → fx (fun j => decide (gx (gT T k) j = gx (gT T k2) j)) i (min (gT T k).length (gT T k2).length) = dfp (gT T k) (gT T k2) → am_G X mt_R_isBefore (d + 1) 38 [some (.ref a), some (.int (nI k)), some (.int (nI k2)), some (.int (nI (ofs T k))), some (.int (nI (ofs T k2))), some (.int (nI (min (gT T k).length (gT T k2).length))), some (.int (nI i))] [] h (fun r h1 => r = some (.int (b1 (bef (gT T k) (gT T k2)))) ∧ h1 = h)
  | 0, i, e, hp => by
    have hR0 := hR
    obtain ⟨hR1, hR2, gE, hR3, hR4, hR5, hR6⟩ := hR
    have ho := hR0.of (k := k + 1) (by omega)
    have ho2 := hR0.of (k := k2 + 1) (by omega)
    have hs1 := ofs_s (T := T) hk
    have hs2 := ofs_s (T := T) hk2
    have hx1 := hR0.tt hk
    have hx2 := hR0.tt hk2
    have hba := hR2.ha
    obtain ⟨cp1, g1, y1, y2, y3, y4⟩ := hx1
    obtain ⟨cp2, g2, z1, z2, z3, z4⟩ := hx2
    have e1 : fx (fun j => decide (gx (gT T k) j = gx (gT T k2) j)) i (min (gT T k).length (gT T k2).length) = i := fx_0 (by omega)
    have e2 : bef (gT T k) (gT T k2) = decide ((gT T k).length < (gT T k2).length) := if_neg (by omega)
    rw [e2]
    refine g_iload (pc := 38) dc_R_isBefore_38 rfl ?_
    refine g_iload (pc := 40) dc_R_isBefore_40 rfl ?_
    refine q_icmp_ge (pc := 42) (tgt := 113) i (min (gT T k).length (gT T k2).length) dc_R_isBefore_42 (by omega) (by omega) rfl (fun hc42 => ?_) (fun hc => absurd hc (by omega))
    refine g_aload_n (pc := 113) dc_R_isBefore_113 rfl ?_
    refine g_getfield (pc := 114) dc_R_isBefore_114 fl_R_20 hR1 rfl ?_
    refine g_iload_n (pc := 117) dc_R_isBefore_117 rfl ?_
    refine q_ialoadV (pc := 118) k dc_R_isBefore_118 hR3 (by omega) (by omega) (v := nI (ofs T k + (gT T k).length)) ((hR4 k (by omega)).trans (congrArg nI (ofs_s (by omega)))) ?_
    refine g_iload_n (pc := 119) dc_R_isBefore_119 rfl ?_
    refine g_isub (pc := 120) (v := (nI ((gT T k).length))) dc_R_isBefore_120 ((q_sub (a := ofs T k + (gT T k).length) (b := ofs T k) (by omega)).trans (congrArg nI (by omega))) ?_
    refine g_aload_n (pc := 121) dc_R_isBefore_121 rfl ?_
    refine g_getfield (pc := 122) dc_R_isBefore_122 fl_R_20 hR1 rfl ?_
    refine g_iload_n (pc := 125) dc_R_isBefore_125 rfl ?_
    refine q_ialoadV (pc := 126) k2 dc_R_isBefore_126 hR3 (by omega) (by omega) (v := nI (ofs T k2 + (gT T k2).length)) ((hR4 k2 (by omega)).trans (congrArg nI (ofs_s (by omega)))) ?_
    refine g_iload (pc := 127) dc_R_isBefore_127 rfl ?_
    refine g_isub (pc := 129) (v := (nI ((gT T k2).length))) dc_R_isBefore_129 ((q_sub (a := ofs T k2 + (gT T k2).length) (b := ofs T k2) (by omega)).trans (congrArg nI (by omega))) ?_
    refine q_icmp_ge (pc := 130) (tgt := 137) ((gT T k).length) ((gT T k2).length) dc_R_isBefore_130 (by omega) (by omega) rfl (fun hc130 => ?_) (fun hc130 => ?_)
    · refine g_iconst (pc := 137) (v := 0) dc_R_isBefore_137 rfl ?_
      exact g_zreturn dc_R_isBefore_138 rfl rfl ⟨congrArg (fun z => some (Value.int z)) (b1_f (by omega)), rfl⟩
    · refine g_iconst (pc := 133) (v := 1) dc_R_isBefore_133 rfl ?_
      refine g_goto (pc := 134) (tgt := 138) dc_R_isBefore_134 rfl ?_
      exact g_zreturn dc_R_isBefore_138 rfl rfl ⟨congrArg (fun z => some (Value.int z)) (b1_t (by omega)), rfl⟩
  | n + 1, i, e, hp => by
    have hR0 := hR
    obtain ⟨hR1, hR2, gE, hR3, hR4, hR5, hR6⟩ := hR
    have ho := hR0.of (k := k + 1) (by omega)
    have ho2 := hR0.of (k := k2 + 1) (by omega)
    have hs1 := ofs_s (T := T) hk
    have hs2 := ofs_s (T := T) hk2
    have hx1 := hR0.tt hk
    have hx2 := hR0.tt hk2
    have hba := hR2.ha
    obtain ⟨cp1, g1, y1, y2, y3, y4⟩ := hx1
    obtain ⟨cp2, g2, z1, z2, z3, z4⟩ := hx2
    by_cases hq : gx (gT T k) i = gx (gT T k2) i
    · rw [fx_t (P := (fun j => decide (gx (gT T k) j = gx (gT T k2) j))) (f := i) (t := (min (gT T k).length (gT T k2).length)) (by omega) (decide_eq_true hq)] at hp
      refine g_iload (pc := 38) dc_R_isBefore_38 rfl ?_
      refine g_iload (pc := 40) dc_R_isBefore_40 rfl ?_
      refine q_icmp_ge (pc := 42) (tgt := 113) i (min (gT T k).length (gT T k2).length) dc_R_isBefore_42 (by omega) (by omega) rfl (fun hc => absurd hc (by omega)) (fun hc42 => ?_)
      refine g_aload_n (pc := 45) dc_R_isBefore_45 rfl ?_
      refine g_getfield (pc := 46) dc_R_isBefore_46 fl_R_14 hR1 rfl ?_
      refine g_getfield (pc := 49) dc_R_isBefore_49 fl_R_51 hba rfl ?_
      refine g_iload_n (pc := 52) dc_R_isBefore_52 rfl ?_
      refine g_iload (pc := 53) dc_R_isBefore_53 rfl ?_
      refine g_iadd (pc := 55) (v := (nI ((ofs T k) + i))) dc_R_isBefore_55 (nI_add (ofs T k) i) ?_
      refine q_tx (pc := 56) i dc_R_isBefore_56 y1 y2 (by omega) (by omega) (by omega) ?_
      refine g_aload_n (pc := 57) dc_R_isBefore_57 rfl ?_
      refine g_getfield (pc := 58) dc_R_isBefore_58 fl_R_14 hR1 rfl ?_
      refine g_getfield (pc := 61) dc_R_isBefore_61 fl_R_51 hba rfl ?_
      refine g_iload (pc := 64) dc_R_isBefore_64 rfl ?_
      refine g_iload (pc := 66) dc_R_isBefore_66 rfl ?_
      refine g_iadd (pc := 68) (v := (nI ((ofs T k2) + i))) dc_R_isBefore_68 (nI_add (ofs T k2) i) ?_
      refine q_tx (pc := 69) i dc_R_isBefore_69 z1 z2 (by omega) (by omega) (by omega) ?_
      refine g_icmp_eq (pc := 70) (tgt := 107) dc_R_isBefore_70 rfl (fun hc70 => ?_) (fun hc => absurd hc (fun h8 => h8 hq))
      refine g_iinc (pc := 107) (v := (nI (i + 1))) dc_R_isBefore_107 rfl (nI_add i 1) (by decide) ?_
      show am_G X mt_R_isBefore _ 110 [some (.ref a), some (.int (nI k)), some (.int (nI k2)), some (.int (nI (ofs T k))), some (.int (nI (ofs T k2))), some (.int (nI (min (gT T k).length (gT T k2).length))), some (.int (nI (i + 1)))] [] _ _
      refine g_goto (pc := 110) (tgt := 38) dc_R_isBefore_110 rfl ?_
      exact l_R_isBefore hR0 hk hk2 n (i + 1) (by omega) hp
    · rw [fx_f (P := (fun j => decide (gx (gT T k) j = gx (gT T k2) j))) (f := i) (t := (min (gT T k).length (gT T k2).length)) (by rw [decide_eq_true_eq]; exact hq)] at hp
      have e2 : bef (gT T k) (gT T k2) = decide (gx (gT T k) i < gx (gT T k2) i) := by unfold bef; rw [← hp, if_pos (by omega)]
      rw [e2]
      refine g_iload (pc := 38) dc_R_isBefore_38 rfl ?_
      refine g_iload (pc := 40) dc_R_isBefore_40 rfl ?_
      refine q_icmp_ge (pc := 42) (tgt := 113) i (min (gT T k).length (gT T k2).length) dc_R_isBefore_42 (by omega) (by omega) rfl (fun hc => absurd hc (by omega)) (fun hc42 => ?_)
      refine g_aload_n (pc := 45) dc_R_isBefore_45 rfl ?_
      refine g_getfield (pc := 46) dc_R_isBefore_46 fl_R_14 hR1 rfl ?_
      refine g_getfield (pc := 49) dc_R_isBefore_49 fl_R_51 hba rfl ?_
      refine g_iload_n (pc := 52) dc_R_isBefore_52 rfl ?_
      refine g_iload (pc := 53) dc_R_isBefore_53 rfl ?_
      refine g_iadd (pc := 55) (v := (nI ((ofs T k) + i))) dc_R_isBefore_55 (nI_add (ofs T k) i) ?_
      refine q_tx (pc := 56) i dc_R_isBefore_56 y1 y2 (by omega) (by omega) (by omega) ?_
      refine g_aload_n (pc := 57) dc_R_isBefore_57 rfl ?_
      refine g_getfield (pc := 58) dc_R_isBefore_58 fl_R_14 hR1 rfl ?_
      refine g_getfield (pc := 61) dc_R_isBefore_61 fl_R_51 hba rfl ?_
      refine g_iload (pc := 64) dc_R_isBefore_64 rfl ?_
      refine g_iload (pc := 66) dc_R_isBefore_66 rfl ?_
      refine g_iadd (pc := 68) (v := (nI ((ofs T k2) + i))) dc_R_isBefore_68 (nI_add (ofs T k2) i) ?_
      refine q_tx (pc := 69) i dc_R_isBefore_69 z1 z2 (by omega) (by omega) (by omega) ?_
      refine g_icmp_eq (pc := 70) (tgt := 107) dc_R_isBefore_70 rfl (fun hc => absurd hc (hq)) (fun hc70 => ?_)
      refine g_aload_n (pc := 73) dc_R_isBefore_73 rfl ?_
      refine g_getfield (pc := 74) dc_R_isBefore_74 fl_R_14 hR1 rfl ?_
      refine g_getfield (pc := 77) dc_R_isBefore_77 fl_R_51 hba rfl ?_
      refine g_iload_n (pc := 80) dc_R_isBefore_80 rfl ?_
      refine g_iload (pc := 81) dc_R_isBefore_81 rfl ?_
      refine g_iadd (pc := 83) (v := (nI ((ofs T k) + i))) dc_R_isBefore_83 (nI_add (ofs T k) i) ?_
      refine q_tx (pc := 84) i dc_R_isBefore_84 y1 y2 (by omega) (by omega) (by omega) ?_
      refine g_aload_n (pc := 85) dc_R_isBefore_85 rfl ?_
      refine g_getfield (pc := 86) dc_R_isBefore_86 fl_R_14 hR1 rfl ?_
      refine g_getfield (pc := 89) dc_R_isBefore_89 fl_R_51 hba rfl ?_
      refine g_iload (pc := 92) dc_R_isBefore_92 rfl ?_
      refine g_iload (pc := 94) dc_R_isBefore_94 rfl ?_
      refine g_iadd (pc := 96) (v := (nI ((ofs T k2) + i))) dc_R_isBefore_96 (nI_add (ofs T k2) i) ?_
      refine q_tx (pc := 97) i dc_R_isBefore_97 z1 z2 (by omega) (by omega) (by omega) ?_
      refine g_icmp_ge (pc := 98) (tgt := 105) dc_R_isBefore_98 rfl (fun hc98 => ?_) (fun hc98 => ?_)
      · have hi98 : ((gx (gT T k2) i)).toInt ≤ ((gx (gT T k) i)).toInt := Int32.le_iff_toInt_le.mp hc98
        refine g_iconst (pc := 105) (v := 0) dc_R_isBefore_105 rfl ?_
        exact g_zreturn dc_R_isBefore_106 rfl rfl ⟨congrArg (fun z => some (Value.int z)) (b1_f (Int32.not_lt.mpr hc98)), rfl⟩
      · have hi98 : ¬ (((gx (gT T k2) i)).toInt ≤ ((gx (gT T k) i)).toInt) := fun h9 => hc98 (Int32.le_iff_toInt_le.mpr h9)
        refine g_iconst (pc := 101) (v := 1) dc_R_isBefore_101 rfl ?_
        refine g_goto (pc := 102) (tgt := 106) dc_R_isBefore_102 rfl ?_
        exact g_zreturn dc_R_isBefore_106 rfl rfl ⟨congrArg (fun z => some (Value.int z)) (b1_t (Int32.not_le.mp hc98)), rfl⟩
theorem c_R_isBefore (hR : isR h a ab b cap e ecap T P) (hk : k < T.length) (hk2 : k2 < T.length) : am_C X mt_R_isBefore (d + 1) [.ref a, .int (nI k), .int (nI k2)] h (fun r h1 => r = some (.int (b1 (bef (gT T k) (gT T k2)))) ∧ h1 = h) := by
  show am_G X mt_R_isBefore (d + 1) 0 [some (.ref a), some (.int (nI k)), some (.int (nI k2)), none, none, none, none] [] h _
  have hR0 := hR
  obtain ⟨hR1, hR2, gE, hR3, hR4, hR5, hR6⟩ := hR
  have ho := hR0.of (k := k + 1) (by omega)
  have ho2 := hR0.of (k := k2 + 1) (by omega)
  have hs1 := ofs_s (T := T) hk
  have hs2 := ofs_s (T := T) hk2
  have hx1 := hR0.tt hk
  have hx2 := hR0.tt hk2
  have hba := hR2.ha
  obtain ⟨cp1, g1, y1, y2, y3, y4⟩ := hx1
  obtain ⟨cp2, g2, z1, z2, z3, z4⟩ := hx2
  refine g_aload_n (pc := 0) dc_R_isBefore_0 rfl ?_
  refine g_iload_n (pc := 1) dc_R_isBefore_1 rfl ?_
  refine g_v1 (pc := 2) (M' := mt_R_from) dc_R_isBefore_2 mo_R_from im_R_from se_R_from ln_R_31 hR1 rfl rfl (Nat.le_of_ble_eq_true rfl) (Nat.le_of_ble_eq_true rfl) (am_G.mono (c_R_from (i := k) hR0 (by omega)) ?_)
  intro r h1 hq
  rw [hq.1, hq.2]
  clear hq h1 r
  refine ⟨am_nti _, ?_⟩
  refine g_istore_n (pc := 5) dc_R_isBefore_5 (by decide) ?_
  show am_G X mt_R_isBefore _ 6 [some (.ref a), some (.int (nI k)), some (.int (nI k2)), some (.int (nI (ofs T k))), none, none, none] [] _ _
  refine g_aload_n (pc := 6) dc_R_isBefore_6 rfl ?_
  refine g_iload_n (pc := 7) dc_R_isBefore_7 rfl ?_
  refine g_v1 (pc := 8) (M' := mt_R_from) dc_R_isBefore_8 mo_R_from im_R_from se_R_from ln_R_31 hR1 rfl rfl (Nat.le_of_ble_eq_true rfl) (Nat.le_of_ble_eq_true rfl) (am_G.mono (c_R_from (i := k2) hR0 (by omega)) ?_)
  intro r h1 hq
  rw [hq.1, hq.2]
  clear hq h1 r
  refine ⟨am_nti _, ?_⟩
  refine g_istore (pc := 11) dc_R_isBefore_11 (by decide) ?_
  show am_G X mt_R_isBefore _ 13 [some (.ref a), some (.int (nI k)), some (.int (nI k2)), some (.int (nI (ofs T k))), some (.int (nI (ofs T k2))), none, none] [] _ _
  refine g_aload_n (pc := 13) dc_R_isBefore_13 rfl ?_
  refine g_getfield (pc := 14) dc_R_isBefore_14 fl_R_20 hR1 rfl ?_
  refine g_iload_n (pc := 17) dc_R_isBefore_17 rfl ?_
  refine q_ialoadV (pc := 18) k dc_R_isBefore_18 hR3 (by omega) (by omega) (v := nI (ofs T k + (gT T k).length)) ((hR4 k (by omega)).trans (congrArg nI (ofs_s (by omega)))) ?_
  refine g_iload_n (pc := 19) dc_R_isBefore_19 rfl ?_
  refine g_isub (pc := 20) (v := (nI ((gT T k).length))) dc_R_isBefore_20 ((q_sub (a := ofs T k + (gT T k).length) (b := ofs T k) (by omega)).trans (congrArg nI (by omega))) ?_
  refine g_aload_n (pc := 21) dc_R_isBefore_21 rfl ?_
  refine g_getfield (pc := 22) dc_R_isBefore_22 fl_R_20 hR1 rfl ?_
  refine g_iload_n (pc := 25) dc_R_isBefore_25 rfl ?_
  refine q_ialoadV (pc := 26) k2 dc_R_isBefore_26 hR3 (by omega) (by omega) (v := nI (ofs T k2 + (gT T k2).length)) ((hR4 k2 (by omega)).trans (congrArg nI (ofs_s (by omega)))) ?_
  refine g_iload (pc := 27) dc_R_isBefore_27 rfl ?_
  refine g_isub (pc := 29) (v := (nI ((gT T k2).length))) dc_R_isBefore_29 ((q_sub (a := ofs T k2 + (gT T k2).length) (b := ofs T k2) (by omega)).trans (congrArg nI (by omega))) ?_
  refine g_s2 (pc := 30) (M' := mt_JMath_min) dc_R_isBefore_30 mo_JMath_min st_JMath_min ln_R_63 (Nat.le_of_ble_eq_true rfl) (Nat.le_of_ble_eq_true rfl) (am_G.mono (c_JMath_min (x := (gT T k).length) (y := (gT T k2).length) (by omega) (by omega)) ?_)
  intro r h1 hq
  rw [hq.1, hq.2]
  clear hq h1 r
  refine ⟨am_nti _, ?_⟩
  refine g_istore (pc := 33) dc_R_isBefore_33 (by decide) ?_
  show am_G X mt_R_isBefore _ 35 [some (.ref a), some (.int (nI k)), some (.int (nI k2)), some (.int (nI (ofs T k))), some (.int (nI (ofs T k2))), some (.int (nI (Nat.min (gT T k).length (gT T k2).length))), none] [] _ _
  refine g_iconst (pc := 35) (v := 0) dc_R_isBefore_35 rfl ?_
  refine g_istore (pc := 36) dc_R_isBefore_36 (by decide) ?_
  show am_G X mt_R_isBefore _ 38 [some (.ref a), some (.int (nI k)), some (.int (nI k2)), some (.int (nI (ofs T k))), some (.int (nI (ofs T k2))), some (.int (nI (Nat.min (gT T k).length (gT T k2).length))), some (.int 0)] [] _ _
  exact l_R_isBefore hR0 hk hk2 (min (gT T k).length (gT T k2).length) 0 (by omega) rfl
end LF2
