/-! ===== the model's addresses: hosts, sites, order ===== -/
/-- where the host of an address ends; its site -/
def hen (D : List Int32) : Nat := fw (nev 47) D 7 D.length
def sit (D : List Int32) : List Int32 := sub D 0 (hen D)
theorem hen_bd {D : List Int32} (h : 8 ≤ D.length) : 7 ≤ hen D ∧ hen D ≤ D.length := fw_bd (by omega)
theorem adT.tt {S : MS} {T : List (List Int32)} {A B : List va_E} {k : Nat} (hA : A.length = 84) (h : adT S T) (hk : k < T.length) : tt (mput A S B) 87 (ofs T k) (gT T k) := by
  have h1 := adT.of h (k + 1) hk
  rw [ofs_s hk] at h1
  have h2 := h.2.2.1
  exact ⟨700000, S.addresses, mp_a hA 3 rfl, (h.2.1 k hk).2.2, by omega, by omega⟩
section ADS
variable {X : am_X} {d k k2 : Nat} {A B : List va_E} {S : MS} {T : List (List Int32)} {D : List Int32}
theorem c_M_hostEnd (hA : A.length = 84) (hT : adT S T) (hk : k < T.length) : am_C X mt_M_hostEnd (d + 1) [.ref 84, .int (nI k)] (mput A S B) (fun r h1 => r = some (.int (nI (ofs T k + hen (gT T k)))) ∧ h1 = mput A S B) := by
  show am_G X mt_M_hostEnd (d + 1) 0 [some (.ref 84), some (.int (nI k))] [] (mput A S B) _
  have hT0 := hT
  obtain ⟨hT1, hT2, hT3, hT4, hT5⟩ := hT
  have ho := adT.of hT0 k (by omega)
  have h8 := hT4 k hk
  refine g_aload_n (pc := 0) dc_M_hostEnd_0 rfl ?_
  refine g_getfield (pc := 1) dc_M_hostEnd_1 fl_M_41 (mp_o hA) rfl ?_
  refine g_aload_n (pc := 4) dc_M_hostEnd_4 rfl ?_
  refine g_getfield (pc := 5) dc_M_hostEnd_5 fl_M_31 (mp_o hA) rfl ?_
  refine g_iload_n (pc := 8) dc_M_hostEnd_8 rfl ?_
  refine q_ialoadV (pc := 9) k dc_M_hostEnd_9 (mp_a hA 4 rfl) (by omega) (by omega) (v := (nI (ofs T k))) (hT2 k (by omega)).1 ?_
  refine g_bipush (pc := 10) (v := 7) dc_M_hostEnd_10 rfl ?_
  refine g_iadd (pc := 12) (v := (nI ((ofs T k) + 7))) dc_M_hostEnd_12 (nI_add (ofs T k) 7) ?_
  refine g_aload_n (pc := 13) dc_M_hostEnd_13 rfl ?_
  refine g_getfield (pc := 14) dc_M_hostEnd_14 fl_M_31 (mp_o hA) rfl ?_
  refine g_iload_n (pc := 17) dc_M_hostEnd_17 rfl ?_
  refine q_ialoadV (pc := 18) k dc_M_hostEnd_18 (mp_a hA 4 rfl) (by omega) (by omega) (v := (nI (ofs T k))) (hT2 k (by omega)).1 ?_
  refine g_aload_n (pc := 19) dc_M_hostEnd_19 rfl ?_
  refine g_getfield (pc := 20) dc_M_hostEnd_20 fl_M_35 (mp_o hA) rfl ?_
  refine g_iload_n (pc := 23) dc_M_hostEnd_23 rfl ?_
  refine q_ialoadV (pc := 24) k dc_M_hostEnd_24 (mp_a hA 5 rfl) (by omega) (by omega) (v := (nI ((gT T k).length))) (hT2 k (by omega)).2.1 ?_
  refine g_iadd (pc := 25) (v := (nI ((ofs T k) + ((gT T k).length)))) dc_M_hostEnd_25 (nI_add (ofs T k) (gT T k).length) ?_
  refine g_bipush (pc := 26) (v := 47) dc_M_hostEnd_26 rfl ?_
  refine g_s4 (pc := 28) (M' := mt_M_seek) dc_M_hostEnd_28 mo_M_seek st_M_seek ln_M_48 (Nat.le_of_ble_eq_true rfl) (Nat.le_of_ble_eq_true rfl) (am_G.mono (t_M_seek (s := ofs T k) (L := gT T k) (f := 7) (t := (gT T k).length) (v := 47) (adT.tt hA hT0 hk) (by omega) (by omega)) ?_)
  intro r h1 hq
  rw [hq.1, hq.2]
  clear hq h1 r
  refine ⟨am_nti _, ?_⟩
  exact g_ireturn dc_M_hostEnd_31 rfl ⟨rfl, rfl⟩
theorem sit_len {D : List Int32} (h : 8 ≤ D.length) : (sit D).length = hen D := by
  unfold sit
  rw [sub_len (hen_bd h).2, Nat.sub_zero]
theorem sit_gx {D : List Int32} {j : Nat} (h : 8 ≤ D.length) (hj : j < hen D) : gx (sit D) j = gx D j := by
  unfold sit
  rw [gx_sub (by omega) (hen_bd h).2, Nat.zero_add]
theorem l_M_isSameSite (hA : A.length = 84) (hT : adT S T) (hk : k < T.length) (hk2 : k2 < T.length) (he : hen (gT T k2) = hen (gT T k)) : ∀ n i : Nat, i + n = hen (gT T k) → (∀ j, j < i → gx (gT T k) j = gx (gT T k2) j) → am_G X mt_M_isSameSite (d + 2) 39 [some (.ref 84), some (.int (nI k)), some (.int (nI k2)), some (.int (nI (hen (gT T k)))), some (.int 1), some (.int (nI i))] [] (mput A S B) (fun r h1 => r = some (.int (b1 (decide (sit (gT T k) = sit (gT T k2))))) ∧ h1 = mput A S B)
  | 0, i, e, hp => by
    have hT0 := hT
    obtain ⟨hT1, hT2, hT3, hT4, hT5⟩ := hT
    have ho := adT.of hT0 k (by omega)
    have ho2 := adT.of hT0 k2 (by omega)
    have h8 := hT4 k hk
    have h82 := hT4 k2 hk2
    have hb := hen_bd h8.1
    have hb2 := hen_bd h82.1
    have hx1 := (hT2 k hk).2.2
    have hx2 := (hT2 k2 hk2).2.2
    refine g_iload (pc := 39) dc_M_isSameSite_39 rfl ?_
    refine g_iload_n (pc := 41) dc_M_isSameSite_41 rfl ?_
    refine q_icmp_ge (pc := 42) (tgt := 94) i (hen (gT T k)) dc_M_isSameSite_42 (by omega) (by omega) rfl (fun hc42 => ?_) (fun hc => absurd hc (by omega))
    refine g_iload (pc := 94) dc_M_isSameSite_94 rfl ?_
    exact g_zreturn dc_M_isSameSite_96 rfl rfl ⟨congrArg (fun z => some (Value.int z)) (b1_t (eq_gx.mpr ⟨by rw [sit_len h8.1, sit_len h82.1, he], fun j hj => by rw [sit_len h82.1] at hj; rw [sit_gx h8.1 (by omega), sit_gx h82.1 hj]; exact hp j (by omega)⟩)), rfl⟩
  | n + 1, i, e, hp => by
    have hT0 := hT
    obtain ⟨hT1, hT2, hT3, hT4, hT5⟩ := hT
    have ho := adT.of hT0 k (by omega)
    have ho2 := adT.of hT0 k2 (by omega)
    have h8 := hT4 k hk
    have h82 := hT4 k2 hk2
    have hb := hen_bd h8.1
    have hb2 := hen_bd h82.1
    have hx1 := (hT2 k hk).2.2
    have hx2 := (hT2 k2 hk2).2.2
    refine g_iload (pc := 39) dc_M_isSameSite_39 rfl ?_
    refine g_iload_n (pc := 41) dc_M_isSameSite_41 rfl ?_
    refine q_icmp_ge (pc := 42) (tgt := 94) i (hen (gT T k)) dc_M_isSameSite_42 (by omega) (by omega) rfl (fun hc => absurd hc (by omega)) (fun hc42 => ?_)
    refine g_iload (pc := 45) dc_M_isSameSite_45 rfl ?_
    refine g_if_eq (pc := 47) (tgt := 94) dc_M_isSameSite_47 rfl (fun hc => absurd hc (by decide)) (fun _ => ?_)
    refine g_aload_n (pc := 50) dc_M_isSameSite_50 rfl ?_
    refine g_getfield (pc := 51) dc_M_isSameSite_51 fl_M_41 (mp_o hA) rfl ?_
    refine g_aload_n (pc := 54) dc_M_isSameSite_54 rfl ?_
    refine g_getfield (pc := 55) dc_M_isSameSite_55 fl_M_31 (mp_o hA) rfl ?_
    refine g_iload_n (pc := 58) dc_M_isSameSite_58 rfl ?_
    refine q_ialoadV (pc := 59) k dc_M_isSameSite_59 (mp_a hA 4 rfl) (by omega) (by omega) (v := (nI (ofs T k))) (hT2 k (by omega)).1 ?_
    refine g_iload (pc := 60) dc_M_isSameSite_60 rfl ?_
    refine g_iadd (pc := 62) (v := (nI ((ofs T k) + i))) dc_M_isSameSite_62 (nI_add (ofs T k) i) ?_
    refine q_tx (pc := 63) i dc_M_isSameSite_63 (mp_a hA 3 rfl) hx1 (by omega) (by omega) (by omega) ?_
    refine g_aload_n (pc := 64) dc_M_isSameSite_64 rfl ?_
    refine g_getfield (pc := 65) dc_M_isSameSite_65 fl_M_41 (mp_o hA) rfl ?_
    refine g_aload_n (pc := 68) dc_M_isSameSite_68 rfl ?_
    refine g_getfield (pc := 69) dc_M_isSameSite_69 fl_M_31 (mp_o hA) rfl ?_
    refine g_iload_n (pc := 72) dc_M_isSameSite_72 rfl ?_
    refine q_ialoadV (pc := 73) k2 dc_M_isSameSite_73 (mp_a hA 4 rfl) (by omega) (by omega) (v := (nI (ofs T k2))) (hT2 k2 (by omega)).1 ?_
    refine g_iload (pc := 74) dc_M_isSameSite_74 rfl ?_
    refine g_iadd (pc := 76) (v := (nI ((ofs T k2) + i))) dc_M_isSameSite_76 (nI_add (ofs T k2) i) ?_
    refine q_tx (pc := 77) i dc_M_isSameSite_77 (mp_a hA 3 rfl) hx2 (by omega) (by omega) (by omega) ?_
    refine g_icmp_ne (pc := 78) (tgt := 85) dc_M_isSameSite_78 rfl (fun hc78 => ?_) (fun hc78 => ?_)
    · refine g_iconst (pc := 85) (v := 0) dc_M_isSameSite_85 rfl ?_
      refine g_istore (pc := 86) dc_M_isSameSite_86 (by decide) ?_
      refine g_iinc (pc := 88) (v := (nI (i + 1))) dc_M_isSameSite_88 rfl (nI_add i 1) (by decide) ?_
      refine g_goto (pc := 91) (tgt := 39) dc_M_isSameSite_91 rfl ?_
      refine g_iload (pc := 39) dc_M_isSameSite_39 rfl ?_
      refine g_iload_n (pc := 41) dc_M_isSameSite_41 rfl ?_
      refine q_icmp_ge (pc := 42) (tgt := 94) (i + 1) (hen (gT T k)) dc_M_isSameSite_42 (by omega) (by omega) rfl (fun hc42 => ?_) (fun hc42 => ?_)
      · refine g_iload (pc := 94) dc_M_isSameSite_94 rfl ?_
        exact g_zreturn dc_M_isSameSite_96 rfl rfl ⟨congrArg (fun z => some (Value.int z)) (b1_f (fun h9 => hc78 (by have h7 := (eq_gx.mp h9).2 i (by rw [sit_len h82.1]; omega); rw [sit_gx h8.1 (by omega), sit_gx h82.1 (by omega)] at h7; exact h7))), rfl⟩
      · refine g_iload (pc := 45) dc_M_isSameSite_45 rfl ?_
        refine g_if_eq (pc := 47) (tgt := 94) dc_M_isSameSite_47 rfl (fun _ => ?_) (fun hc => absurd hc (by decide))
        refine g_iload (pc := 94) dc_M_isSameSite_94 rfl ?_
        exact g_zreturn dc_M_isSameSite_96 rfl rfl ⟨congrArg (fun z => some (Value.int z)) (b1_f (fun h9 => hc78 (by have h7 := (eq_gx.mp h9).2 i (by rw [sit_len h82.1]; omega); rw [sit_gx h8.1 (by omega), sit_gx h82.1 (by omega)] at h7; exact h7))), rfl⟩
    · refine g_iconst (pc := 81) (v := 1) dc_M_isSameSite_81 rfl ?_
      refine g_goto (pc := 82) (tgt := 86) dc_M_isSameSite_82 rfl ?_
      refine g_istore (pc := 86) dc_M_isSameSite_86 (by decide) ?_
      refine g_iinc (pc := 88) (v := (nI (i + 1))) dc_M_isSameSite_88 rfl (nI_add i 1) (by decide) ?_
      refine g_goto (pc := 91) (tgt := 39) dc_M_isSameSite_91 rfl ?_
      exact l_M_isSameSite hA hT0 hk hk2 he n (i + 1) (by omega) (fun j hj => by
        rcases Nat.eq_or_lt_of_le (Nat.le_of_lt_succ hj) with e9 | e9
        · rw [e9]; exact hc78
        · exact hp j e9)
theorem c_M_isSameSite (hA : A.length = 84) (hT : adT S T) (hk : k < T.length) (hk2 : k2 < T.length) : am_C X mt_M_isSameSite (d + 2) [.ref 84, .int (nI k), .int (nI k2)] (mput A S B) (fun r h1 => r = some (.int (b1 (decide (sit (gT T k) = sit (gT T k2))))) ∧ h1 = mput A S B) := by
  show am_G X mt_M_isSameSite (d + 2) 0 [some (.ref 84), some (.int (nI k)), some (.int (nI k2)), none, none, none] [] (mput A S B) _
  have hT0 := hT
  obtain ⟨hT1, hT2, hT3, hT4, hT5⟩ := hT
  have ho := adT.of hT0 k (by omega)
  have ho2 := adT.of hT0 k2 (by omega)
  have h8 := hT4 k hk
  have h82 := hT4 k2 hk2
  have hb := hen_bd h8.1
  have hb2 := hen_bd h82.1
  have hx1 := (hT2 k hk).2.2
  have hx2 := (hT2 k2 hk2).2.2
  refine g_aload_n (pc := 0) dc_M_isSameSite_0 rfl ?_
  refine g_iload_n (pc := 1) dc_M_isSameSite_1 rfl ?_
  refine g_v1 (pc := 2) (M' := mt_M_hostEnd) dc_M_isSameSite_2 mo_M_hostEnd im_M_hostEnd se_M_hostEnd ln_M_52 (mp_o hA) rfl rfl (Nat.le_of_ble_eq_true rfl) (Nat.le_of_ble_eq_true rfl) (am_G.mono (c_M_hostEnd (k := k) hA hT0 (by omega)) ?_)
  intro r h1 hq
  rw [hq.1, hq.2]
  clear hq h1 r
  refine ⟨am_nti _, ?_⟩
  refine g_aload_n (pc := 5) dc_M_isSameSite_5 rfl ?_
  refine g_getfield (pc := 6) dc_M_isSameSite_6 fl_M_31 (mp_o hA) rfl ?_
  refine g_iload_n (pc := 9) dc_M_isSameSite_9 rfl ?_
  refine q_ialoadV (pc := 10) k dc_M_isSameSite_10 (mp_a hA 4 rfl) (by omega) (by omega) (v := (nI (ofs T k))) (hT2 k (by omega)).1 ?_
  refine g_isub (pc := 11) (v := (nI (hen (gT T k)))) dc_M_isSameSite_11 (by rw [pk_sub (by omega), Nat.add_sub_cancel_left]) ?_
  refine g_istore_n (pc := 12) dc_M_isSameSite_12 (by decide) ?_
  refine g_aload_n (pc := 13) dc_M_isSameSite_13 rfl ?_
  refine g_iload_n (pc := 14) dc_M_isSameSite_14 rfl ?_
  refine g_v1 (pc := 15) (M' := mt_M_hostEnd) dc_M_isSameSite_15 mo_M_hostEnd im_M_hostEnd se_M_hostEnd ln_M_52 (mp_o hA) rfl rfl (Nat.le_of_ble_eq_true rfl) (Nat.le_of_ble_eq_true rfl) (am_G.mono (c_M_hostEnd (k := k2) hA hT0 (by omega)) ?_)
  intro r h1 hq
  rw [hq.1, hq.2]
  clear hq h1 r
  refine ⟨am_nti _, ?_⟩
  refine g_aload_n (pc := 18) dc_M_isSameSite_18 rfl ?_
  refine g_getfield (pc := 19) dc_M_isSameSite_19 fl_M_31 (mp_o hA) rfl ?_
  refine g_iload_n (pc := 22) dc_M_isSameSite_22 rfl ?_
  refine q_ialoadV (pc := 23) k2 dc_M_isSameSite_23 (mp_a hA 4 rfl) (by omega) (by omega) (v := (nI (ofs T k2))) (hT2 k2 (by omega)).1 ?_
  refine g_isub (pc := 24) (v := (nI (hen (gT T k2)))) dc_M_isSameSite_24 (by rw [pk_sub (by omega), Nat.add_sub_cancel_left]) ?_
  refine g_iload_n (pc := 25) dc_M_isSameSite_25 rfl ?_
  refine q_icmp_ne (pc := 26) (tgt := 33) (hen (gT T k2)) (hen (gT T k)) dc_M_isSameSite_26 (by omega) (by omega) rfl (fun hc26 => ?_) (fun hc26 => ?_)
  · refine g_iconst (pc := 33) (v := 0) dc_M_isSameSite_33 rfl ?_
    refine g_istore (pc := 34) dc_M_isSameSite_34 (by decide) ?_
    refine g_iconst (pc := 36) (v := 0) dc_M_isSameSite_36 rfl ?_
    refine g_istore (pc := 37) dc_M_isSameSite_37 (by decide) ?_
    refine g_iload (pc := 39) dc_M_isSameSite_39 rfl ?_
    refine g_iload_n (pc := 41) dc_M_isSameSite_41 rfl ?_
    refine q_icmp_ge (pc := 42) (tgt := 94) 0 (hen (gT T k)) dc_M_isSameSite_42 (by omega) (by omega) rfl (fun hc42 => ?_) (fun hc42 => ?_)
    · refine g_iload (pc := 94) dc_M_isSameSite_94 rfl ?_
      exact g_zreturn dc_M_isSameSite_96 rfl rfl ⟨congrArg (fun z => some (Value.int z)) (b1_f (fun h9 => hc26 (by have h7 := (eq_gx.mp h9).1; rw [sit_len h8.1, sit_len h82.1] at h7; exact h7.symm))), rfl⟩
    · refine g_iload (pc := 45) dc_M_isSameSite_45 rfl ?_
      refine g_if_eq (pc := 47) (tgt := 94) dc_M_isSameSite_47 rfl (fun _ => ?_) (fun hc => absurd hc (by decide))
      refine g_iload (pc := 94) dc_M_isSameSite_94 rfl ?_
      exact g_zreturn dc_M_isSameSite_96 rfl rfl ⟨congrArg (fun z => some (Value.int z)) (b1_f (fun h9 => hc26 (by have h7 := (eq_gx.mp h9).1; rw [sit_len h8.1, sit_len h82.1] at h7; exact h7.symm))), rfl⟩
  · refine g_iconst (pc := 29) (v := 1) dc_M_isSameSite_29 rfl ?_
    refine g_goto (pc := 30) (tgt := 34) dc_M_isSameSite_30 rfl ?_
    refine g_istore (pc := 34) dc_M_isSameSite_34 (by decide) ?_
    refine g_iconst (pc := 36) (v := 0) dc_M_isSameSite_36 rfl ?_
    refine g_istore (pc := 37) dc_M_isSameSite_37 (by decide) ?_
    exact l_M_isSameSite hA hT0 hk hk2 hc26 (hen (gT T k)) 0 (by omega) (fun j hj => absurd hj (by omega))
end ADS
