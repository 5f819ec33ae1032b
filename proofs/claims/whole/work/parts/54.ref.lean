/-! ===== a % with its two; the bytes of a reference ===== -/
def esx (L : List Int32) (f t : Nat) : Option Nat := if gx L f = 37 ∧ f + 2 < t then (match hx (gx L (f + 1)), hx (gx L (f + 2)) with | some p, some q => some (16 * p + q) | _, _ => none) else none
section ES
variable {L : List Int32} {f t k p q : Nat}
theorem esx_n1 (h : ¬ gx L f = 37) : esx L f t = none := if_neg (fun h9 => h h9.1)
theorem esx_n2 (h : ¬ f + 2 < t) : esx L f t = none := if_neg (fun h9 => h h9.2)
theorem esx_a (h : hx (gx L (f + 1)) = none) : esx L f t = none := by
  unfold esx
  split
  · rw [h]
  · rfl
theorem esx_b' (h : hx (gx L (f + 2)) = none) : esx L f t = none := by
  unfold esx
  split
  · rw [h]
    cases hx (gx L (f + 1)) <;> rfl
  · rfl
theorem esx_s (h1 : gx L f = 37) (h2 : f + 2 < t) (hp : hx (gx L (f + 1)) = some p) (hq : hx (gx L (f + 2)) = some q) : esx L f t = some (16 * p + q) := by
  unfold esx
  rw [if_pos ⟨h1, h2⟩, hp, hq]
theorem esx_i (h : esx L f t = some k) : gx L f = 37 ∧ f + 2 < t ∧ ∃ p q, hx (gx L (f + 1)) = some p ∧ hx (gx L (f + 2)) = some q ∧ k = 16 * p + q := by
  unfold esx at h
  split at h
  · rename_i h1
    refine ⟨h1.1, h1.2, ?_⟩
    split at h
    · rename_i p q hp hq
      cases h
      exact ⟨p, q, hp, hq, rfl⟩
    · cases h
  · cases h
theorem esx_lt (h : esx L f t = some k) : k < 256 := by
  obtain ⟨-, -, p, q, hp, hq, rfl⟩ := esx_i h
  have := hx_lt hp
  have := hx_lt hq
  omega
theorem esx_b : ∀ k, esx L f t = some k → k < 2 ^ 31 := fun k h => by have := esx_lt h; omega
end ES
theorem i2c_nn {v : Int32} (h : 0 ≤ v.toInt ∧ v.toInt ≤ 255) : (v.toUInt32 % 65536).toInt32 = v := by
  rw [pk_char]
  have e := i_nat (v := v) h.1
  have h1 : v.toBitVec.toNat = v.toInt.toNat := by
    have h2 : v.toInt = v.toBitVec.toInt := rfl
    rw [BitVec.toInt_eq_toNat_cond] at h2
    split at h2 <;> omega
  rw [h1, Nat.mod_eq_of_lt (by omega)]
  exact e.symm
theorem inc0 {v : Int32} : inc 0 v = true ↔ v = 34 ∨ v = 60 ∨ v = 62 ∨ v = 92 ∨ v = 94 ∨ v = 96 ∨ v = 123 ∨ v = 124 ∨ v = 125 := by
  unfold inc
  rw [decide_eq_true_iff]
  have e : cln 0 = 9 := by decide
  rw [e]
  constructor
  · rintro ⟨j, hj, rfl⟩
    rcases (by omega : j = 0 ∨ j = 1 ∨ j = 2 ∨ j = 3 ∨ j = 4 ∨ j = 5 ∨ j = 6 ∨ j = 7 ∨ j = 8) with rfl | rfl | rfl | rfl | rfl | rfl | rfl | rfl | rfl <;> decide
  · rintro (rfl | rfl | rfl | rfl | rfl | rfl | rfl | rfl | rfl) <;> decide
/-- a byte that a reference may have at k -/
def isRef (L : List Int32) (k t : Nat) : Bool := decide (33 ≤ (gx L k).toInt ∧ (gx L k).toInt ≤ 126) && (if gx L k = 37 then (esx L k t).isSome else !(inc 0 (gx L k)))
section RF
variable {L : List Int32} {k t : Nat}
theorem isRef_lo (h : ¬ (33 ≤ (gx L k).toInt ∧ (gx L k).toInt ≤ 126)) : isRef L k t = false := by unfold isRef; rw [decide_eq_false h, Bool.false_and]
theorem isRef_pc (h : 33 ≤ (gx L k).toInt ∧ (gx L k).toInt ≤ 126) (h1 : gx L k = 37) : isRef L k t = (esx L k t).isSome := by unfold isRef; rw [decide_eq_true h, Bool.true_and, if_pos h1]
theorem isRef_np (h : 33 ≤ (gx L k).toInt ∧ (gx L k).toInt ≤ 126) (h1 : ¬ gx L k = 37) : isRef L k t = !(inc 0 (gx L k)) := by unfold isRef; rw [decide_eq_true h, Bool.true_and, if_neg h1]
theorem isRef_inc (h : inc 0 (gx L k) = true) : isRef L k t = false := by
  unfold isRef
  have h1 : ¬ gx L k = 37 := fun e => by rw [e] at h; exact absurd h (by decide)
  rw [if_neg h1, h]
  exact Bool.and_false _
end RF
theorem alp_0 {P : Nat → Bool} {f t : Nat} (h : fx P f t < t) : (0 : Int32) = b1 (alp P f t) := b1_f (by omega)
theorem alp_1 {P : Nat → Bool} {f t : Nat} (h : t ≤ fx P f t) : (1 : Int32) = b1 (alp P f t) := b1_t h
section TXD
variable {X : am_X} {d : Nat} {h : List va_E} {v : Int32} {a s f t k : Nat} {L : List Int32}
theorem t_W_escapedByte (hx : tt h a s L) (hft : f < t) (ht : t ≤ L.length) : am_C X mt_W_escapedByte (d + 1) [.ref a, .int (nI (s + f)), .int (nI (s + t))] h (fun r h1 => r = some (.int (er (esx L f t))) ∧ h1 = h) := by
  show am_G X mt_W_escapedByte (d + 1) 0 [some (.ref a), some (.int (nI (s + f))), some (.int (nI (s + t))), none, none] [] h _
  obtain ⟨cap, g, ha, hT, hs, hc⟩ := hx
  refine g_aload_n (pc := 0) dc_W_escapedByte_0 rfl ?_
  refine g_iload_n (pc := 1) dc_W_escapedByte_1 rfl ?_
  refine q_tx (pc := 2) f dc_W_escapedByte_2 ha hT hs (by omega) hc ?_
  refine g_bipush (pc := 3) (v := 37) dc_W_escapedByte_3 rfl ?_
  refine g_icmp_ne (pc := 5) (tgt := 15) dc_W_escapedByte_5 rfl (fun hc5 => ?_) (fun hc5 => ?_)
  · refine g_iconst (pc := 15) (v := (-1)) dc_W_escapedByte_15 rfl ?_
    exact g_ireturn dc_W_escapedByte_16 rfl ⟨by rw [esx_n1 hc5]; rfl, rfl⟩
  · refine g_iload_n (pc := 8) dc_W_escapedByte_8 rfl ?_
    refine g_iconst (pc := 9) (v := 2) dc_W_escapedByte_9 rfl ?_
    refine g_iadd (pc := 10) (v := (nI (s + (f + 2)))) dc_W_escapedByte_10 (q_as s f 2) ?_
    refine g_iload_n (pc := 11) dc_W_escapedByte_11 rfl ?_
    refine q_icmp_lt (pc := 12) (tgt := 17) (s + (f + 2)) (s + t) dc_W_escapedByte_12 (by omega) (by omega) rfl (fun hc12 => ?_) (fun hc12 => ?_)
    · refine g_aload_n (pc := 17) dc_W_escapedByte_17 rfl ?_
      refine g_iload_n (pc := 18) dc_W_escapedByte_18 rfl ?_
      refine g_iconst (pc := 19) (v := 1) dc_W_escapedByte_19 rfl ?_
      refine g_iadd (pc := 20) (v := (nI (s + (f + 1)))) dc_W_escapedByte_20 (q_as s f 1) ?_
      refine q_tx (pc := 21) (f + 1) dc_W_escapedByte_21 ha hT hs (by omega) hc ?_
      refine g_s1 (pc := 22) (M' := mt_W_hexValue) dc_W_escapedByte_22 mo_W_hexValue st_W_hexValue ln_W_302 (Nat.le_of_ble_eq_true rfl) (Nat.le_of_ble_eq_true rfl) (am_G.mono (e_W_hexValue (v := (gx L (f + 1)))) ?_)
      intro r h1 hq
      rw [hq.1, hq.2]
      clear hq h1 r
      refine ⟨am_nti _, ?_⟩
      refine g_istore_n (pc := 25) dc_W_escapedByte_25 (by decide) ?_
      refine g_aload_n (pc := 26) dc_W_escapedByte_26 rfl ?_
      refine g_iload_n (pc := 27) dc_W_escapedByte_27 rfl ?_
      refine g_iconst (pc := 28) (v := 2) dc_W_escapedByte_28 rfl ?_
      refine g_iadd (pc := 29) (v := (nI (s + (f + 2)))) dc_W_escapedByte_29 (q_as s f 2) ?_
      refine q_tx (pc := 30) (f + 2) dc_W_escapedByte_30 ha hT hs (by omega) hc ?_
      refine g_s1 (pc := 31) (M' := mt_W_hexValue) dc_W_escapedByte_31 mo_W_hexValue st_W_hexValue ln_W_302 (Nat.le_of_ble_eq_true rfl) (Nat.le_of_ble_eq_true rfl) (am_G.mono (e_W_hexValue (v := (gx L (f + 2)))) ?_)
      intro r h1 hq
      rw [hq.1, hq.2]
      clear hq h1 r
      refine ⟨am_nti _, ?_⟩
      refine g_istore (pc := 34) dc_W_escapedByte_34 (by decide) ?_
      refine g_iload_n (pc := 36) dc_W_escapedByte_36 rfl ?_
      refine g_iconst (pc := 37) (v := (-1)) dc_W_escapedByte_37 rfl ?_
      refine q_o_eq (pc := 38) (tgt := 47) dc_W_escapedByte_38 hx_b rfl (fun hc38 => ?_) (fun k38 hc38 => ?_)
      · rw [hc38]
        refine g_iconst (pc := 47) (v := (-1)) dc_W_escapedByte_47 rfl ?_
        refine g_goto (pc := 48) (tgt := 58) dc_W_escapedByte_48 rfl ?_
        exact g_ireturn dc_W_escapedByte_58 rfl ⟨by rw [esx_a hc38]; rfl, rfl⟩
      · rw [hc38]
        rw [show er (some k38) = nI k38 from rfl]
        have hk38 := hx_b k38 hc38
        refine g_iload (pc := 41) dc_W_escapedByte_41 rfl ?_
        refine g_iconst (pc := 43) (v := (-1)) dc_W_escapedByte_43 rfl ?_
        refine q_o_ne (pc := 44) (tgt := 51) dc_W_escapedByte_44 hx_b rfl (fun k44 hc44 => ?_) (fun hc44 => ?_)
        · rw [hc44]
          rw [show er (some k44) = nI k44 from rfl]
          have hk44 := hx_b k44 hc44
          refine g_bipush (pc := 51) (v := 16) dc_W_escapedByte_51 rfl ?_
          refine g_iload_n (pc := 53) dc_W_escapedByte_53 rfl ?_
          refine g_imul (pc := 54) (v := (nI (16 * k38))) dc_W_escapedByte_54 (pk_mul 16 k38) ?_
          refine g_iload (pc := 55) dc_W_escapedByte_55 rfl ?_
          refine g_iadd (pc := 57) (v := (nI (16 * k38 + k44))) dc_W_escapedByte_57 (nI_add (16 * k38) k44) ?_
          exact g_ireturn dc_W_escapedByte_58 rfl ⟨by rw [esx_s hc5 (by omega) hc38 hc44]; rfl, rfl⟩
        · rw [hc44]
          refine g_iconst (pc := 47) (v := (-1)) dc_W_escapedByte_47 rfl ?_
          refine g_goto (pc := 48) (tgt := 58) dc_W_escapedByte_48 rfl ?_
          exact g_ireturn dc_W_escapedByte_58 rfl ⟨by rw [esx_b' hc44]; rfl, rfl⟩
    · refine g_iconst (pc := 15) (v := (-1)) dc_W_escapedByte_15 rfl ?_
      exact g_ireturn dc_W_escapedByte_16 rfl ⟨by rw [esx_n2 (by omega)]; rfl, rfl⟩
theorem t_M_isOfReference (hx : tt h a s L) (hft : k < t) (ht : t ≤ L.length) : am_C X mt_M_isOfReference (d + 2) [.ref a, .int (nI (s + k)), .int (nI (s + t))] h (fun r h1 => r = some (.int (b1 (isRef L k t))) ∧ h1 = h) := by
  show am_G X mt_M_isOfReference (d + 2) 0 [some (.ref a), some (.int (nI (s + k))), some (.int (nI (s + t))), none] [] h _
  obtain ⟨cap, g, ha, hT, hs, hc⟩ := hx
  refine g_aload_n (pc := 0) dc_M_isOfReference_0 rfl ?_
  refine g_iload_n (pc := 1) dc_M_isOfReference_1 rfl ?_
  refine q_tx (pc := 2) k dc_M_isOfReference_2 ha hT hs (by omega) hc ?_
  refine g_istore_n (pc := 3) dc_M_isOfReference_3 (by decide) ?_
  refine g_iload_n (pc := 4) dc_M_isOfReference_4 rfl ?_
  refine g_bipush (pc := 5) (v := 33) dc_M_isOfReference_5 rfl ?_
  refine g_icmp_lt (pc := 7) (tgt := 16) dc_M_isOfReference_7 rfl (fun hc7 => ?_) (fun hc7 => ?_)
  · have hi7 : ((gx L k)).toInt < (33 : Int) := Int32.lt_iff_toInt_lt.mp hc7
    refine g_iconst (pc := 16) (v := 0) dc_M_isOfReference_16 rfl ?_
    exact g_zreturn dc_M_isOfReference_17 rfl rfl ⟨by rw [isRef_lo (by omega)]; rfl, rfl⟩
  · have hi7 : ¬ (((gx L k)).toInt < (33 : Int)) := fun h9 => hc7 (Int32.lt_iff_toInt_lt.mpr h9)
    refine g_iload_n (pc := 10) dc_M_isOfReference_10 rfl ?_
    refine g_bipush (pc := 11) (v := 126) dc_M_isOfReference_11 rfl ?_
    refine g_icmp_le (pc := 13) (tgt := 18) dc_M_isOfReference_13 rfl (fun hc13 => ?_) (fun hc13 => ?_)
    · have hi13 : ((gx L k)).toInt ≤ (126 : Int) := Int32.le_iff_toInt_le.mp hc13
      refine g_iload_n (pc := 18) dc_M_isOfReference_18 rfl ?_
      refine g_bipush (pc := 19) (v := 37) dc_M_isOfReference_19 rfl ?_
      refine g_icmp_ne (pc := 21) (tgt := 59) dc_M_isOfReference_21 rfl (fun hc21 => ?_) (fun hc21 => ?_)
      · refine g_iload_n (pc := 59) dc_M_isOfReference_59 rfl ?_
        refine g_bipush (pc := 60) (v := 34) dc_M_isOfReference_60 rfl ?_
        refine g_icmp_eq (pc := 62) (tgt := 117) dc_M_isOfReference_62 rfl (fun hc62 => ?_) (fun hc62 => ?_)
        · refine g_iconst (pc := 117) (v := 0) dc_M_isOfReference_117 rfl ?_
          exact g_zreturn dc_M_isOfReference_118 rfl rfl ⟨by rw [isRef_inc (inc0.mpr (by simp [hc62]))]; rfl, rfl⟩
        · refine g_iload_n (pc := 65) dc_M_isOfReference_65 rfl ?_
          refine g_bipush (pc := 66) (v := 60) dc_M_isOfReference_66 rfl ?_
          refine g_icmp_eq (pc := 68) (tgt := 117) dc_M_isOfReference_68 rfl (fun hc68 => ?_) (fun hc68 => ?_)
          · refine g_iconst (pc := 117) (v := 0) dc_M_isOfReference_117 rfl ?_
            exact g_zreturn dc_M_isOfReference_118 rfl rfl ⟨by rw [isRef_inc (inc0.mpr (by simp [hc68]))]; rfl, rfl⟩
          · refine g_iload_n (pc := 71) dc_M_isOfReference_71 rfl ?_
            refine g_bipush (pc := 72) (v := 62) dc_M_isOfReference_72 rfl ?_
            refine g_icmp_eq (pc := 74) (tgt := 117) dc_M_isOfReference_74 rfl (fun hc74 => ?_) (fun hc74 => ?_)
            · refine g_iconst (pc := 117) (v := 0) dc_M_isOfReference_117 rfl ?_
              exact g_zreturn dc_M_isOfReference_118 rfl rfl ⟨by rw [isRef_inc (inc0.mpr (by simp [hc74]))]; rfl, rfl⟩
            · refine g_iload_n (pc := 77) dc_M_isOfReference_77 rfl ?_
              refine g_bipush (pc := 78) (v := 92) dc_M_isOfReference_78 rfl ?_
              refine g_icmp_eq (pc := 80) (tgt := 117) dc_M_isOfReference_80 rfl (fun hc80 => ?_) (fun hc80 => ?_)
              · refine g_iconst (pc := 117) (v := 0) dc_M_isOfReference_117 rfl ?_
                exact g_zreturn dc_M_isOfReference_118 rfl rfl ⟨by rw [isRef_inc (inc0.mpr (by simp [hc80]))]; rfl, rfl⟩
              · refine g_iload_n (pc := 83) dc_M_isOfReference_83 rfl ?_
                refine g_bipush (pc := 84) (v := 94) dc_M_isOfReference_84 rfl ?_
                refine g_icmp_eq (pc := 86) (tgt := 117) dc_M_isOfReference_86 rfl (fun hc86 => ?_) (fun hc86 => ?_)
                · refine g_iconst (pc := 117) (v := 0) dc_M_isOfReference_117 rfl ?_
                  exact g_zreturn dc_M_isOfReference_118 rfl rfl ⟨by rw [isRef_inc (inc0.mpr (by simp [hc86]))]; rfl, rfl⟩
                · refine g_iload_n (pc := 89) dc_M_isOfReference_89 rfl ?_
                  refine g_bipush (pc := 90) (v := 96) dc_M_isOfReference_90 rfl ?_
                  refine g_icmp_eq (pc := 92) (tgt := 117) dc_M_isOfReference_92 rfl (fun hc92 => ?_) (fun hc92 => ?_)
                  · refine g_iconst (pc := 117) (v := 0) dc_M_isOfReference_117 rfl ?_
                    exact g_zreturn dc_M_isOfReference_118 rfl rfl ⟨by rw [isRef_inc (inc0.mpr (by simp [hc92]))]; rfl, rfl⟩
                  · refine g_iload_n (pc := 95) dc_M_isOfReference_95 rfl ?_
                    refine g_bipush (pc := 96) (v := 123) dc_M_isOfReference_96 rfl ?_
                    refine g_icmp_eq (pc := 98) (tgt := 117) dc_M_isOfReference_98 rfl (fun hc98 => ?_) (fun hc98 => ?_)
                    · refine g_iconst (pc := 117) (v := 0) dc_M_isOfReference_117 rfl ?_
                      exact g_zreturn dc_M_isOfReference_118 rfl rfl ⟨by rw [isRef_inc (inc0.mpr (by simp [hc98]))]; rfl, rfl⟩
                    · refine g_iload_n (pc := 101) dc_M_isOfReference_101 rfl ?_
                      refine g_bipush (pc := 102) (v := 124) dc_M_isOfReference_102 rfl ?_
                      refine g_icmp_eq (pc := 104) (tgt := 117) dc_M_isOfReference_104 rfl (fun hc104 => ?_) (fun hc104 => ?_)
                      · refine g_iconst (pc := 117) (v := 0) dc_M_isOfReference_117 rfl ?_
                        exact g_zreturn dc_M_isOfReference_118 rfl rfl ⟨by rw [isRef_inc (inc0.mpr (by simp [hc104]))]; rfl, rfl⟩
                      · refine g_iload_n (pc := 107) dc_M_isOfReference_107 rfl ?_
                        refine g_bipush (pc := 108) (v := 125) dc_M_isOfReference_108 rfl ?_
                        refine g_icmp_eq (pc := 110) (tgt := 117) dc_M_isOfReference_110 rfl (fun hc110 => ?_) (fun hc110 => ?_)
                        · refine g_iconst (pc := 117) (v := 0) dc_M_isOfReference_117 rfl ?_
                          exact g_zreturn dc_M_isOfReference_118 rfl rfl ⟨by rw [isRef_inc (inc0.mpr (by simp [hc110]))]; rfl, rfl⟩
                        · refine g_iconst (pc := 113) (v := 1) dc_M_isOfReference_113 rfl ?_
                          refine g_goto (pc := 114) (tgt := 118) dc_M_isOfReference_114 rfl ?_
                          exact g_zreturn dc_M_isOfReference_118 rfl rfl ⟨by rw [isRef_np ⟨by omega, by omega⟩ hc21, show inc 0 (gx L k) = false from Bool.eq_false_iff.mpr (fun h9 => by have h8 := inc0.mp h9; simp [hc62, hc68, hc74, hc80, hc86, hc92, hc98, hc104, hc110] at h8)]; rfl, rfl⟩
      · refine g_iload_n (pc := 24) dc_M_isOfReference_24 rfl ?_
        refine g_iconst (pc := 25) (v := 2) dc_M_isOfReference_25 rfl ?_
        refine g_iadd (pc := 26) (v := (nI (s + (k + 2)))) dc_M_isOfReference_26 (q_as s k 2) ?_
        refine g_iload_n (pc := 27) dc_M_isOfReference_27 rfl ?_
        refine q_icmp_ge (pc := 28) (tgt := 57) (s + (k + 2)) (s + t) dc_M_isOfReference_28 (by omega) (by omega) rfl (fun hc28 => ?_) (fun hc28 => ?_)
        · refine g_iconst (pc := 57) (v := 0) dc_M_isOfReference_57 rfl ?_
          exact g_zreturn dc_M_isOfReference_58 rfl rfl ⟨by rw [isRef_pc ⟨by omega, by omega⟩ hc21, esx_n2 (by omega)]; rfl, rfl⟩
        · refine g_aload_n (pc := 31) dc_M_isOfReference_31 rfl ?_
          refine g_iload_n (pc := 32) dc_M_isOfReference_32 rfl ?_
          refine g_iconst (pc := 33) (v := 1) dc_M_isOfReference_33 rfl ?_
          refine g_iadd (pc := 34) (v := (nI (s + (k + 1)))) dc_M_isOfReference_34 (q_as s k 1) ?_
          refine q_tx (pc := 35) (k + 1) dc_M_isOfReference_35 ha hT hs (by omega) hc ?_
          refine g_s1 (pc := 36) (M' := mt_M_hex) dc_M_isOfReference_36 mo_M_hex st_M_hex ln_M_55 (Nat.le_of_ble_eq_true rfl) (Nat.le_of_ble_eq_true rfl) (am_G.mono (e_M_hex (v := (gx L (k + 1)))) ?_)
          intro r h1 hq
          rw [hq.1, hq.2]
          clear hq h1 r
          refine ⟨am_nti _, ?_⟩
          refine q_o_lt (pc := 39) (tgt := 57) dc_M_isOfReference_39 hx_b rfl (fun hc39 => ?_) (fun k39 hc39 => ?_)
          · refine g_iconst (pc := 57) (v := 0) dc_M_isOfReference_57 rfl ?_
            exact g_zreturn dc_M_isOfReference_58 rfl rfl ⟨by rw [isRef_pc ⟨by omega, by omega⟩ hc21, esx_a hc39]; rfl, rfl⟩
          · have hk39 := hx_b k39 hc39
            refine g_aload_n (pc := 42) dc_M_isOfReference_42 rfl ?_
            refine g_iload_n (pc := 43) dc_M_isOfReference_43 rfl ?_
            refine g_iconst (pc := 44) (v := 2) dc_M_isOfReference_44 rfl ?_
            refine g_iadd (pc := 45) (v := (nI (s + (k + 2)))) dc_M_isOfReference_45 (q_as s k 2) ?_
            refine q_tx (pc := 46) (k + 2) dc_M_isOfReference_46 ha hT hs (by omega) hc ?_
            refine g_s1 (pc := 47) (M' := mt_M_hex) dc_M_isOfReference_47 mo_M_hex st_M_hex ln_M_55 (Nat.le_of_ble_eq_true rfl) (Nat.le_of_ble_eq_true rfl) (am_G.mono (e_M_hex (v := (gx L (k + 2)))) ?_)
            intro r h1 hq
            rw [hq.1, hq.2]
            clear hq h1 r
            refine ⟨am_nti _, ?_⟩
            refine q_o_lt (pc := 50) (tgt := 57) dc_M_isOfReference_50 hx_b rfl (fun hc50 => ?_) (fun k50 hc50 => ?_)
            · refine g_iconst (pc := 57) (v := 0) dc_M_isOfReference_57 rfl ?_
              exact g_zreturn dc_M_isOfReference_58 rfl rfl ⟨by rw [isRef_pc ⟨by omega, by omega⟩ hc21, esx_b' hc50]; rfl, rfl⟩
            · have hk50 := hx_b k50 hc50
              refine g_iconst (pc := 53) (v := 1) dc_M_isOfReference_53 rfl ?_
              refine g_goto (pc := 54) (tgt := 58) dc_M_isOfReference_54 rfl ?_
              exact g_zreturn dc_M_isOfReference_58 rfl rfl ⟨by rw [isRef_pc ⟨by omega, by omega⟩ hc21, esx_s hc21 (by omega) hc39 hc50]; rfl, rfl⟩
    · have hi13 : ¬ (((gx L k)).toInt ≤ (126 : Int)) := fun h9 => hc13 (Int32.le_iff_toInt_le.mpr h9)
      refine g_iconst (pc := 16) (v := 0) dc_M_isOfReference_16 rfl ?_
      exact g_zreturn dc_M_isOfReference_17 rfl rfl ⟨by rw [isRef_lo (by omega)]; rfl, rfl⟩
theorem inc_s {x : Option Nat} {i k : Nat} {v : Int32} (h : x = none ↔ inc i v = false) (hk : x = some k) : inc i v = true := by
  cases e : inc i v with
  | true => rfl
  | false => rw [h.mpr e] at hk; cases hk
theorem v_A_isClean {Q : Option Value → List va_E → Prop}  (hx : tt h a s L) (ht : t ≤ L.length) : ∀ n i : Nat, i + n = t → am_G X mt_A_isClean (d + 4) 2 [some (.ref a), some (.int (nI (s + f))), some (.int (nI (s + t))), some (.int (nI (s + (fx (fun j => isRef L j t) i t)))), none] [] h Q → am_G X mt_A_isClean (d + 4) 2 [some (.ref a), some (.int (nI (s + f))), some (.int (nI (s + t))), some (.int (nI (s + i))), none] [] h Q
  | 0, i, e, K => by
    have e1 : fx (fun j => isRef L j t) i t = i := fx_0 (by omega)
    rw [e1] at K
    exact K
  | n + 1, i, e, K => by
    by_cases hp : (fun j => isRef L j t) i = true
    · rw [fx_t (P := fun j => isRef L j t) (f := i) (t := t) (by omega) hp] at K
      have hx0 := hx
      obtain ⟨cap, g, ha, hT, hs, hc⟩ := hx
      refine g_iload_n (pc := 2) dc_A_isClean_2 rfl ?_
      refine g_iload_n (pc := 3) dc_A_isClean_3 rfl ?_
      refine q_icmp_ge (pc := 4) (tgt := 64) (s + i) (s + t) dc_A_isClean_4 (by omega) (by omega) rfl (fun hc => absurd hc (by omega)) (fun hc4 => ?_)
      refine g_aload_n (pc := 7) dc_A_isClean_7 rfl ?_
      refine g_iload_n (pc := 8) dc_A_isClean_8 rfl ?_
      refine q_tx (pc := 9) i dc_A_isClean_9 ha hT hs (by omega) hc ?_
      refine g_istore (pc := 10) dc_A_isClean_10 (by decide) ?_
      refine g_iload (pc := 12) dc_A_isClean_12 rfl ?_
      refine g_bipush (pc := 14) (v := 33) dc_A_isClean_14 rfl ?_
      refine g_icmp_lt (pc := 16) (tgt := 37) dc_A_isClean_16 rfl (fun hc16 => ?_) (fun hc16 => ?_)
      · have hi16 : ((gx L i)).toInt < (33 : Int) := Int32.lt_iff_toInt_lt.mp hc16
        exact absurd hp (by show ¬ isRef L i t = true; rw [isRef_lo (by omega)]; decide)
      · have hi16 : ¬ (((gx L i)).toInt < (33 : Int)) := fun h9 => hc16 (Int32.lt_iff_toInt_lt.mpr h9)
        refine g_iload (pc := 19) dc_A_isClean_19 rfl ?_
        refine g_bipush (pc := 21) (v := 126) dc_A_isClean_21 rfl ?_
        refine g_icmp_gt (pc := 23) (tgt := 37) dc_A_isClean_23 rfl (fun hc23 => ?_) (fun hc23 => ?_)
        · have hi23 : (126 : Int) < ((gx L i)).toInt := Int32.lt_iff_toInt_lt.mp hc23
          exact absurd hp (by show ¬ isRef L i t = true; rw [isRef_lo (by omega)]; decide)
        · have hi23 : ¬ ((126 : Int) < ((gx L i)).toInt) := fun h9 => hc23 (Int32.lt_iff_toInt_lt.mpr h9)
          refine g_ldcS (pc := 26) 0 dc_A_isClean_26 (by decide) rfl rfl ?_
          refine g_iload (pc := 28) dc_A_isClean_28 rfl ?_
          refine g_i2c (pc := 30) dc_A_isClean_30 (i2c_nn ⟨by omega, by omega⟩) ?_
          refine g_x1 (pc := 31) (M' := mt_JString_indexOf_0) dc_A_isClean_31 mo_JString_indexOf_0 im_JString_indexOf_0 se_JString_indexOf_0 (am_t2 218 rfl rfl) (by decide) (Nat.le_of_ble_eq_true rfl) (Nat.le_of_ble_eq_true rfl) (am_G.mono (c_JString_indexOf_0 (i := 0) (v := gx L i) (by decide) (by decide) ⟨by omega, by omega⟩) ?_)
          intro r h1 hq
          obtain ⟨⟨x, hq1, hx1, hx2⟩, hq2⟩ := hq
          rw [hq1, hq2]
          clear hq1 hq2 h1 r
          refine ⟨am_nti _, ?_⟩
          refine q_o_lt (pc := 34) (tgt := 39) dc_A_isClean_34 (cb64 hx1) rfl (fun hc34 => ?_) (fun k34 hc34 => ?_)
          · refine g_iload (pc := 39) dc_A_isClean_39 rfl ?_
            refine g_bipush (pc := 41) (v := 37) dc_A_isClean_41 rfl ?_
            refine g_icmp_ne (pc := 43) (tgt := 58) dc_A_isClean_43 rfl (fun hc43 => ?_) (fun hc43 => ?_)
            · refine g_iinc (pc := 58) (v := (nI (s + (i + 1)))) dc_A_isClean_58 rfl (q_as s i 1) (by decide) ?_
              refine g_goto (pc := 61) (tgt := 2) dc_A_isClean_61 rfl ?_
              refine am_wk (am_le_s (am_le_s (am_le_s (am_le_s (am_le_n am_le_0))))) ?_
              exact v_A_isClean hx0 ht n (i + 1) (by omega) K
            · refine g_aload_n (pc := 46) dc_A_isClean_46 rfl ?_
              refine g_iload_n (pc := 47) dc_A_isClean_47 rfl ?_
              refine g_iload_n (pc := 48) dc_A_isClean_48 rfl ?_
              refine g_s3 (pc := 49) (M' := mt_W_escapedByte) dc_A_isClean_49 mo_W_escapedByte st_W_escapedByte ln_A_83 (Nat.le_of_ble_eq_true rfl) (Nat.le_of_ble_eq_true rfl) (am_G.mono (t_W_escapedByte (f := i) (t := t) hx0 (by omega) (by omega)) ?_)
              intro r h1 hq
              rw [hq.1, hq.2]
              clear hq h1 r
              refine ⟨am_nti _, ?_⟩
              refine g_iconst (pc := 52) (v := (-1)) dc_A_isClean_52 rfl ?_
              refine q_o_ne (pc := 53) (tgt := 58) dc_A_isClean_53 esx_b rfl (fun k53 hc53 => ?_) (fun hc53 => ?_)
              · have hk53 := esx_b k53 hc53
                refine g_iinc (pc := 58) (v := (nI (s + (i + 1)))) dc_A_isClean_58 rfl (q_as s i 1) (by decide) ?_
                refine g_goto (pc := 61) (tgt := 2) dc_A_isClean_61 rfl ?_
                refine am_wk (am_le_s (am_le_s (am_le_s (am_le_s (am_le_n am_le_0))))) ?_
                exact v_A_isClean hx0 ht n (i + 1) (by omega) K
              · exact absurd hp (by show ¬ isRef L i t = true; rw [isRef_pc ⟨by omega, by omega⟩ hc43, hc53]; decide)
          · have hk34 := (cb64 hx1) k34 hc34
            exact absurd hp (by show ¬ isRef L i t = true; rw [isRef_inc (inc_s hx2 hc34)]; decide)
    · rw [fx_f (P := fun j => isRef L j t) (f := i) (t := t) hp] at K
      exact K
theorem t_A_isClean (hx : tt h a s L) (hft : f ≤ t) (ht : t ≤ L.length) : am_C X mt_A_isClean (d + 4) [.ref a, .int (nI (s + f)), .int (nI (s + t))] h (fun r h1 => r = some (.int (b1 (alp (fun j => isRef L j t) f t))) ∧ h1 = h) := by
  show am_G X mt_A_isClean (d + 4) 0 [some (.ref a), some (.int (nI (s + f))), some (.int (nI (s + t))), none, none] [] h _
  have hx0 := hx
  refine g_iload_n (pc := 0) dc_A_isClean_0 rfl ?_
  refine g_istore_n (pc := 1) dc_A_isClean_1 (by decide) ?_
  refine v_A_isClean hx ht (t - f) f (by omega) ?_
  have hb := fx_bd (P := fun j => isRef L j t) hft
  have ho := fx_out (P := fun j => isRef L j t) (f := f) (t := t)
  have he := alp_0 (P := fun j => isRef L j t) (f := f) (t := t)
  have he1 := alp_1 (P := fun j => isRef L j t) (f := f) (t := t)
  generalize fx (fun j => isRef L j t) f t = i at *
  obtain ⟨cap, g, ha, hT, hs, hc⟩ := hx
  refine g_iload_n (pc := 2) dc_A_isClean_2 rfl ?_
  refine g_iload_n (pc := 3) dc_A_isClean_3 rfl ?_
  refine q_icmp_ge (pc := 4) (tgt := 64) (s + i) (s + t) dc_A_isClean_4 (by omega) (by omega) rfl (fun hc4 => ?_) (fun hc4 => ?_)
  · refine g_iconst (pc := 64) (v := 1) dc_A_isClean_64 rfl ?_
    exact g_zreturn dc_A_isClean_65 rfl rfl ⟨congrArg (fun z => some (Value.int z)) (he1 (by omega)), rfl⟩
  · refine g_aload_n (pc := 7) dc_A_isClean_7 rfl ?_
    refine g_iload_n (pc := 8) dc_A_isClean_8 rfl ?_
    refine q_tx (pc := 9) i dc_A_isClean_9 ha hT hs (by omega) hc ?_
    refine g_istore (pc := 10) dc_A_isClean_10 (by decide) ?_
    refine g_iload (pc := 12) dc_A_isClean_12 rfl ?_
    refine g_bipush (pc := 14) (v := 33) dc_A_isClean_14 rfl ?_
    refine g_icmp_lt (pc := 16) (tgt := 37) dc_A_isClean_16 rfl (fun hc16 => ?_) (fun hc16 => ?_)
    · have hi16 : ((gx L i)).toInt < (33 : Int) := Int32.lt_iff_toInt_lt.mp hc16
      refine g_iconst (pc := 37) (v := 0) dc_A_isClean_37 rfl ?_
      exact g_zreturn dc_A_isClean_38 rfl rfl ⟨congrArg (fun z => some (Value.int z)) (he (by omega)), rfl⟩
    · have hi16 : ¬ (((gx L i)).toInt < (33 : Int)) := fun h9 => hc16 (Int32.lt_iff_toInt_lt.mpr h9)
      refine g_iload (pc := 19) dc_A_isClean_19 rfl ?_
      refine g_bipush (pc := 21) (v := 126) dc_A_isClean_21 rfl ?_
      refine g_icmp_gt (pc := 23) (tgt := 37) dc_A_isClean_23 rfl (fun hc23 => ?_) (fun hc23 => ?_)
      · have hi23 : (126 : Int) < ((gx L i)).toInt := Int32.lt_iff_toInt_lt.mp hc23
        refine g_iconst (pc := 37) (v := 0) dc_A_isClean_37 rfl ?_
        exact g_zreturn dc_A_isClean_38 rfl rfl ⟨congrArg (fun z => some (Value.int z)) (he (by omega)), rfl⟩
      · have hi23 : ¬ ((126 : Int) < ((gx L i)).toInt) := fun h9 => hc23 (Int32.lt_iff_toInt_lt.mpr h9)
        refine g_ldcS (pc := 26) 0 dc_A_isClean_26 (by decide) rfl rfl ?_
        refine g_iload (pc := 28) dc_A_isClean_28 rfl ?_
        refine g_i2c (pc := 30) dc_A_isClean_30 (i2c_nn ⟨by omega, by omega⟩) ?_
        refine g_x1 (pc := 31) (M' := mt_JString_indexOf_0) dc_A_isClean_31 mo_JString_indexOf_0 im_JString_indexOf_0 se_JString_indexOf_0 (am_t2 218 rfl rfl) (by decide) (Nat.le_of_ble_eq_true rfl) (Nat.le_of_ble_eq_true rfl) (am_G.mono (c_JString_indexOf_0 (i := 0) (v := gx L i) (by decide) (by decide) ⟨by omega, by omega⟩) ?_)
        intro r h1 hq
        obtain ⟨⟨x, hq1, hx1, hx2⟩, hq2⟩ := hq
        rw [hq1, hq2]
        clear hq1 hq2 h1 r
        refine ⟨am_nti _, ?_⟩
        refine q_o_lt (pc := 34) (tgt := 39) dc_A_isClean_34 (cb64 hx1) rfl (fun hc34 => ?_) (fun k34 hc34 => ?_)
        · refine g_iload (pc := 39) dc_A_isClean_39 rfl ?_
          refine g_bipush (pc := 41) (v := 37) dc_A_isClean_41 rfl ?_
          refine g_icmp_ne (pc := 43) (tgt := 58) dc_A_isClean_43 rfl (fun hc43 => ?_) (fun hc43 => ?_)
          · exact absurd (ho (by omega)) (by show ¬ isRef L i t = false; rw [isRef_np ⟨by omega, by omega⟩ hc43, hx2.mp hc34]; decide)
          · refine g_aload_n (pc := 46) dc_A_isClean_46 rfl ?_
            refine g_iload_n (pc := 47) dc_A_isClean_47 rfl ?_
            refine g_iload_n (pc := 48) dc_A_isClean_48 rfl ?_
            refine g_s3 (pc := 49) (M' := mt_W_escapedByte) dc_A_isClean_49 mo_W_escapedByte st_W_escapedByte ln_A_83 (Nat.le_of_ble_eq_true rfl) (Nat.le_of_ble_eq_true rfl) (am_G.mono (t_W_escapedByte (f := i) (t := t) hx0 (by omega) (by omega)) ?_)
            intro r h1 hq
            rw [hq.1, hq.2]
            clear hq h1 r
            refine ⟨am_nti _, ?_⟩
            refine g_iconst (pc := 52) (v := (-1)) dc_A_isClean_52 rfl ?_
            refine q_o_ne (pc := 53) (tgt := 58) dc_A_isClean_53 esx_b rfl (fun k53 hc53 => ?_) (fun hc53 => ?_)
            · have hk53 := esx_b k53 hc53
              exact absurd (ho (by omega)) (by show ¬ isRef L i t = false; rw [isRef_pc ⟨by omega, by omega⟩ hc43, hc53]; simp)
            · refine g_iconst (pc := 56) (v := 0) dc_A_isClean_56 rfl ?_
              exact g_zreturn dc_A_isClean_57 rfl rfl ⟨congrArg (fun z => some (Value.int z)) (he (by omega)), rfl⟩
        · have hk34 := (cb64 hx1) k34 hc34
          refine g_iconst (pc := 37) (v := 0) dc_A_isClean_37 rfl ?_
          exact g_zreturn dc_A_isClean_38 rfl rfl ⟨congrArg (fun z => some (Value.int z)) (he (by omega)), rfl⟩
end TXD
