/-! ===== the class's scanner: what it reads of a text ===== -/
def tnB (v : Int32) : Bool := !(isBl v) && (decide (¬ v = 47) && decide (¬ v = 62))
def anB (v : Int32) : Bool := !(isBl v) && (decide (¬ v = 47) && (decide (¬ v = 62) && decide (¬ v = 61)))
def bvB (v : Int32) : Bool := !(isBl v) && decide (¬ v = 62)
/-- 1 plain, 2 a tag, 3 a remark -/
def kdA (L : List Int32) (i : Nat) : Nat := if gx L i = 60 ∧ i + 1 < L.length then (if isLe (gx L (i + 1)) = true ∨ (gx L (i + 1) = 47 ∧ i + 2 < L.length ∧ isLe (gx L (i + 2)) = true) then 2 else if gx L (i + 1) = 33 ∨ gx L (i + 1) = 63 ∨ gx L (i + 1) = 47 then 3 else 1) else 1
theorem bgw_le {i : Nat} {L : List Int32} {f t : Nat} (h : bgw i L f t = true) : f + cln i ≤ t := by
  unfold bgw at h
  rw [Bool.and_eq_true, decide_eq_true_eq] at h
  exact h.1
theorem t_min {X : am_X} {d : Nat} {h : List va_E} {s x y : Nat} (hx : s + x < 2 ^ 31) (hy : s + y < 2 ^ 31) : am_C X mt_JMath_min d [.int (nI (s + x)), .int (nI (s + y))] h (fun r h1 => r = some (.int (nI (s + Nat.min x y))) ∧ h1 = h) := by
  refine am_G.mono (c_JMath_min hx hy) (fun r h1 hq => ⟨?_, hq.2⟩)
  rw [hq.1]
  have e : Nat.min (s + x) (s + y) = s + Nat.min x y := by
    show min (s + x) (s + y) = s + min x y
    omega
  rw [e]
section SCN
variable {X : am_X} {d a c s p f i k : Nat} {h : List va_E} {L : List Int32} {w0 w1 w2 w6 w7 w8 : Int32}
theorem v_S_tagNameEnd {Q : Option Value → List va_E → Prop}  (hS : h[a]? = some (.inr (5, [.int w0, .int w1, .int w2, .int (nI (s + p)), .ref c, .int (nI (s + L.length)), .int w6, .int w7, .int w8]))) (hx : tt h c s L) : ∀ n i : Nat, i + n = L.length → am_G X mt_S_tagNameEnd (d + 1) 2 [some (.ref a), some (.int (nI (s + f))), some (.int (nI (s + (fw tnB L i L.length))))] [] h Q → am_G X mt_S_tagNameEnd (d + 1) 2 [some (.ref a), some (.int (nI (s + f))), some (.int (nI (s + i)))] [] h Q
  | 0, i, e, K => by
    have e1 : fw tnB L i L.length = i := fw_0 (by omega)
    rw [e1] at K
    exact K
  | n + 1, i, e, K => by
    by_cases hp : tnB (gx L i) = true
    · rw [fw_t (by omega) hp] at K
      have hx0 := hx
      obtain ⟨cap, g, ha, hT, hs, hc⟩ := hx
      refine g_iload_n (pc := 2) dc_S_tagNameEnd_2 rfl ?_
      refine g_aload_n (pc := 3) dc_S_tagNameEnd_3 rfl ?_
      refine g_getfield (pc := 4) dc_S_tagNameEnd_4 fl_S_19 hS rfl ?_
      refine q_icmp_ge (pc := 7) (tgt := 50) (s + i) (s + L.length) dc_S_tagNameEnd_7 (by omega) (by omega) rfl (fun hc => absurd hc (by omega)) (fun hc7 => ?_)
      refine g_aload_n (pc := 10) dc_S_tagNameEnd_10 rfl ?_
      refine g_getfield (pc := 11) dc_S_tagNameEnd_11 fl_S_9 hS rfl ?_
      refine g_iload_n (pc := 14) dc_S_tagNameEnd_14 rfl ?_
      refine q_tx (pc := 15) i dc_S_tagNameEnd_15 ha hT hs (by omega) hc ?_
      refine g_s1 (pc := 16) (M' := mt_W_isBlank) dc_S_tagNameEnd_16 mo_W_isBlank st_W_isBlank ln_S_78 (Nat.le_of_ble_eq_true rfl) (Nat.le_of_ble_eq_true rfl) (am_G.mono (c_W_isBlank (v := (gx L i))) ?_)
      intro r h1 hq
      rw [hq.1, hq.2]
      clear hq h1 r
      refine ⟨am_nti _, ?_⟩
      refine q_ifb_ne (pc := 19) (tgt := 50) dc_S_tagNameEnd_19 rfl (fun hc19 => ?_) (fun hc19 => ?_)
      · exact absurd hp (by simp [tnB, hc7, hc19])
      · refine g_aload_n (pc := 22) dc_S_tagNameEnd_22 rfl ?_
        refine g_getfield (pc := 23) dc_S_tagNameEnd_23 fl_S_9 hS rfl ?_
        refine g_iload_n (pc := 26) dc_S_tagNameEnd_26 rfl ?_
        refine q_tx (pc := 27) i dc_S_tagNameEnd_27 ha hT hs (by omega) hc ?_
        refine g_bipush (pc := 28) (v := 47) dc_S_tagNameEnd_28 rfl ?_
        refine g_icmp_eq (pc := 30) (tgt := 50) dc_S_tagNameEnd_30 rfl (fun hc30 => ?_) (fun hc30 => ?_)
        · exact absurd hp (by simp [tnB, hc7, hc19, hc30])
        · refine g_aload_n (pc := 33) dc_S_tagNameEnd_33 rfl ?_
          refine g_getfield (pc := 34) dc_S_tagNameEnd_34 fl_S_9 hS rfl ?_
          refine g_iload_n (pc := 37) dc_S_tagNameEnd_37 rfl ?_
          refine q_tx (pc := 38) i dc_S_tagNameEnd_38 ha hT hs (by omega) hc ?_
          refine g_bipush (pc := 39) (v := 62) dc_S_tagNameEnd_39 rfl ?_
          refine g_icmp_eq (pc := 41) (tgt := 50) dc_S_tagNameEnd_41 rfl (fun hc41 => ?_) (fun hc41 => ?_)
          · exact absurd hp (by simp [tnB, hc7, hc19, hc30, hc41])
          · refine g_iinc (pc := 44) (v := (nI (s + (i + 1)))) dc_S_tagNameEnd_44 rfl (q_as s i 1) (by decide) ?_
            refine g_goto (pc := 47) (tgt := 2) dc_S_tagNameEnd_47 rfl ?_
            exact v_S_tagNameEnd hS hx0 n (i + 1) (by omega) K
    · rw [fw_f hp] at K
      exact K
theorem t_S_tagNameEnd (hS : h[a]? = some (.inr (5, [.int w0, .int w1, .int w2, .int (nI (s + p)), .ref c, .int (nI (s + L.length)), .int w6, .int w7, .int w8]))) (hx : tt h c s L) (hf : f ≤ L.length) : am_C X mt_S_tagNameEnd (d + 1) [.ref a, .int (nI (s + f))] h (fun r h1 => r = some (.int (nI (s + fw tnB L f L.length))) ∧ h1 = h) := by
  show am_G X mt_S_tagNameEnd (d + 1) 0 [some (.ref a), some (.int (nI (s + f))), none] [] h _
  have hb := fw_bd (p := tnB) (L := L) hf
  refine g_iload_n (pc := 0) dc_S_tagNameEnd_0 rfl ?_
  refine g_istore_n (pc := 1) dc_S_tagNameEnd_1 (by decide) ?_
  refine v_S_tagNameEnd hS hx (L.length - f) f (by omega) ?_
  have hx0 := hx
  obtain ⟨cap, g, ha, hT, hs, hc⟩ := hx
  have ho := fw_out (p := tnB) (L := L) (f := f) (t := L.length)
  generalize fw tnB L f L.length = i at *
  refine g_iload_n (pc := 2) dc_S_tagNameEnd_2 rfl ?_
  refine g_aload_n (pc := 3) dc_S_tagNameEnd_3 rfl ?_
  refine g_getfield (pc := 4) dc_S_tagNameEnd_4 fl_S_19 hS rfl ?_
  refine q_icmp_ge (pc := 7) (tgt := 50) (s + i) (s + L.length) dc_S_tagNameEnd_7 (by omega) (by omega) rfl (fun hc7 => ?_) (fun hc7 => ?_)
  · refine g_iload_n (pc := 50) dc_S_tagNameEnd_50 rfl ?_
    exact g_ireturn dc_S_tagNameEnd_51 rfl ⟨rfl, rfl⟩
  · refine g_aload_n (pc := 10) dc_S_tagNameEnd_10 rfl ?_
    refine g_getfield (pc := 11) dc_S_tagNameEnd_11 fl_S_9 hS rfl ?_
    refine g_iload_n (pc := 14) dc_S_tagNameEnd_14 rfl ?_
    refine q_tx (pc := 15) i dc_S_tagNameEnd_15 ha hT hs (by omega) hc ?_
    refine g_s1 (pc := 16) (M' := mt_W_isBlank) dc_S_tagNameEnd_16 mo_W_isBlank st_W_isBlank ln_S_78 (Nat.le_of_ble_eq_true rfl) (Nat.le_of_ble_eq_true rfl) (am_G.mono (c_W_isBlank (v := (gx L i))) ?_)
    intro r h1 hq
    rw [hq.1, hq.2]
    clear hq h1 r
    refine ⟨am_nti _, ?_⟩
    refine q_ifb_ne (pc := 19) (tgt := 50) dc_S_tagNameEnd_19 rfl (fun hc19 => ?_) (fun hc19 => ?_)
    · refine g_iload_n (pc := 50) dc_S_tagNameEnd_50 rfl ?_
      exact g_ireturn dc_S_tagNameEnd_51 rfl ⟨rfl, rfl⟩
    · refine g_aload_n (pc := 22) dc_S_tagNameEnd_22 rfl ?_
      refine g_getfield (pc := 23) dc_S_tagNameEnd_23 fl_S_9 hS rfl ?_
      refine g_iload_n (pc := 26) dc_S_tagNameEnd_26 rfl ?_
      refine q_tx (pc := 27) i dc_S_tagNameEnd_27 ha hT hs (by omega) hc ?_
      refine g_bipush (pc := 28) (v := 47) dc_S_tagNameEnd_28 rfl ?_
      refine g_icmp_eq (pc := 30) (tgt := 50) dc_S_tagNameEnd_30 rfl (fun hc30 => ?_) (fun hc30 => ?_)
      · refine g_iload_n (pc := 50) dc_S_tagNameEnd_50 rfl ?_
        exact g_ireturn dc_S_tagNameEnd_51 rfl ⟨rfl, rfl⟩
      · refine g_aload_n (pc := 33) dc_S_tagNameEnd_33 rfl ?_
        refine g_getfield (pc := 34) dc_S_tagNameEnd_34 fl_S_9 hS rfl ?_
        refine g_iload_n (pc := 37) dc_S_tagNameEnd_37 rfl ?_
        refine q_tx (pc := 38) i dc_S_tagNameEnd_38 ha hT hs (by omega) hc ?_
        refine g_bipush (pc := 39) (v := 62) dc_S_tagNameEnd_39 rfl ?_
        refine g_icmp_eq (pc := 41) (tgt := 50) dc_S_tagNameEnd_41 rfl (fun hc41 => ?_) (fun hc41 => ?_)
        · refine g_iload_n (pc := 50) dc_S_tagNameEnd_50 rfl ?_
          exact g_ireturn dc_S_tagNameEnd_51 rfl ⟨rfl, rfl⟩
        · exact absurd (ho (by omega)) (by simp [tnB, hc19, hc30, hc41])
theorem v_S_attributeNameEnd {Q : Option Value → List va_E → Prop}  (hS : h[a]? = some (.inr (5, [.int w0, .int w1, .int w2, .int (nI (s + p)), .ref c, .int (nI (s + L.length)), .int w6, .int w7, .int w8]))) (hx : tt h c s L) : ∀ n i : Nat, i + n = L.length → am_G X mt_S_attributeNameEnd (d + 1) 2 [some (.ref a), some (.int (nI (s + f))), some (.int (nI (s + (fw anB L i L.length))))] [] h Q → am_G X mt_S_attributeNameEnd (d + 1) 2 [some (.ref a), some (.int (nI (s + f))), some (.int (nI (s + i)))] [] h Q
  | 0, i, e, K => by
    have e1 : fw anB L i L.length = i := fw_0 (by omega)
    rw [e1] at K
    exact K
  | n + 1, i, e, K => by
    by_cases hp : anB (gx L i) = true
    · rw [fw_t (by omega) hp] at K
      have hx0 := hx
      obtain ⟨cap, g, ha, hT, hs, hc⟩ := hx
      refine g_iload_n (pc := 2) dc_S_attributeNameEnd_2 rfl ?_
      refine g_aload_n (pc := 3) dc_S_attributeNameEnd_3 rfl ?_
      refine g_getfield (pc := 4) dc_S_attributeNameEnd_4 fl_S_19 hS rfl ?_
      refine q_icmp_ge (pc := 7) (tgt := 61) (s + i) (s + L.length) dc_S_attributeNameEnd_7 (by omega) (by omega) rfl (fun hc => absurd hc (by omega)) (fun hc7 => ?_)
      refine g_aload_n (pc := 10) dc_S_attributeNameEnd_10 rfl ?_
      refine g_getfield (pc := 11) dc_S_attributeNameEnd_11 fl_S_9 hS rfl ?_
      refine g_iload_n (pc := 14) dc_S_attributeNameEnd_14 rfl ?_
      refine q_tx (pc := 15) i dc_S_attributeNameEnd_15 ha hT hs (by omega) hc ?_
      refine g_s1 (pc := 16) (M' := mt_W_isBlank) dc_S_attributeNameEnd_16 mo_W_isBlank st_W_isBlank ln_S_78 (Nat.le_of_ble_eq_true rfl) (Nat.le_of_ble_eq_true rfl) (am_G.mono (c_W_isBlank (v := (gx L i))) ?_)
      intro r h1 hq
      rw [hq.1, hq.2]
      clear hq h1 r
      refine ⟨am_nti _, ?_⟩
      refine q_ifb_ne (pc := 19) (tgt := 61) dc_S_attributeNameEnd_19 rfl (fun hc19 => ?_) (fun hc19 => ?_)
      · exact absurd hp (by simp [anB, hc7, hc19])
      · refine g_aload_n (pc := 22) dc_S_attributeNameEnd_22 rfl ?_
        refine g_getfield (pc := 23) dc_S_attributeNameEnd_23 fl_S_9 hS rfl ?_
        refine g_iload_n (pc := 26) dc_S_attributeNameEnd_26 rfl ?_
        refine q_tx (pc := 27) i dc_S_attributeNameEnd_27 ha hT hs (by omega) hc ?_
        refine g_bipush (pc := 28) (v := 47) dc_S_attributeNameEnd_28 rfl ?_
        refine g_icmp_eq (pc := 30) (tgt := 61) dc_S_attributeNameEnd_30 rfl (fun hc30 => ?_) (fun hc30 => ?_)
        · exact absurd hp (by simp [anB, hc7, hc19, hc30])
        · refine g_aload_n (pc := 33) dc_S_attributeNameEnd_33 rfl ?_
          refine g_getfield (pc := 34) dc_S_attributeNameEnd_34 fl_S_9 hS rfl ?_
          refine g_iload_n (pc := 37) dc_S_attributeNameEnd_37 rfl ?_
          refine q_tx (pc := 38) i dc_S_attributeNameEnd_38 ha hT hs (by omega) hc ?_
          refine g_bipush (pc := 39) (v := 62) dc_S_attributeNameEnd_39 rfl ?_
          refine g_icmp_eq (pc := 41) (tgt := 61) dc_S_attributeNameEnd_41 rfl (fun hc41 => ?_) (fun hc41 => ?_)
          · exact absurd hp (by simp [anB, hc7, hc19, hc30, hc41])
          · refine g_aload_n (pc := 44) dc_S_attributeNameEnd_44 rfl ?_
            refine g_getfield (pc := 45) dc_S_attributeNameEnd_45 fl_S_9 hS rfl ?_
            refine g_iload_n (pc := 48) dc_S_attributeNameEnd_48 rfl ?_
            refine q_tx (pc := 49) i dc_S_attributeNameEnd_49 ha hT hs (by omega) hc ?_
            refine g_bipush (pc := 50) (v := 61) dc_S_attributeNameEnd_50 rfl ?_
            refine g_icmp_eq (pc := 52) (tgt := 61) dc_S_attributeNameEnd_52 rfl (fun hc52 => ?_) (fun hc52 => ?_)
            · exact absurd hp (by simp [anB, hc7, hc19, hc30, hc41, hc52])
            · refine g_iinc (pc := 55) (v := (nI (s + (i + 1)))) dc_S_attributeNameEnd_55 rfl (q_as s i 1) (by decide) ?_
              refine g_goto (pc := 58) (tgt := 2) dc_S_attributeNameEnd_58 rfl ?_
              exact v_S_attributeNameEnd hS hx0 n (i + 1) (by omega) K
    · rw [fw_f hp] at K
      exact K
theorem t_S_attributeNameEnd (hS : h[a]? = some (.inr (5, [.int w0, .int w1, .int w2, .int (nI (s + p)), .ref c, .int (nI (s + L.length)), .int w6, .int w7, .int w8]))) (hx : tt h c s L) (hf : f ≤ L.length) : am_C X mt_S_attributeNameEnd (d + 1) [.ref a, .int (nI (s + f))] h (fun r h1 => r = some (.int (nI (s + fw anB L f L.length))) ∧ h1 = h) := by
  show am_G X mt_S_attributeNameEnd (d + 1) 0 [some (.ref a), some (.int (nI (s + f))), none] [] h _
  have hb := fw_bd (p := anB) (L := L) hf
  refine g_iload_n (pc := 0) dc_S_attributeNameEnd_0 rfl ?_
  refine g_istore_n (pc := 1) dc_S_attributeNameEnd_1 (by decide) ?_
  refine v_S_attributeNameEnd hS hx (L.length - f) f (by omega) ?_
  have hx0 := hx
  obtain ⟨cap, g, ha, hT, hs, hc⟩ := hx
  have ho := fw_out (p := anB) (L := L) (f := f) (t := L.length)
  generalize fw anB L f L.length = i at *
  refine g_iload_n (pc := 2) dc_S_attributeNameEnd_2 rfl ?_
  refine g_aload_n (pc := 3) dc_S_attributeNameEnd_3 rfl ?_
  refine g_getfield (pc := 4) dc_S_attributeNameEnd_4 fl_S_19 hS rfl ?_
  refine q_icmp_ge (pc := 7) (tgt := 61) (s + i) (s + L.length) dc_S_attributeNameEnd_7 (by omega) (by omega) rfl (fun hc7 => ?_) (fun hc7 => ?_)
  · refine g_iload_n (pc := 61) dc_S_attributeNameEnd_61 rfl ?_
    exact g_ireturn dc_S_attributeNameEnd_62 rfl ⟨rfl, rfl⟩
  · refine g_aload_n (pc := 10) dc_S_attributeNameEnd_10 rfl ?_
    refine g_getfield (pc := 11) dc_S_attributeNameEnd_11 fl_S_9 hS rfl ?_
    refine g_iload_n (pc := 14) dc_S_attributeNameEnd_14 rfl ?_
    refine q_tx (pc := 15) i dc_S_attributeNameEnd_15 ha hT hs (by omega) hc ?_
    refine g_s1 (pc := 16) (M' := mt_W_isBlank) dc_S_attributeNameEnd_16 mo_W_isBlank st_W_isBlank ln_S_78 (Nat.le_of_ble_eq_true rfl) (Nat.le_of_ble_eq_true rfl) (am_G.mono (c_W_isBlank (v := (gx L i))) ?_)
    intro r h1 hq
    rw [hq.1, hq.2]
    clear hq h1 r
    refine ⟨am_nti _, ?_⟩
    refine q_ifb_ne (pc := 19) (tgt := 61) dc_S_attributeNameEnd_19 rfl (fun hc19 => ?_) (fun hc19 => ?_)
    · refine g_iload_n (pc := 61) dc_S_attributeNameEnd_61 rfl ?_
      exact g_ireturn dc_S_attributeNameEnd_62 rfl ⟨rfl, rfl⟩
    · refine g_aload_n (pc := 22) dc_S_attributeNameEnd_22 rfl ?_
      refine g_getfield (pc := 23) dc_S_attributeNameEnd_23 fl_S_9 hS rfl ?_
      refine g_iload_n (pc := 26) dc_S_attributeNameEnd_26 rfl ?_
      refine q_tx (pc := 27) i dc_S_attributeNameEnd_27 ha hT hs (by omega) hc ?_
      refine g_bipush (pc := 28) (v := 47) dc_S_attributeNameEnd_28 rfl ?_
      refine g_icmp_eq (pc := 30) (tgt := 61) dc_S_attributeNameEnd_30 rfl (fun hc30 => ?_) (fun hc30 => ?_)
      · refine g_iload_n (pc := 61) dc_S_attributeNameEnd_61 rfl ?_
        exact g_ireturn dc_S_attributeNameEnd_62 rfl ⟨rfl, rfl⟩
      · refine g_aload_n (pc := 33) dc_S_attributeNameEnd_33 rfl ?_
        refine g_getfield (pc := 34) dc_S_attributeNameEnd_34 fl_S_9 hS rfl ?_
        refine g_iload_n (pc := 37) dc_S_attributeNameEnd_37 rfl ?_
        refine q_tx (pc := 38) i dc_S_attributeNameEnd_38 ha hT hs (by omega) hc ?_
        refine g_bipush (pc := 39) (v := 62) dc_S_attributeNameEnd_39 rfl ?_
        refine g_icmp_eq (pc := 41) (tgt := 61) dc_S_attributeNameEnd_41 rfl (fun hc41 => ?_) (fun hc41 => ?_)
        · refine g_iload_n (pc := 61) dc_S_attributeNameEnd_61 rfl ?_
          exact g_ireturn dc_S_attributeNameEnd_62 rfl ⟨rfl, rfl⟩
        · refine g_aload_n (pc := 44) dc_S_attributeNameEnd_44 rfl ?_
          refine g_getfield (pc := 45) dc_S_attributeNameEnd_45 fl_S_9 hS rfl ?_
          refine g_iload_n (pc := 48) dc_S_attributeNameEnd_48 rfl ?_
          refine q_tx (pc := 49) i dc_S_attributeNameEnd_49 ha hT hs (by omega) hc ?_
          refine g_bipush (pc := 50) (v := 61) dc_S_attributeNameEnd_50 rfl ?_
          refine g_icmp_eq (pc := 52) (tgt := 61) dc_S_attributeNameEnd_52 rfl (fun hc52 => ?_) (fun hc52 => ?_)
          · refine g_iload_n (pc := 61) dc_S_attributeNameEnd_61 rfl ?_
            exact g_ireturn dc_S_attributeNameEnd_62 rfl ⟨rfl, rfl⟩
          · exact absurd (ho (by omega)) (by simp [anB, hc19, hc30, hc41, hc52])
theorem v_S_bareValueTo {Q : Option Value → List va_E → Prop}  (hS : h[a]? = some (.inr (5, [.int w0, .int w1, .int w2, .int (nI (s + p)), .ref c, .int (nI (s + L.length)), .int w6, .int w7, .int w8]))) (hx : tt h c s L) : ∀ n i : Nat, i + n = L.length → am_G X mt_S_bareValueTo (d + 1) 2 [some (.ref a), some (.int (nI (s + f))), some (.int (nI (s + (fw bvB L i L.length))))] [] h Q → am_G X mt_S_bareValueTo (d + 1) 2 [some (.ref a), some (.int (nI (s + f))), some (.int (nI (s + i)))] [] h Q
  | 0, i, e, K => by
    have e1 : fw bvB L i L.length = i := fw_0 (by omega)
    rw [e1] at K
    exact K
  | n + 1, i, e, K => by
    by_cases hp : bvB (gx L i) = true
    · rw [fw_t (by omega) hp] at K
      have hx0 := hx
      obtain ⟨cap, g, ha, hT, hs, hc⟩ := hx
      refine g_iload_n (pc := 2) dc_S_bareValueTo_2 rfl ?_
      refine g_aload_n (pc := 3) dc_S_bareValueTo_3 rfl ?_
      refine g_getfield (pc := 4) dc_S_bareValueTo_4 fl_S_19 hS rfl ?_
      refine q_icmp_ge (pc := 7) (tgt := 39) (s + i) (s + L.length) dc_S_bareValueTo_7 (by omega) (by omega) rfl (fun hc => absurd hc (by omega)) (fun hc7 => ?_)
      refine g_aload_n (pc := 10) dc_S_bareValueTo_10 rfl ?_
      refine g_getfield (pc := 11) dc_S_bareValueTo_11 fl_S_9 hS rfl ?_
      refine g_iload_n (pc := 14) dc_S_bareValueTo_14 rfl ?_
      refine q_tx (pc := 15) i dc_S_bareValueTo_15 ha hT hs (by omega) hc ?_
      refine g_s1 (pc := 16) (M' := mt_W_isBlank) dc_S_bareValueTo_16 mo_W_isBlank st_W_isBlank ln_S_78 (Nat.le_of_ble_eq_true rfl) (Nat.le_of_ble_eq_true rfl) (am_G.mono (c_W_isBlank (v := (gx L i))) ?_)
      intro r h1 hq
      rw [hq.1, hq.2]
      clear hq h1 r
      refine ⟨am_nti _, ?_⟩
      refine q_ifb_ne (pc := 19) (tgt := 39) dc_S_bareValueTo_19 rfl (fun hc19 => ?_) (fun hc19 => ?_)
      · exact absurd hp (by simp [bvB, hc7, hc19])
      · refine g_aload_n (pc := 22) dc_S_bareValueTo_22 rfl ?_
        refine g_getfield (pc := 23) dc_S_bareValueTo_23 fl_S_9 hS rfl ?_
        refine g_iload_n (pc := 26) dc_S_bareValueTo_26 rfl ?_
        refine q_tx (pc := 27) i dc_S_bareValueTo_27 ha hT hs (by omega) hc ?_
        refine g_bipush (pc := 28) (v := 62) dc_S_bareValueTo_28 rfl ?_
        refine g_icmp_eq (pc := 30) (tgt := 39) dc_S_bareValueTo_30 rfl (fun hc30 => ?_) (fun hc30 => ?_)
        · exact absurd hp (by simp [bvB, hc7, hc19, hc30])
        · refine g_iinc (pc := 33) (v := (nI (s + (i + 1)))) dc_S_bareValueTo_33 rfl (q_as s i 1) (by decide) ?_
          refine g_goto (pc := 36) (tgt := 2) dc_S_bareValueTo_36 rfl ?_
          exact v_S_bareValueTo hS hx0 n (i + 1) (by omega) K
    · rw [fw_f hp] at K
      exact K
theorem t_S_bareValueTo (hS : h[a]? = some (.inr (5, [.int w0, .int w1, .int w2, .int (nI (s + p)), .ref c, .int (nI (s + L.length)), .int w6, .int w7, .int w8]))) (hx : tt h c s L) (hf : f ≤ L.length) : am_C X mt_S_bareValueTo (d + 1) [.ref a, .int (nI (s + f))] h (fun r h1 => r = some (.int (nI (s + fw bvB L f L.length))) ∧ h1 = h) := by
  show am_G X mt_S_bareValueTo (d + 1) 0 [some (.ref a), some (.int (nI (s + f))), none] [] h _
  have hb := fw_bd (p := bvB) (L := L) hf
  refine g_iload_n (pc := 0) dc_S_bareValueTo_0 rfl ?_
  refine g_istore_n (pc := 1) dc_S_bareValueTo_1 (by decide) ?_
  refine v_S_bareValueTo hS hx (L.length - f) f (by omega) ?_
  have hx0 := hx
  obtain ⟨cap, g, ha, hT, hs, hc⟩ := hx
  have ho := fw_out (p := bvB) (L := L) (f := f) (t := L.length)
  generalize fw bvB L f L.length = i at *
  refine g_iload_n (pc := 2) dc_S_bareValueTo_2 rfl ?_
  refine g_aload_n (pc := 3) dc_S_bareValueTo_3 rfl ?_
  refine g_getfield (pc := 4) dc_S_bareValueTo_4 fl_S_19 hS rfl ?_
  refine q_icmp_ge (pc := 7) (tgt := 39) (s + i) (s + L.length) dc_S_bareValueTo_7 (by omega) (by omega) rfl (fun hc7 => ?_) (fun hc7 => ?_)
  · refine g_iload_n (pc := 39) dc_S_bareValueTo_39 rfl ?_
    exact g_ireturn dc_S_bareValueTo_40 rfl ⟨rfl, rfl⟩
  · refine g_aload_n (pc := 10) dc_S_bareValueTo_10 rfl ?_
    refine g_getfield (pc := 11) dc_S_bareValueTo_11 fl_S_9 hS rfl ?_
    refine g_iload_n (pc := 14) dc_S_bareValueTo_14 rfl ?_
    refine q_tx (pc := 15) i dc_S_bareValueTo_15 ha hT hs (by omega) hc ?_
    refine g_s1 (pc := 16) (M' := mt_W_isBlank) dc_S_bareValueTo_16 mo_W_isBlank st_W_isBlank ln_S_78 (Nat.le_of_ble_eq_true rfl) (Nat.le_of_ble_eq_true rfl) (am_G.mono (c_W_isBlank (v := (gx L i))) ?_)
    intro r h1 hq
    rw [hq.1, hq.2]
    clear hq h1 r
    refine ⟨am_nti _, ?_⟩
    refine q_ifb_ne (pc := 19) (tgt := 39) dc_S_bareValueTo_19 rfl (fun hc19 => ?_) (fun hc19 => ?_)
    · refine g_iload_n (pc := 39) dc_S_bareValueTo_39 rfl ?_
      exact g_ireturn dc_S_bareValueTo_40 rfl ⟨rfl, rfl⟩
    · refine g_aload_n (pc := 22) dc_S_bareValueTo_22 rfl ?_
      refine g_getfield (pc := 23) dc_S_bareValueTo_23 fl_S_9 hS rfl ?_
      refine g_iload_n (pc := 26) dc_S_bareValueTo_26 rfl ?_
      refine q_tx (pc := 27) i dc_S_bareValueTo_27 ha hT hs (by omega) hc ?_
      refine g_bipush (pc := 28) (v := 62) dc_S_bareValueTo_28 rfl ?_
      refine g_icmp_eq (pc := 30) (tgt := 39) dc_S_bareValueTo_30 rfl (fun hc30 => ?_) (fun hc30 => ?_)
      · refine g_iload_n (pc := 39) dc_S_bareValueTo_39 rfl ?_
        exact g_ireturn dc_S_bareValueTo_40 rfl ⟨rfl, rfl⟩
      · exact absurd (ho (by omega)) (by simp [bvB, hc19, hc30])
theorem t_S_kindAt (hS : h[a]? = some (.inr (5, [.int w0, .int w1, .int w2, .int (nI (s + p)), .ref c, .int (nI (s + L.length)), .int w6, .int w7, .int w8]))) (hx : tt h c s L) (hi : i < L.length) : am_C X mt_S_kindAt (d + 1) [.ref a, .int (nI (s + i))] h (fun r h1 => r = some (.int (nI (kdA L i))) ∧ h1 = h) := by
  show am_G X mt_S_kindAt (d + 1) 0 [some (.ref a), some (.int (nI (s + i))), none] [] h _
  have hx0 := hx
  obtain ⟨cap, g, ha, hT, hs, hc⟩ := hx
  refine g_aload_n (pc := 0) dc_S_kindAt_0 rfl ?_
  refine g_getfield (pc := 1) dc_S_kindAt_1 fl_S_9 hS rfl ?_
  refine g_iload_n (pc := 4) dc_S_kindAt_4 rfl ?_
  refine q_tx (pc := 5) i dc_S_kindAt_5 ha hT hs (by omega) hc ?_
  refine g_bipush (pc := 6) (v := 60) dc_S_kindAt_6 rfl ?_
  refine g_icmp_ne (pc := 8) (tgt := 21) dc_S_kindAt_8 rfl (fun hc8 => ?_) (fun hc8 => ?_)
  · refine g_iconst (pc := 21) (v := 1) dc_S_kindAt_21 rfl ?_
    exact g_ireturn dc_S_kindAt_22 rfl ⟨by rw [show kdA L i = 1 by unfold kdA; rw [if_neg (fun h9 => hc8 h9.1)]]; rfl, rfl⟩
  · refine g_iload_n (pc := 11) dc_S_kindAt_11 rfl ?_
    refine g_iconst (pc := 12) (v := 1) dc_S_kindAt_12 rfl ?_
    refine g_iadd (pc := 13) (v := (nI (s + (i + 1)))) dc_S_kindAt_13 (q_as s i 1) ?_
    refine g_aload_n (pc := 14) dc_S_kindAt_14 rfl ?_
    refine g_getfield (pc := 15) dc_S_kindAt_15 fl_S_19 hS rfl ?_
    refine q_icmp_lt (pc := 18) (tgt := 23) (s + (i + 1)) (s + L.length) dc_S_kindAt_18 (by omega) (by omega) rfl (fun hc18 => ?_) (fun hc18 => ?_)
    · have h18 : i + 1 < L.length := by omega
      refine g_aload_n (pc := 23) dc_S_kindAt_23 rfl ?_
      refine g_getfield (pc := 24) dc_S_kindAt_24 fl_S_9 hS rfl ?_
      refine g_iload_n (pc := 27) dc_S_kindAt_27 rfl ?_
      refine g_iconst (pc := 28) (v := 1) dc_S_kindAt_28 rfl ?_
      refine g_iadd (pc := 29) (v := (nI (s + (i + 1)))) dc_S_kindAt_29 (q_as s i 1) ?_
      refine q_tx (pc := 30) (i + 1) dc_S_kindAt_30 ha hT hs (by omega) hc ?_
      refine g_istore_n (pc := 31) dc_S_kindAt_31 (by decide) ?_
      refine g_iload_n (pc := 32) dc_S_kindAt_32 rfl ?_
      refine g_s1 (pc := 33) (M' := mt_W_isLetter) dc_S_kindAt_33 mo_W_isLetter st_W_isLetter ln_S_53 (Nat.le_of_ble_eq_true rfl) (Nat.le_of_ble_eq_true rfl) (am_G.mono (c_W_isLetter (v := (gx L (i + 1)))) ?_)
      intro r h1 hq
      rw [hq.1, hq.2]
      clear hq h1 r
      refine ⟨am_nti _, ?_⟩
      refine q_ifb_ne (pc := 36) (tgt := 69) dc_S_kindAt_36 rfl (fun hc36 => ?_) (fun hc36 => ?_)
      · refine g_iconst (pc := 69) (v := 2) dc_S_kindAt_69 rfl ?_
        exact g_ireturn dc_S_kindAt_70 rfl ⟨by rw [show kdA L i = 2 by unfold kdA; rw [if_pos ⟨hc8, h18⟩, if_pos (Or.inl hc36)]]; rfl, rfl⟩
      · refine g_iload_n (pc := 39) dc_S_kindAt_39 rfl ?_
        refine g_bipush (pc := 40) (v := 47) dc_S_kindAt_40 rfl ?_
        refine g_icmp_ne (pc := 42) (tgt := 71) dc_S_kindAt_42 rfl (fun hc42 => ?_) (fun hc42 => ?_)
        · refine g_iload_n (pc := 71) dc_S_kindAt_71 rfl ?_
          refine g_bipush (pc := 72) (v := 33) dc_S_kindAt_72 rfl ?_
          refine g_icmp_eq (pc := 74) (tgt := 89) dc_S_kindAt_74 rfl (fun hc74 => ?_) (fun hc74 => ?_)
          · refine g_iconst (pc := 89) (v := 3) dc_S_kindAt_89 rfl ?_
            refine g_goto (pc := 90) (tgt := 94) dc_S_kindAt_90 rfl ?_
            exact g_ireturn dc_S_kindAt_94 rfl ⟨by rw [show kdA L i = 3 by unfold kdA; rw [if_pos ⟨hc8, h18⟩, if_neg (fun h9 => h9.elim (fun q => by rw [hc36] at q; cases q) (fun q => hc42 q.1)), if_pos (Or.inl hc74)]]; rfl, rfl⟩
          · refine g_iload_n (pc := 77) dc_S_kindAt_77 rfl ?_
            refine g_bipush (pc := 78) (v := 63) dc_S_kindAt_78 rfl ?_
            refine g_icmp_eq (pc := 80) (tgt := 89) dc_S_kindAt_80 rfl (fun hc80 => ?_) (fun hc80 => ?_)
            · refine g_iconst (pc := 89) (v := 3) dc_S_kindAt_89 rfl ?_
              refine g_goto (pc := 90) (tgt := 94) dc_S_kindAt_90 rfl ?_
              exact g_ireturn dc_S_kindAt_94 rfl ⟨by rw [show kdA L i = 3 by unfold kdA; rw [if_pos ⟨hc8, h18⟩, if_neg (fun h9 => h9.elim (fun q => by rw [hc36] at q; cases q) (fun q => hc42 q.1)), if_pos (Or.inr (Or.inl hc80))]]; rfl, rfl⟩
            · refine g_iload_n (pc := 83) dc_S_kindAt_83 rfl ?_
              refine g_bipush (pc := 84) (v := 47) dc_S_kindAt_84 rfl ?_
              refine g_icmp_ne (pc := 86) (tgt := 93) dc_S_kindAt_86 rfl (fun hc86 => ?_) (fun hc86 => ?_)
              · refine g_iconst (pc := 93) (v := 1) dc_S_kindAt_93 rfl ?_
                exact g_ireturn dc_S_kindAt_94 rfl ⟨by rw [show kdA L i = 1 by unfold kdA; rw [if_pos ⟨hc8, h18⟩, if_neg (fun h9 => h9.elim (fun q => by rw [hc36] at q; cases q) (fun q => hc42 q.1)), if_neg (fun h9 => h9.elim hc74 (fun q => q.elim hc80 hc86))]]; rfl, rfl⟩
              · refine g_iconst (pc := 89) (v := 3) dc_S_kindAt_89 rfl ?_
                refine g_goto (pc := 90) (tgt := 94) dc_S_kindAt_90 rfl ?_
                exact g_ireturn dc_S_kindAt_94 rfl ⟨by rw [show kdA L i = 3 by unfold kdA; rw [if_pos ⟨hc8, h18⟩, if_neg (fun h9 => h9.elim (fun q => by rw [hc36] at q; cases q) (fun q => hc42 q.1)), if_pos (Or.inr (Or.inr hc86))]]; rfl, rfl⟩
        · refine g_iload_n (pc := 45) dc_S_kindAt_45 rfl ?_
          refine g_iconst (pc := 46) (v := 2) dc_S_kindAt_46 rfl ?_
          refine g_iadd (pc := 47) (v := (nI (s + (i + 2)))) dc_S_kindAt_47 (q_as s i 2) ?_
          refine g_aload_n (pc := 48) dc_S_kindAt_48 rfl ?_
          refine g_getfield (pc := 49) dc_S_kindAt_49 fl_S_19 hS rfl ?_
          refine q_icmp_ge (pc := 52) (tgt := 71) (s + (i + 2)) (s + L.length) dc_S_kindAt_52 (by omega) (by omega) rfl (fun hc52 => ?_) (fun hc52 => ?_)
          · have h52 : ¬ i + 2 < L.length := by omega
            refine g_iload_n (pc := 71) dc_S_kindAt_71 rfl ?_
            refine g_bipush (pc := 72) (v := 33) dc_S_kindAt_72 rfl ?_
            refine g_icmp_eq (pc := 74) (tgt := 89) dc_S_kindAt_74 rfl (fun hc74 => ?_) (fun hc74 => ?_)
            · refine g_iconst (pc := 89) (v := 3) dc_S_kindAt_89 rfl ?_
              refine g_goto (pc := 90) (tgt := 94) dc_S_kindAt_90 rfl ?_
              exact g_ireturn dc_S_kindAt_94 rfl ⟨by rw [show kdA L i = 3 by unfold kdA; rw [if_pos ⟨hc8, h18⟩, if_neg (fun h9 => h9.elim (fun q => by rw [hc36] at q; cases q) (fun q => h52 q.2.1)), if_pos (Or.inl hc74)]]; rfl, rfl⟩
            · refine g_iload_n (pc := 77) dc_S_kindAt_77 rfl ?_
              refine g_bipush (pc := 78) (v := 63) dc_S_kindAt_78 rfl ?_
              refine g_icmp_eq (pc := 80) (tgt := 89) dc_S_kindAt_80 rfl (fun hc80 => ?_) (fun hc80 => ?_)
              · refine g_iconst (pc := 89) (v := 3) dc_S_kindAt_89 rfl ?_
                refine g_goto (pc := 90) (tgt := 94) dc_S_kindAt_90 rfl ?_
                exact g_ireturn dc_S_kindAt_94 rfl ⟨by rw [show kdA L i = 3 by unfold kdA; rw [if_pos ⟨hc8, h18⟩, if_neg (fun h9 => h9.elim (fun q => by rw [hc36] at q; cases q) (fun q => h52 q.2.1)), if_pos (Or.inr (Or.inl hc80))]]; rfl, rfl⟩
              · refine g_iload_n (pc := 83) dc_S_kindAt_83 rfl ?_
                refine g_bipush (pc := 84) (v := 47) dc_S_kindAt_84 rfl ?_
                refine g_icmp_ne (pc := 86) (tgt := 93) dc_S_kindAt_86 rfl (fun hc86 => ?_) (fun hc86 => ?_)
                · refine g_iconst (pc := 93) (v := 1) dc_S_kindAt_93 rfl ?_
                  exact g_ireturn dc_S_kindAt_94 rfl ⟨by rw [show kdA L i = 1 by unfold kdA; rw [if_pos ⟨hc8, h18⟩, if_neg (fun h9 => h9.elim (fun q => by rw [hc36] at q; cases q) (fun q => h52 q.2.1)), if_neg (fun h9 => h9.elim hc74 (fun q => q.elim hc80 hc86))]]; rfl, rfl⟩
                · refine g_iconst (pc := 89) (v := 3) dc_S_kindAt_89 rfl ?_
                  refine g_goto (pc := 90) (tgt := 94) dc_S_kindAt_90 rfl ?_
                  exact g_ireturn dc_S_kindAt_94 rfl ⟨by rw [show kdA L i = 3 by unfold kdA; rw [if_pos ⟨hc8, h18⟩, if_neg (fun h9 => h9.elim (fun q => by rw [hc36] at q; cases q) (fun q => h52 q.2.1)), if_pos (Or.inr (Or.inr hc86))]]; rfl, rfl⟩
          · have h52 : i + 2 < L.length := by omega
            refine g_aload_n (pc := 55) dc_S_kindAt_55 rfl ?_
            refine g_getfield (pc := 56) dc_S_kindAt_56 fl_S_9 hS rfl ?_
            refine g_iload_n (pc := 59) dc_S_kindAt_59 rfl ?_
            refine g_iconst (pc := 60) (v := 2) dc_S_kindAt_60 rfl ?_
            refine g_iadd (pc := 61) (v := (nI (s + (i + 2)))) dc_S_kindAt_61 (q_as s i 2) ?_
            refine q_tx (pc := 62) (i + 2) dc_S_kindAt_62 ha hT hs (by omega) hc ?_
            refine g_s1 (pc := 63) (M' := mt_W_isLetter) dc_S_kindAt_63 mo_W_isLetter st_W_isLetter ln_S_53 (Nat.le_of_ble_eq_true rfl) (Nat.le_of_ble_eq_true rfl) (am_G.mono (c_W_isLetter (v := (gx L (i + 2)))) ?_)
            intro r h1 hq
            rw [hq.1, hq.2]
            clear hq h1 r
            refine ⟨am_nti _, ?_⟩
            refine q_ifb_eq (pc := 66) (tgt := 71) dc_S_kindAt_66 rfl (fun hc66 => ?_) (fun hc66 => ?_)
            · refine g_iload_n (pc := 71) dc_S_kindAt_71 rfl ?_
              refine g_bipush (pc := 72) (v := 33) dc_S_kindAt_72 rfl ?_
              refine g_icmp_eq (pc := 74) (tgt := 89) dc_S_kindAt_74 rfl (fun hc74 => ?_) (fun hc74 => ?_)
              · refine g_iconst (pc := 89) (v := 3) dc_S_kindAt_89 rfl ?_
                refine g_goto (pc := 90) (tgt := 94) dc_S_kindAt_90 rfl ?_
                exact g_ireturn dc_S_kindAt_94 rfl ⟨by rw [show kdA L i = 3 by unfold kdA; rw [if_pos ⟨hc8, h18⟩, if_neg (fun h9 => h9.elim (fun q => by rw [hc36] at q; cases q) (fun q => by have q2 := q.2.2; rw [hc66] at q2; cases q2)), if_pos (Or.inl hc74)]]; rfl, rfl⟩
              · refine g_iload_n (pc := 77) dc_S_kindAt_77 rfl ?_
                refine g_bipush (pc := 78) (v := 63) dc_S_kindAt_78 rfl ?_
                refine g_icmp_eq (pc := 80) (tgt := 89) dc_S_kindAt_80 rfl (fun hc80 => ?_) (fun hc80 => ?_)
                · refine g_iconst (pc := 89) (v := 3) dc_S_kindAt_89 rfl ?_
                  refine g_goto (pc := 90) (tgt := 94) dc_S_kindAt_90 rfl ?_
                  exact g_ireturn dc_S_kindAt_94 rfl ⟨by rw [show kdA L i = 3 by unfold kdA; rw [if_pos ⟨hc8, h18⟩, if_neg (fun h9 => h9.elim (fun q => by rw [hc36] at q; cases q) (fun q => by have q2 := q.2.2; rw [hc66] at q2; cases q2)), if_pos (Or.inr (Or.inl hc80))]]; rfl, rfl⟩
                · refine g_iload_n (pc := 83) dc_S_kindAt_83 rfl ?_
                  refine g_bipush (pc := 84) (v := 47) dc_S_kindAt_84 rfl ?_
                  refine g_icmp_ne (pc := 86) (tgt := 93) dc_S_kindAt_86 rfl (fun hc86 => ?_) (fun hc86 => ?_)
                  · refine g_iconst (pc := 93) (v := 1) dc_S_kindAt_93 rfl ?_
                    exact g_ireturn dc_S_kindAt_94 rfl ⟨by rw [show kdA L i = 1 by unfold kdA; rw [if_pos ⟨hc8, h18⟩, if_neg (fun h9 => h9.elim (fun q => by rw [hc36] at q; cases q) (fun q => by have q2 := q.2.2; rw [hc66] at q2; cases q2)), if_neg (fun h9 => h9.elim hc74 (fun q => q.elim hc80 hc86))]]; rfl, rfl⟩
                  · refine g_iconst (pc := 89) (v := 3) dc_S_kindAt_89 rfl ?_
                    refine g_goto (pc := 90) (tgt := 94) dc_S_kindAt_90 rfl ?_
                    exact g_ireturn dc_S_kindAt_94 rfl ⟨by rw [show kdA L i = 3 by unfold kdA; rw [if_pos ⟨hc8, h18⟩, if_neg (fun h9 => h9.elim (fun q => by rw [hc36] at q; cases q) (fun q => by have q2 := q.2.2; rw [hc66] at q2; cases q2)), if_pos (Or.inr (Or.inr hc86))]]; rfl, rfl⟩
            · refine g_iconst (pc := 69) (v := 2) dc_S_kindAt_69 rfl ?_
              exact g_ireturn dc_S_kindAt_70 rfl ⟨by rw [show kdA L i = 2 by unfold kdA; rw [if_pos ⟨hc8, h18⟩, if_pos (Or.inr ⟨hc42, h52, hc66⟩)]]; rfl, rfl⟩
    · have h18 : ¬ i + 1 < L.length := by omega
      refine g_iconst (pc := 21) (v := 1) dc_S_kindAt_21 rfl ?_
      exact g_ireturn dc_S_kindAt_22 rfl ⟨by rw [show kdA L i = 1 by unfold kdA; rw [if_neg (fun h9 => h18 h9.2)]]; rfl, rfl⟩
theorem v_S_remarkTo {Q : Option Value → List va_E → Prop}  (hS : h[a]? = some (.inr (5, [.int w0, .int w1, .int w2, .int (nI (s + p)), .ref c, .int (nI (s + L.length)), .int w6, .int w7, .int w8]))) (hx : tt h c s L) : ∀ n i : Nat, i + n = (L.length - 2) → am_G X mt_S_remarkTo (d + 6) 54 [some (.ref a), some (.int (nI (s + (fx (fun j => !(decide (gx L j = 45 ∧ gx L (j + 1) = 45 ∧ gx L (j + 2) = 62))) i (L.length - 2)))))] [] h Q → am_G X mt_S_remarkTo (d + 6) 54 [some (.ref a), some (.int (nI (s + i)))] [] h Q
  | 0, i, e, K => by
    have e1 : fx (fun j => !(decide (gx L j = 45 ∧ gx L (j + 1) = 45 ∧ gx L (j + 2) = 62))) i (L.length - 2) = i := fx_0 (by omega)
    rw [e1] at K
    exact K
  | n + 1, i, e, K => by
    by_cases hp : (fun j => !(decide (gx L j = 45 ∧ gx L (j + 1) = 45 ∧ gx L (j + 2) = 62))) i = true
    · rw [fx_t (P := fun j => !(decide (gx L j = 45 ∧ gx L (j + 1) = 45 ∧ gx L (j + 2) = 62))) (f := i) (t := (L.length - 2)) (by omega) hp] at K
      have hx0 := hx
      obtain ⟨cap, g, ha, hT, hs, hc⟩ := hx
      refine g_iload_n (pc := 54) dc_S_remarkTo_54 rfl ?_
      refine g_iconst (pc := 55) (v := 2) dc_S_remarkTo_55 rfl ?_
      refine g_iadd (pc := 56) (v := (nI (s + (i + 2)))) dc_S_remarkTo_56 (q_as s i 2) ?_
      refine g_aload_n (pc := 57) dc_S_remarkTo_57 rfl ?_
      refine g_getfield (pc := 58) dc_S_remarkTo_58 fl_S_19 hS rfl ?_
      refine q_icmp_ge (pc := 61) (tgt := 111) (s + (i + 2)) (s + L.length) dc_S_remarkTo_61 (by omega) (by omega) rfl (fun hc => absurd hc (by omega)) (fun hc61 => ?_)
      refine g_aload_n (pc := 64) dc_S_remarkTo_64 rfl ?_
      refine g_getfield (pc := 65) dc_S_remarkTo_65 fl_S_9 hS rfl ?_
      refine g_iload_n (pc := 68) dc_S_remarkTo_68 rfl ?_
      refine q_tx (pc := 69) i dc_S_remarkTo_69 ha hT hs (by omega) hc ?_
      refine g_bipush (pc := 70) (v := 45) dc_S_remarkTo_70 rfl ?_
      refine g_icmp_ne (pc := 72) (tgt := 105) dc_S_remarkTo_72 rfl (fun hc72 => ?_) (fun hc72 => ?_)
      · refine g_iinc (pc := 105) (v := (nI (s + (i + 1)))) dc_S_remarkTo_105 rfl (q_as s i 1) (by decide) ?_
        refine g_goto (pc := 108) (tgt := 54) dc_S_remarkTo_108 rfl ?_
        exact v_S_remarkTo hS hx0 n (i + 1) (by omega) K
      · refine g_aload_n (pc := 75) dc_S_remarkTo_75 rfl ?_
        refine g_getfield (pc := 76) dc_S_remarkTo_76 fl_S_9 hS rfl ?_
        refine g_iload_n (pc := 79) dc_S_remarkTo_79 rfl ?_
        refine g_iconst (pc := 80) (v := 1) dc_S_remarkTo_80 rfl ?_
        refine g_iadd (pc := 81) (v := (nI (s + (i + 1)))) dc_S_remarkTo_81 (q_as s i 1) ?_
        refine q_tx (pc := 82) (i + 1) dc_S_remarkTo_82 ha hT hs (by omega) hc ?_
        refine g_bipush (pc := 83) (v := 45) dc_S_remarkTo_83 rfl ?_
        refine g_icmp_ne (pc := 85) (tgt := 105) dc_S_remarkTo_85 rfl (fun hc85 => ?_) (fun hc85 => ?_)
        · refine g_iinc (pc := 105) (v := (nI (s + (i + 1)))) dc_S_remarkTo_105 rfl (q_as s i 1) (by decide) ?_
          refine g_goto (pc := 108) (tgt := 54) dc_S_remarkTo_108 rfl ?_
          exact v_S_remarkTo hS hx0 n (i + 1) (by omega) K
        · refine g_aload_n (pc := 88) dc_S_remarkTo_88 rfl ?_
          refine g_getfield (pc := 89) dc_S_remarkTo_89 fl_S_9 hS rfl ?_
          refine g_iload_n (pc := 92) dc_S_remarkTo_92 rfl ?_
          refine g_iconst (pc := 93) (v := 2) dc_S_remarkTo_93 rfl ?_
          refine g_iadd (pc := 94) (v := (nI (s + (i + 2)))) dc_S_remarkTo_94 (q_as s i 2) ?_
          refine q_tx (pc := 95) (i + 2) dc_S_remarkTo_95 ha hT hs (by omega) hc ?_
          refine g_bipush (pc := 96) (v := 62) dc_S_remarkTo_96 rfl ?_
          refine g_icmp_ne (pc := 98) (tgt := 105) dc_S_remarkTo_98 rfl (fun hc98 => ?_) (fun hc98 => ?_)
          · refine g_iinc (pc := 105) (v := (nI (s + (i + 1)))) dc_S_remarkTo_105 rfl (q_as s i 1) (by decide) ?_
            refine g_goto (pc := 108) (tgt := 54) dc_S_remarkTo_108 rfl ?_
            exact v_S_remarkTo hS hx0 n (i + 1) (by omega) K
          · exact absurd hp (by simp [hc72, hc85, hc98])
    · rw [fx_f (P := fun j => !(decide (gx L j = 45 ∧ gx L (j + 1) = 45 ∧ gx L (j + 2) = 62))) (f := i) (t := (L.length - 2)) hp] at K
      exact K
/-- behind the remark that begins at p -/
def rmT (L : List Int32) (p : Nat) : Nat := if bgw 21 L p L.length = true then (if rmk L (p + 4) L.length + 2 < L.length then rmk L (p + 4) L.length + 3 else L.length) else Nat.min (fw (nev 62) L p L.length + 1) L.length
theorem t_S_remarkTo (hS : h[a]? = some (.inr (5, [.int w0, .int w1, .int w2, .int (nI (s + p)), .ref c, .int (nI (s + L.length)), .int w6, .int w7, .int w8]))) (hx : tt h c s L) (hp : p ≤ L.length) : am_C X mt_S_remarkTo (d + 6) [.ref a] h (fun r h1 => r = some (.int (nI (s + rmT L p))) ∧ h1 = h) := by
  show am_G X mt_S_remarkTo (d + 6) 0 [some (.ref a), none] [] h _
  have hx0 := hx
  obtain ⟨cap, g, ha, hT, hs, hc⟩ := hx
  refine g_aload_n (pc := 0) dc_S_remarkTo_0 rfl ?_
  refine g_getfield (pc := 1) dc_S_remarkTo_1 fl_S_9 hS rfl ?_
  refine g_aload_n (pc := 4) dc_S_remarkTo_4 rfl ?_
  refine g_getfield (pc := 5) dc_S_remarkTo_5 fl_S_15 hS rfl ?_
  refine g_aload_n (pc := 8) dc_S_remarkTo_8 rfl ?_
  refine g_getfield (pc := 9) dc_S_remarkTo_9 fl_S_19 hS rfl ?_
  refine g_ldcS (pc := 12) 21 dc_S_remarkTo_12 (by decide) rfl rfl ?_
  refine g_s4 (pc := 14) (M' := mt_W_beginsWith) dc_S_remarkTo_14 mo_W_beginsWith st_W_beginsWith ln_S_59 (Nat.le_of_ble_eq_true rfl) (Nat.le_of_ble_eq_true rfl) (am_G.mono (t_W_beginsWith (f := p) (t := L.length) (i := 21) hx0 (by decide) (by omega) (by omega)) ?_)
  intro r h1 hq
  rw [hq.1, hq.2]
  clear hq h1 r
  refine ⟨am_nti _, ?_⟩
  refine q_ifb_ne (pc := 17) (tgt := 47) dc_S_remarkTo_17 rfl (fun hc17 => ?_) (fun hc17 => ?_)
  · refine g_aload_n (pc := 47) dc_S_remarkTo_47 rfl ?_
    refine g_getfield (pc := 48) dc_S_remarkTo_48 fl_S_15 hS rfl ?_
    refine g_iconst (pc := 51) (v := 4) dc_S_remarkTo_51 rfl ?_
    refine g_iadd (pc := 52) (v := (nI (s + (p + 4)))) dc_S_remarkTo_52 (q_as s p 4) ?_
    refine g_istore_n (pc := 53) dc_S_remarkTo_53 (by decide) ?_
    rw [show rmT L p = (if rmk L (p + 4) L.length + 2 < L.length then rmk L (p + 4) L.length + 3 else L.length) from if_pos hc17]
    have hp4 : p + 4 ≤ L.length := bgw_le (i := 21) hc17
    have hK : am_G X mt_S_remarkTo (d + 6) 54 [some (.ref a), some (.int (nI (s + (rmk L (p + 4) L.length))))] [] h (fun r h1 => r = some (.int (nI (s + (if rmk L (p + 4) L.length + 2 < L.length then rmk L (p + 4) L.length + 3 else L.length)))) ∧ h1 = h) := by
      have hb : p + 4 ≤ rmk L (p + 4) L.length := fx_ge (p + 4) (L.length - 2)
      have hb2 : p + 4 ≤ L.length - 2 → rmk L (p + 4) L.length ≤ L.length - 2 := fun h9 => fx_le h9
      have hb3 : L.length - 2 ≤ p + 4 → rmk L (p + 4) L.length = p + 4 := fun h9 => fx_0 h9
      have ho : rmk L (p + 4) L.length < L.length - 2 → (!(decide (gx L (rmk L (p + 4) L.length) = 45 ∧ gx L (rmk L (p + 4) L.length + 1) = 45 ∧ gx L (rmk L (p + 4) L.length + 2) = 62))) = false := fun h9 => fx_out (P := fun j => !(decide (gx L j = 45 ∧ gx L (j + 1) = 45 ∧ gx L (j + 2) = 62))) h9
      generalize rmk L (p + 4) L.length = i at *
      refine g_iload_n (pc := 54) dc_S_remarkTo_54 rfl ?_
      refine g_iconst (pc := 55) (v := 2) dc_S_remarkTo_55 rfl ?_
      refine g_iadd (pc := 56) (v := (nI (s + (i + 2)))) dc_S_remarkTo_56 (q_as s i 2) ?_
      refine g_aload_n (pc := 57) dc_S_remarkTo_57 rfl ?_
      refine g_getfield (pc := 58) dc_S_remarkTo_58 fl_S_19 hS rfl ?_
      refine q_icmp_ge (pc := 61) (tgt := 111) (s + (i + 2)) (s + L.length) dc_S_remarkTo_61 (by omega) (by omega) rfl (fun hc61 => ?_) (fun hc61 => ?_)
      · refine g_aload_n (pc := 111) dc_S_remarkTo_111 rfl ?_
        refine g_getfield (pc := 112) dc_S_remarkTo_112 fl_S_19 hS rfl ?_
        exact g_ireturn dc_S_remarkTo_115 rfl ⟨by rw [if_neg (by omega)], rfl⟩
      · refine g_aload_n (pc := 64) dc_S_remarkTo_64 rfl ?_
        refine g_getfield (pc := 65) dc_S_remarkTo_65 fl_S_9 hS rfl ?_
        refine g_iload_n (pc := 68) dc_S_remarkTo_68 rfl ?_
        refine q_tx (pc := 69) i dc_S_remarkTo_69 ha hT hs (by omega) hc ?_
        refine g_bipush (pc := 70) (v := 45) dc_S_remarkTo_70 rfl ?_
        refine g_icmp_ne (pc := 72) (tgt := 105) dc_S_remarkTo_72 rfl (fun hc72 => ?_) (fun hc72 => ?_)
        · exact absurd (ho (by omega)) (by simp [hc72])
        · refine g_aload_n (pc := 75) dc_S_remarkTo_75 rfl ?_
          refine g_getfield (pc := 76) dc_S_remarkTo_76 fl_S_9 hS rfl ?_
          refine g_iload_n (pc := 79) dc_S_remarkTo_79 rfl ?_
          refine g_iconst (pc := 80) (v := 1) dc_S_remarkTo_80 rfl ?_
          refine g_iadd (pc := 81) (v := (nI (s + (i + 1)))) dc_S_remarkTo_81 (q_as s i 1) ?_
          refine q_tx (pc := 82) (i + 1) dc_S_remarkTo_82 ha hT hs (by omega) hc ?_
          refine g_bipush (pc := 83) (v := 45) dc_S_remarkTo_83 rfl ?_
          refine g_icmp_ne (pc := 85) (tgt := 105) dc_S_remarkTo_85 rfl (fun hc85 => ?_) (fun hc85 => ?_)
          · exact absurd (ho (by omega)) (by simp [hc72, hc85])
          · refine g_aload_n (pc := 88) dc_S_remarkTo_88 rfl ?_
            refine g_getfield (pc := 89) dc_S_remarkTo_89 fl_S_9 hS rfl ?_
            refine g_iload_n (pc := 92) dc_S_remarkTo_92 rfl ?_
            refine g_iconst (pc := 93) (v := 2) dc_S_remarkTo_93 rfl ?_
            refine g_iadd (pc := 94) (v := (nI (s + (i + 2)))) dc_S_remarkTo_94 (q_as s i 2) ?_
            refine q_tx (pc := 95) (i + 2) dc_S_remarkTo_95 ha hT hs (by omega) hc ?_
            refine g_bipush (pc := 96) (v := 62) dc_S_remarkTo_96 rfl ?_
            refine g_icmp_ne (pc := 98) (tgt := 105) dc_S_remarkTo_98 rfl (fun hc98 => ?_) (fun hc98 => ?_)
            · exact absurd (ho (by omega)) (by simp [hc72, hc85, hc98])
            · refine g_iload_n (pc := 101) dc_S_remarkTo_101 rfl ?_
              refine g_iconst (pc := 102) (v := 3) dc_S_remarkTo_102 rfl ?_
              refine g_iadd (pc := 103) (v := (nI (s + (i + 3)))) dc_S_remarkTo_103 (q_as s i 3) ?_
              exact g_ireturn dc_S_remarkTo_104 rfl ⟨by rw [if_pos (by omega)], rfl⟩
    by_cases hle : p + 4 ≤ L.length - 2
    · exact v_S_remarkTo hS hx0 (L.length - 2 - (p + 4)) (p + 4) (by omega) hK
    · have e9 : rmk L (p + 4) L.length = p + 4 := fx_0 (by omega)
      rw [e9] at hK ⊢
      exact hK
  · refine g_aload_n (pc := 20) dc_S_remarkTo_20 rfl ?_
    refine g_getfield (pc := 21) dc_S_remarkTo_21 fl_S_9 hS rfl ?_
    refine g_bipush (pc := 24) (v := 62) dc_S_remarkTo_24 rfl ?_
    refine g_aload_n (pc := 26) dc_S_remarkTo_26 rfl ?_
    refine g_getfield (pc := 27) dc_S_remarkTo_27 fl_S_15 hS rfl ?_
    refine g_aload_n (pc := 30) dc_S_remarkTo_30 rfl ?_
    refine g_getfield (pc := 31) dc_S_remarkTo_31 fl_S_19 hS rfl ?_
    refine g_s4 (pc := 34) (M' := mt_W_indexOf) dc_S_remarkTo_34 mo_W_indexOf st_W_indexOf ln_S_62 (Nat.le_of_ble_eq_true rfl) (Nat.le_of_ble_eq_true rfl) (am_G.mono (t_W_indexOf (v := 62) (f := p) (t := L.length) hx0 (by omega) (by omega)) ?_)
    intro r h1 hq
    rw [hq.1, hq.2]
    clear hq h1 r
    refine ⟨am_nti _, ?_⟩
    have hb34 := fw_bd (p := nev 62) (L := L) (f := p) (t := L.length) (by omega)
    refine g_iconst (pc := 37) (v := 1) dc_S_remarkTo_37 rfl ?_
    refine g_iadd (pc := 38) (v := (nI (s + (fw (nev 62) L p L.length + 1)))) dc_S_remarkTo_38 (q_as s (fw (nev 62) L p L.length) 1) ?_
    refine g_aload_n (pc := 39) dc_S_remarkTo_39 rfl ?_
    refine g_getfield (pc := 40) dc_S_remarkTo_40 fl_S_19 hS rfl ?_
    refine g_s2 (pc := 43) (M' := mt_JMath_min) dc_S_remarkTo_43 mo_JMath_min st_JMath_min ln_S_66 (Nat.le_of_ble_eq_true rfl) (Nat.le_of_ble_eq_true rfl) (am_G.mono (t_min (s := s) (x := fw (nev 62) L p L.length + 1) (y := L.length) (by omega) (by omega)) ?_)
    intro r h1 hq
    rw [hq.1, hq.2]
    clear hq h1 r
    refine ⟨am_nti _, ?_⟩
    have hb43 := nmin_bd (fw (nev 62) L p L.length + 1) L.length
    exact g_ireturn dc_S_remarkTo_46 rfl ⟨by rw [show rmT L p = Nat.min (fw (nev 62) L p L.length + 1) L.length from if_neg (by rw [hc17]; decide)], rfl⟩
end SCN
