/-! ===== the model's rawEnd ===== -/
theorem toLo_60 {x : Int32} : toLo x = 60 ↔ x = 60 := by
  by_cases hu : 65 ≤ x.toInt ∧ x.toInt ≤ 90
  · have h1 := (toLo_i x).1 hu
    have h47 : ((60 : Int32)).toInt = 60 := by decide
    constructor
    · intro h
      rw [h] at h1
      omega
    · intro h
      rw [h] at hu
      omega
  · rw [(toLo_i x).2 hu]
/-- nm is the closing tag's beginning of the name nw -/
def rlN (nm nw : Nat) : Prop := cln nm = 2 + cln nw ∧ ch nm 0 = 60 ∧ ch nm 1 = 47 ∧ ∀ j, ch nm (j + 2) = ch nw j
theorem ch_drop {i j : Nat} (h : (cb i).drop 2 = cb j) : ∀ k, ch i (k + 2) = ch j k := fun k => by
  show (cb i).getD (k + 2) 0 = (cb j).getD k 0
  rw [← h, List.getD_eq_getElem?_getD, List.getD_eq_getElem?_getD, List.getElem?_drop, Nat.add_comm 2 k]
theorem rlN_c : rlN 18 16 := ⟨by decide, by decide, by decide, ch_drop rfl⟩
theorem rlN_s : rlN 19 17 := ⟨by decide, by decide, by decide, ch_drop rfl⟩
def bhB (v : Int32) : Bool := isBl v || (decide (v = 47) || decide (v = 62))
theorem rwP_f {nm nw k : Nat} {L : List Int32} (hr : rlN nm nw) : rwP nm L k = false ↔ bhB (gx L (k + (2 + cln nw))) = true ∧ gx L k = 60 ∧ gx L (k + 1) = 47 ∧ ∀ j, j < cln nw → toLo (gx L (k + 2 + j)) = ch nw j := by
  unfold rwP
  rw [hr.1, Bool.not_eq_false', Bool.and_eq_true]
  show bhB _ = true ∧ isw nm L k (k + (2 + cln nw)) = true ↔ _
  refine and_congr_right (fun _ => ?_)
  unfold isw
  rw [decide_eq_true_eq, hr.1]
  constructor
  · rintro ⟨_, c⟩
    refine ⟨toLo_60.mp ((c 0 (by omega)).trans hr.2.1), toLo_47.mp ((c 1 (by omega)).trans hr.2.2.1), fun j hj => ?_⟩
    have := c (j + 2) (by omega)
    rw [hr.2.2.2 j, show k + (j + 2) = k + 2 + j by omega] at this
    exact this
  · rintro ⟨a, b, c⟩
    refine ⟨by omega, fun j hj => ?_⟩
    match j, hj with
    | 0, _ => rw [hr.2.1]; exact toLo_60.mpr a
    | 1, _ => rw [hr.2.2.1]; exact toLo_47.mpr b
    | j + 2, hj => rw [hr.2.2.2 j, show k + (j + 2) = k + 2 + j by omega]; exact c j (by omega)
section MRW
variable {X : am_X} {d s k n nf nt f nm nw : Nat} {A B : List va_E} {S : MS} {L : List Int32}
theorem v92_M_rawEnd {Q : Option Value → List va_E → Prop} {b0 : Bool} (hA : A.length = 84) (hX : tx S.texts s L) (hs : s + L.length ≤ 24000) (hkn : k + 2 + n < L.length) (hnf : nf + n ≤ L.length) (K : ∀ b1', (b1' = true ↔ b0 = true ∧ ∀ j, j < n → toLo (gx L (k + 2 + j)) = toLo (gx L (nf + j))) → am_G X mt_M_rawEnd (d + 1) 147 [some (.ref 84), none, some (.int (nI (s + L.length))), some (.int (nI (s + nf))), none, some (.int (nI n)), some (.int (nI (s + k))), none, some (.int (b1 b1')), none] [] (mput A S B) Q) : ∀ (m i : Nat) (b : Bool), i + m = n → (b = true ↔ b0 = true ∧ ∀ j, j < i → toLo (gx L (k + 2 + j)) = toLo (gx L (nf + j))) → am_G X mt_M_rawEnd (d + 1) 92 [some (.ref 84), none, some (.int (nI (s + L.length))), some (.int (nI (s + nf))), none, some (.int (nI n)), some (.int (nI (s + k))), none, some (.int (b1 b)), some (.int (nI i))] [] (mput A S B) Q
  | 0, i, b, e, hb => by
    obtain rfl : i = n := by omega
    refine g_iload (pc := 92) dc_M_rawEnd_92 rfl ?_
    refine g_iload (pc := 94) dc_M_rawEnd_94 rfl ?_
    refine q_icmp_ge (pc := 96) (tgt := 147) i i dc_M_rawEnd_96 (by omega) (by omega) rfl (fun hc96 => ?_) (fun hc => absurd hc (by omega))
    refine am_wk (am_le_s (am_le_n (am_le_s (am_le_s (am_le_n (am_le_s (am_le_s (am_le_n (am_le_s (am_le_n am_le_0)))))))))) ?_
    exact K b hb
  | m + 1, i, b, e, hb => by
    refine g_iload (pc := 92) dc_M_rawEnd_92 rfl ?_
    refine g_iload (pc := 94) dc_M_rawEnd_94 rfl ?_
    refine q_icmp_ge (pc := 96) (tgt := 147) i n dc_M_rawEnd_96 (by omega) (by omega) rfl (fun hc => absurd hc (by omega)) (fun hc96 => ?_)
    refine g_iload (pc := 99) dc_M_rawEnd_99 rfl ?_
    refine q_ifb_eq (pc := 101) (tgt := 147) dc_M_rawEnd_101 rfl (fun hc101 => ?_) (fun hc101 => ?_)
    · rw [hc101] at hb ⊢
      refine am_wk (am_le_s (am_le_n (am_le_s (am_le_s (am_le_n (am_le_s (am_le_s (am_le_n (am_le_s (am_le_n am_le_0)))))))))) ?_
      exact K false ⟨fun h9 => (by cases h9), fun h9 => hb.mpr ⟨h9.1, fun j hj => h9.2 j (by omega)⟩⟩
    · refine g_aload_n (pc := 104) dc_M_rawEnd_104 rfl ?_
      refine g_getfield (pc := 105) dc_M_rawEnd_105 fl_M_140 (mp_o hA) rfl ?_
      refine g_iload (pc := 108) dc_M_rawEnd_108 rfl ?_
      refine g_iconst (pc := 110) (v := 2) dc_M_rawEnd_110 rfl ?_
      refine g_iadd (pc := 111) (v := (nI (s + (k + 2)))) dc_M_rawEnd_111 (q_as s k 2) ?_
      refine g_iload (pc := 112) dc_M_rawEnd_112 rfl ?_
      refine g_iadd (pc := 114) (v := (nI (s + (k + 2 + i)))) dc_M_rawEnd_114 (q_as s (k + 2) i) ?_
      refine q_tx (pc := 115) (k + 2 + i) dc_M_rawEnd_115 (mp_a hA 12 rfl) hX hs (by omega) (by omega) ?_
      refine g_s1 (pc := 116) (M' := mt_M_lower) dc_M_rawEnd_116 mo_M_lower st_M_lower ln_M_7 (Nat.le_of_ble_eq_true rfl) (Nat.le_of_ble_eq_true rfl) (am_G.mono (c_M_lower (v := (gx L (k + 2 + i)))) ?_)
      intro r h1 hq
      rw [hq.1, hq.2]
      clear hq h1 r
      refine ⟨am_nti _, ?_⟩
      refine g_aload_n (pc := 119) dc_M_rawEnd_119 rfl ?_
      refine g_getfield (pc := 120) dc_M_rawEnd_120 fl_M_140 (mp_o hA) rfl ?_
      refine g_iload_n (pc := 123) dc_M_rawEnd_123 rfl ?_
      refine g_iload (pc := 124) dc_M_rawEnd_124 rfl ?_
      refine g_iadd (pc := 126) (v := (nI (s + (nf + i)))) dc_M_rawEnd_126 (q_as s nf i) ?_
      refine q_tx (pc := 127) (nf + i) dc_M_rawEnd_127 (mp_a hA 12 rfl) hX hs (by omega) (by omega) ?_
      refine g_s1 (pc := 128) (M' := mt_M_lower) dc_M_rawEnd_128 mo_M_lower st_M_lower ln_M_7 (Nat.le_of_ble_eq_true rfl) (Nat.le_of_ble_eq_true rfl) (am_G.mono (c_M_lower (v := (gx L (nf + i)))) ?_)
      intro r h1 hq
      rw [hq.1, hq.2]
      clear hq h1 r
      refine ⟨am_nti _, ?_⟩
      refine g_icmp_ne (pc := 131) (tgt := 138) dc_M_rawEnd_131 rfl (fun hc131 => ?_) (fun hc131 => ?_)
      · refine g_iconst (pc := 138) (v := 0) dc_M_rawEnd_138 rfl ?_
        refine g_istore (pc := 139) dc_M_rawEnd_139 (by decide) ?_
        show am_G X mt_M_rawEnd _ 141 [some (.ref 84), none, some (.int (nI (s + L.length))), some (.int (nI (s + nf))), none, some (.int (nI n)), some (.int (nI (s + k))), none, some (.int 0), some (.int (nI i))] [] _ _
        refine g_iinc (pc := 141) (v := (nI (i + 1))) dc_M_rawEnd_141 rfl (nI_add i 1) (by decide) ?_
        show am_G X mt_M_rawEnd _ 144 [some (.ref 84), none, some (.int (nI (s + L.length))), some (.int (nI (s + nf))), none, some (.int (nI n)), some (.int (nI (s + k))), none, some (.int 0), some (.int (nI (i + 1)))] [] _ _
        refine g_goto (pc := 144) (tgt := 92) dc_M_rawEnd_144 rfl ?_
        exact v92_M_rawEnd hA hX hs hkn hnf K m (i + 1) false (by omega) ⟨fun h9 => (by cases h9), fun h9 => absurd (h9.2 i (by omega)) hc131⟩
      · refine g_iconst (pc := 134) (v := 1) dc_M_rawEnd_134 rfl ?_
        refine g_goto (pc := 135) (tgt := 139) dc_M_rawEnd_135 rfl ?_
        refine g_istore (pc := 139) dc_M_rawEnd_139 (by decide) ?_
        show am_G X mt_M_rawEnd _ 141 [some (.ref 84), none, some (.int (nI (s + L.length))), some (.int (nI (s + nf))), none, some (.int (nI n)), some (.int (nI (s + k))), none, some (.int 1), some (.int (nI i))] [] _ _
        refine g_iinc (pc := 141) (v := (nI (i + 1))) dc_M_rawEnd_141 rfl (nI_add i 1) (by decide) ?_
        show am_G X mt_M_rawEnd _ 144 [some (.ref 84), none, some (.int (nI (s + L.length))), some (.int (nI (s + nf))), none, some (.int (nI n)), some (.int (nI (s + k))), none, some (.int 1), some (.int (nI (i + 1)))] [] _ _
        refine g_goto (pc := 144) (tgt := 92) dc_M_rawEnd_144 rfl ?_
        exact v92_M_rawEnd hA hX hs hkn hnf K m (i + 1) true (by omega) ⟨fun _ => ⟨(hb.mp hc101).1, fun j hj => ((by omega : j < i ∨ j = i)).elim (fun q => (hb.mp hc101).2 j q) (fun q => by rw [q]; exact hc131)⟩, fun _ => rfl⟩
theorem v9_M_rawEnd {Q : Option Value → List va_E → Prop} (hA : A.length = 84) (hX : tx S.texts s L) (hs : s + L.length ≤ 24000) (hr : rlN nm nw) (hw : ∀ j, j < cln nw → toLo (gx L (nf + j)) = ch nw j) (hn : n = cln nw) (hnf : nf + n ≤ L.length) : ∀ m k : Nat, k + m = L.length - cln nm → am_G X mt_M_rawEnd (d + 1) 9 [some (.ref 84), none, some (.int (nI (s + L.length))), some (.int (nI (s + nf))), none, some (.int (nI n)), some (.int (nI (s + (fx (rwP nm L) k (L.length - cln nm))))), none, none, none] [] (mput A S B) Q → am_G X mt_M_rawEnd (d + 1) 9 [some (.ref 84), none, some (.int (nI (s + L.length))), some (.int (nI (s + nf))), none, some (.int (nI n)), some (.int (nI (s + k))), none, none, none] [] (mput A S B) Q
  | 0, k, e, K => by
    have e1 : fx (rwP nm L) k (L.length - cln nm) = k := fx_0 (by omega)
    rw [e1] at K
    exact K
  | m + 1, k, e, K => by
    have hcn : cln nm = 2 + n := by rw [hn]; exact hr.1
    by_cases hp : rwP nm L k = true
    · rw [fx_t (P := rwP nm L) (f := k) (t := L.length - cln nm) (by omega) hp] at K
      refine g_iload (pc := 9) dc_M_rawEnd_9 rfl ?_
      refine g_iconst (pc := 11) (v := 2) dc_M_rawEnd_11 rfl ?_
      refine g_iadd (pc := 12) (v := (nI (s + (k + 2)))) dc_M_rawEnd_12 (q_as s k 2) ?_
      refine g_iload (pc := 13) dc_M_rawEnd_13 rfl ?_
      refine g_iadd (pc := 15) (v := (nI (s + (k + 2 + n)))) dc_M_rawEnd_15 (q_as s (k + 2) n) ?_
      refine g_iload_n (pc := 16) dc_M_rawEnd_16 rfl ?_
      refine q_icmp_ge (pc := 17) (tgt := 161) (s + (k + 2 + n)) (s + L.length) dc_M_rawEnd_17 (by omega) (by omega) rfl (fun hc => absurd hc (by omega)) (fun hc17 => ?_)
      refine g_aload_n (pc := 20) dc_M_rawEnd_20 rfl ?_
      refine g_getfield (pc := 21) dc_M_rawEnd_21 fl_M_140 (mp_o hA) rfl ?_
      refine g_iload (pc := 24) dc_M_rawEnd_24 rfl ?_
      refine g_iconst (pc := 26) (v := 2) dc_M_rawEnd_26 rfl ?_
      refine g_iadd (pc := 27) (v := (nI (s + (k + 2)))) dc_M_rawEnd_27 (q_as s k 2) ?_
      refine g_iload (pc := 28) dc_M_rawEnd_28 rfl ?_
      refine g_iadd (pc := 30) (v := (nI (s + (k + 2 + n)))) dc_M_rawEnd_30 (q_as s (k + 2) n) ?_
      refine q_tx (pc := 31) (k + 2 + n) dc_M_rawEnd_31 (mp_a hA 12 rfl) hX hs (by omega) (by omega) ?_
      refine g_istore (pc := 32) dc_M_rawEnd_32 (by decide) ?_
      show am_G X mt_M_rawEnd _ 34 [some (.ref 84), none, some (.int (nI (s + L.length))), some (.int (nI (s + nf))), none, some (.int (nI n)), some (.int (nI (s + k))), some (.int (gx L (k + 2 + n))), none, none] [] _ _
      refine g_aload_n (pc := 34) dc_M_rawEnd_34 rfl ?_
      refine g_getfield (pc := 35) dc_M_rawEnd_35 fl_M_140 (mp_o hA) rfl ?_
      refine g_iload (pc := 38) dc_M_rawEnd_38 rfl ?_
      refine q_tx (pc := 40) k dc_M_rawEnd_40 (mp_a hA 12 rfl) hX hs (by omega) (by omega) ?_
      refine g_bipush (pc := 41) (v := 60) dc_M_rawEnd_41 rfl ?_
      refine g_icmp_ne (pc := 43) (tgt := 86) dc_M_rawEnd_43 rfl (fun hc43 => ?_) (fun hc43 => ?_)
      · refine g_iconst (pc := 86) (v := 0) dc_M_rawEnd_86 rfl ?_
        refine g_istore (pc := 87) dc_M_rawEnd_87 (by decide) ?_
        show am_G X mt_M_rawEnd _ 89 [some (.ref 84), none, some (.int (nI (s + L.length))), some (.int (nI (s + nf))), none, some (.int (nI n)), some (.int (nI (s + k))), some (.int (gx L (k + 2 + n))), some (.int 0), none] [] _ _
        refine g_iconst (pc := 89) (v := 0) dc_M_rawEnd_89 rfl ?_
        refine g_istore (pc := 90) dc_M_rawEnd_90 (by decide) ?_
        show am_G X mt_M_rawEnd _ 92 [some (.ref 84), none, some (.int (nI (s + L.length))), some (.int (nI (s + nf))), none, some (.int (nI n)), some (.int (nI (s + k))), some (.int (gx L (k + 2 + n))), some (.int 0), some (.int 0)] [] _ _
        refine am_wk (am_le_s (am_le_n (am_le_s (am_le_s (am_le_n (am_le_s (am_le_s (am_le_n (am_le_s (am_le_s am_le_0)))))))))) ?_
        refine v92_M_rawEnd (b0 := false) hA hX hs (by omega) hnf (fun b1' hb1 => ?_) n 0 false (by omega) ⟨fun h9 => ⟨h9, fun j hj => absurd hj (by omega)⟩, fun h9 => h9.1⟩
        have hE : rwP nm L k = false ↔ b1' = true := by rw [rwP_f hr, hb1, ← hn]; exact ⟨fun h9 => absurd h9 (fun h9 => hc43 h9.2.1), fun h9 => absurd h9.1 (by decide)⟩
        refine g_iload (pc := 147) dc_M_rawEnd_147 rfl ?_
        refine q_ifb_eq (pc := 149) (tgt := 155) dc_M_rawEnd_149 rfl (fun hc149 => ?_) (fun hc149 => ?_)
        · refine g_iinc (pc := 155) (v := (nI (s + (k + 1)))) dc_M_rawEnd_155 rfl (q_as s k 1) (by decide) ?_
          show am_G X mt_M_rawEnd _ 158 [some (.ref 84), none, some (.int (nI (s + L.length))), some (.int (nI (s + nf))), none, some (.int (nI n)), some (.int (nI (s + (k + 1)))), none, some (.int (b1 b1')), none] [] _ _
          refine g_goto (pc := 158) (tgt := 9) dc_M_rawEnd_158 rfl ?_
          refine am_wk (am_le_s (am_le_n (am_le_s (am_le_s (am_le_n (am_le_s (am_le_s (am_le_n (am_le_n (am_le_n am_le_0)))))))))) ?_
          exact v9_M_rawEnd hA hX hs hr hw hn hnf m (k + 1) (by omega) K
        · exact absurd hp (by rw [hE.mpr hc149]; decide)
      · refine g_aload_n (pc := 46) dc_M_rawEnd_46 rfl ?_
        refine g_getfield (pc := 47) dc_M_rawEnd_47 fl_M_140 (mp_o hA) rfl ?_
        refine g_iload (pc := 50) dc_M_rawEnd_50 rfl ?_
        refine g_iconst (pc := 52) (v := 1) dc_M_rawEnd_52 rfl ?_
        refine g_iadd (pc := 53) (v := (nI (s + (k + 1)))) dc_M_rawEnd_53 (q_as s k 1) ?_
        refine q_tx (pc := 54) (k + 1) dc_M_rawEnd_54 (mp_a hA 12 rfl) hX hs (by omega) (by omega) ?_
        refine g_bipush (pc := 55) (v := 47) dc_M_rawEnd_55 rfl ?_
        refine g_icmp_ne (pc := 57) (tgt := 86) dc_M_rawEnd_57 rfl (fun hc57 => ?_) (fun hc57 => ?_)
        · refine g_iconst (pc := 86) (v := 0) dc_M_rawEnd_86 rfl ?_
          refine g_istore (pc := 87) dc_M_rawEnd_87 (by decide) ?_
          show am_G X mt_M_rawEnd _ 89 [some (.ref 84), none, some (.int (nI (s + L.length))), some (.int (nI (s + nf))), none, some (.int (nI n)), some (.int (nI (s + k))), some (.int (gx L (k + 2 + n))), some (.int 0), none] [] _ _
          refine g_iconst (pc := 89) (v := 0) dc_M_rawEnd_89 rfl ?_
          refine g_istore (pc := 90) dc_M_rawEnd_90 (by decide) ?_
          show am_G X mt_M_rawEnd _ 92 [some (.ref 84), none, some (.int (nI (s + L.length))), some (.int (nI (s + nf))), none, some (.int (nI n)), some (.int (nI (s + k))), some (.int (gx L (k + 2 + n))), some (.int 0), some (.int 0)] [] _ _
          refine am_wk (am_le_s (am_le_n (am_le_s (am_le_s (am_le_n (am_le_s (am_le_s (am_le_n (am_le_s (am_le_s am_le_0)))))))))) ?_
          refine v92_M_rawEnd (b0 := false) hA hX hs (by omega) hnf (fun b1' hb1 => ?_) n 0 false (by omega) ⟨fun h9 => ⟨h9, fun j hj => absurd hj (by omega)⟩, fun h9 => h9.1⟩
          have hE : rwP nm L k = false ↔ b1' = true := by rw [rwP_f hr, hb1, ← hn]; exact ⟨fun h9 => absurd h9 (fun h9 => hc57 h9.2.2.1), fun h9 => absurd h9.1 (by decide)⟩
          refine g_iload (pc := 147) dc_M_rawEnd_147 rfl ?_
          refine q_ifb_eq (pc := 149) (tgt := 155) dc_M_rawEnd_149 rfl (fun hc149 => ?_) (fun hc149 => ?_)
          · refine g_iinc (pc := 155) (v := (nI (s + (k + 1)))) dc_M_rawEnd_155 rfl (q_as s k 1) (by decide) ?_
            show am_G X mt_M_rawEnd _ 158 [some (.ref 84), none, some (.int (nI (s + L.length))), some (.int (nI (s + nf))), none, some (.int (nI n)), some (.int (nI (s + (k + 1)))), none, some (.int (b1 b1')), none] [] _ _
            refine g_goto (pc := 158) (tgt := 9) dc_M_rawEnd_158 rfl ?_
            refine am_wk (am_le_s (am_le_n (am_le_s (am_le_s (am_le_n (am_le_s (am_le_s (am_le_n (am_le_n (am_le_n am_le_0)))))))))) ?_
            exact v9_M_rawEnd hA hX hs hr hw hn hnf m (k + 1) (by omega) K
          · exact absurd hp (by rw [hE.mpr hc149]; decide)
        · refine g_iload (pc := 60) dc_M_rawEnd_60 rfl ?_
          refine g_s1 (pc := 62) (M' := mt_M_isBlank) dc_M_rawEnd_62 mo_M_isBlank st_M_isBlank ln_M_75 (Nat.le_of_ble_eq_true rfl) (Nat.le_of_ble_eq_true rfl) (am_G.mono (c_M_isBlank (v := (gx L (k + 2 + n)))) ?_)
          intro r h1 hq
          rw [hq.1, hq.2]
          clear hq h1 r
          refine ⟨am_nti _, ?_⟩
          refine q_ifb_ne (pc := 65) (tgt := 82) dc_M_rawEnd_65 rfl (fun hc65 => ?_) (fun hc65 => ?_)
          · refine g_iconst (pc := 82) (v := 1) dc_M_rawEnd_82 rfl ?_
            refine g_goto (pc := 83) (tgt := 87) dc_M_rawEnd_83 rfl ?_
            refine g_istore (pc := 87) dc_M_rawEnd_87 (by decide) ?_
            show am_G X mt_M_rawEnd _ 89 [some (.ref 84), none, some (.int (nI (s + L.length))), some (.int (nI (s + nf))), none, some (.int (nI n)), some (.int (nI (s + k))), some (.int (gx L (k + 2 + n))), some (.int 1), none] [] _ _
            refine g_iconst (pc := 89) (v := 0) dc_M_rawEnd_89 rfl ?_
            refine g_istore (pc := 90) dc_M_rawEnd_90 (by decide) ?_
            show am_G X mt_M_rawEnd _ 92 [some (.ref 84), none, some (.int (nI (s + L.length))), some (.int (nI (s + nf))), none, some (.int (nI n)), some (.int (nI (s + k))), some (.int (gx L (k + 2 + n))), some (.int 1), some (.int 0)] [] _ _
            refine am_wk (am_le_s (am_le_n (am_le_s (am_le_s (am_le_n (am_le_s (am_le_s (am_le_n (am_le_s (am_le_s am_le_0)))))))))) ?_
            refine v92_M_rawEnd (b0 := true) hA hX hs (by omega) hnf (fun b1' hb1 => ?_) n 0 true (by omega) ⟨fun h9 => ⟨h9, fun j hj => absurd hj (by omega)⟩, fun h9 => h9.1⟩
            have hE : rwP nm L k = false ↔ b1' = true := by rw [rwP_f hr, hb1, ← hn]; exact ⟨fun h9 => ⟨rfl, fun j hj => (h9.2.2.2 j hj).trans (hw j (by omega)).symm⟩, fun h9 => ⟨by rw [show k + (2 + n) = k + 2 + n by omega]; simp [bhB, hc65], hc43, hc57, fun j hj => (h9.2 j hj).trans (hw j (by omega))⟩⟩
            refine g_iload (pc := 147) dc_M_rawEnd_147 rfl ?_
            refine q_ifb_eq (pc := 149) (tgt := 155) dc_M_rawEnd_149 rfl (fun hc149 => ?_) (fun hc149 => ?_)
            · refine g_iinc (pc := 155) (v := (nI (s + (k + 1)))) dc_M_rawEnd_155 rfl (q_as s k 1) (by decide) ?_
              show am_G X mt_M_rawEnd _ 158 [some (.ref 84), none, some (.int (nI (s + L.length))), some (.int (nI (s + nf))), none, some (.int (nI n)), some (.int (nI (s + (k + 1)))), none, some (.int (b1 b1')), none] [] _ _
              refine g_goto (pc := 158) (tgt := 9) dc_M_rawEnd_158 rfl ?_
              refine am_wk (am_le_s (am_le_n (am_le_s (am_le_s (am_le_n (am_le_s (am_le_s (am_le_n (am_le_n (am_le_n am_le_0)))))))))) ?_
              exact v9_M_rawEnd hA hX hs hr hw hn hnf m (k + 1) (by omega) K
            · exact absurd hp (by rw [hE.mpr hc149]; decide)
          · refine g_iload (pc := 68) dc_M_rawEnd_68 rfl ?_
            refine g_bipush (pc := 70) (v := 47) dc_M_rawEnd_70 rfl ?_
            refine g_icmp_eq (pc := 72) (tgt := 82) dc_M_rawEnd_72 rfl (fun hc72 => ?_) (fun hc72 => ?_)
            · refine g_iconst (pc := 82) (v := 1) dc_M_rawEnd_82 rfl ?_
              refine g_goto (pc := 83) (tgt := 87) dc_M_rawEnd_83 rfl ?_
              refine g_istore (pc := 87) dc_M_rawEnd_87 (by decide) ?_
              show am_G X mt_M_rawEnd _ 89 [some (.ref 84), none, some (.int (nI (s + L.length))), some (.int (nI (s + nf))), none, some (.int (nI n)), some (.int (nI (s + k))), some (.int (gx L (k + 2 + n))), some (.int 1), none] [] _ _
              refine g_iconst (pc := 89) (v := 0) dc_M_rawEnd_89 rfl ?_
              refine g_istore (pc := 90) dc_M_rawEnd_90 (by decide) ?_
              show am_G X mt_M_rawEnd _ 92 [some (.ref 84), none, some (.int (nI (s + L.length))), some (.int (nI (s + nf))), none, some (.int (nI n)), some (.int (nI (s + k))), some (.int (gx L (k + 2 + n))), some (.int 1), some (.int 0)] [] _ _
              refine am_wk (am_le_s (am_le_n (am_le_s (am_le_s (am_le_n (am_le_s (am_le_s (am_le_n (am_le_s (am_le_s am_le_0)))))))))) ?_
              refine v92_M_rawEnd (b0 := true) hA hX hs (by omega) hnf (fun b1' hb1 => ?_) n 0 true (by omega) ⟨fun h9 => ⟨h9, fun j hj => absurd hj (by omega)⟩, fun h9 => h9.1⟩
              have hE : rwP nm L k = false ↔ b1' = true := by rw [rwP_f hr, hb1, ← hn]; exact ⟨fun h9 => ⟨rfl, fun j hj => (h9.2.2.2 j hj).trans (hw j (by omega)).symm⟩, fun h9 => ⟨by rw [show k + (2 + n) = k + 2 + n by omega]; simp [bhB, hc72], hc43, hc57, fun j hj => (h9.2 j hj).trans (hw j (by omega))⟩⟩
              refine g_iload (pc := 147) dc_M_rawEnd_147 rfl ?_
              refine q_ifb_eq (pc := 149) (tgt := 155) dc_M_rawEnd_149 rfl (fun hc149 => ?_) (fun hc149 => ?_)
              · refine g_iinc (pc := 155) (v := (nI (s + (k + 1)))) dc_M_rawEnd_155 rfl (q_as s k 1) (by decide) ?_
                show am_G X mt_M_rawEnd _ 158 [some (.ref 84), none, some (.int (nI (s + L.length))), some (.int (nI (s + nf))), none, some (.int (nI n)), some (.int (nI (s + (k + 1)))), none, some (.int (b1 b1')), none] [] _ _
                refine g_goto (pc := 158) (tgt := 9) dc_M_rawEnd_158 rfl ?_
                refine am_wk (am_le_s (am_le_n (am_le_s (am_le_s (am_le_n (am_le_s (am_le_s (am_le_n (am_le_n (am_le_n am_le_0)))))))))) ?_
                exact v9_M_rawEnd hA hX hs hr hw hn hnf m (k + 1) (by omega) K
              · exact absurd hp (by rw [hE.mpr hc149]; decide)
            · refine g_iload (pc := 75) dc_M_rawEnd_75 rfl ?_
              refine g_bipush (pc := 77) (v := 62) dc_M_rawEnd_77 rfl ?_
              refine g_icmp_ne (pc := 79) (tgt := 86) dc_M_rawEnd_79 rfl (fun hc79 => ?_) (fun hc79 => ?_)
              · refine g_iconst (pc := 86) (v := 0) dc_M_rawEnd_86 rfl ?_
                refine g_istore (pc := 87) dc_M_rawEnd_87 (by decide) ?_
                show am_G X mt_M_rawEnd _ 89 [some (.ref 84), none, some (.int (nI (s + L.length))), some (.int (nI (s + nf))), none, some (.int (nI n)), some (.int (nI (s + k))), some (.int (gx L (k + 2 + n))), some (.int 0), none] [] _ _
                refine g_iconst (pc := 89) (v := 0) dc_M_rawEnd_89 rfl ?_
                refine g_istore (pc := 90) dc_M_rawEnd_90 (by decide) ?_
                show am_G X mt_M_rawEnd _ 92 [some (.ref 84), none, some (.int (nI (s + L.length))), some (.int (nI (s + nf))), none, some (.int (nI n)), some (.int (nI (s + k))), some (.int (gx L (k + 2 + n))), some (.int 0), some (.int 0)] [] _ _
                refine am_wk (am_le_s (am_le_n (am_le_s (am_le_s (am_le_n (am_le_s (am_le_s (am_le_n (am_le_s (am_le_s am_le_0)))))))))) ?_
                refine v92_M_rawEnd (b0 := false) hA hX hs (by omega) hnf (fun b1' hb1 => ?_) n 0 false (by omega) ⟨fun h9 => ⟨h9, fun j hj => absurd hj (by omega)⟩, fun h9 => h9.1⟩
                have hE : rwP nm L k = false ↔ b1' = true := by rw [rwP_f hr, hb1, ← hn]; exact ⟨fun h9 => absurd h9 (fun h9 => absurd h9.1 (by rw [show k + (2 + n) = k + 2 + n by omega]; simp [bhB, hc65, hc72, hc79])), fun h9 => absurd h9.1 (by decide)⟩
                refine g_iload (pc := 147) dc_M_rawEnd_147 rfl ?_
                refine q_ifb_eq (pc := 149) (tgt := 155) dc_M_rawEnd_149 rfl (fun hc149 => ?_) (fun hc149 => ?_)
                · refine g_iinc (pc := 155) (v := (nI (s + (k + 1)))) dc_M_rawEnd_155 rfl (q_as s k 1) (by decide) ?_
                  show am_G X mt_M_rawEnd _ 158 [some (.ref 84), none, some (.int (nI (s + L.length))), some (.int (nI (s + nf))), none, some (.int (nI n)), some (.int (nI (s + (k + 1)))), none, some (.int (b1 b1')), none] [] _ _
                  refine g_goto (pc := 158) (tgt := 9) dc_M_rawEnd_158 rfl ?_
                  refine am_wk (am_le_s (am_le_n (am_le_s (am_le_s (am_le_n (am_le_s (am_le_s (am_le_n (am_le_n (am_le_n am_le_0)))))))))) ?_
                  exact v9_M_rawEnd hA hX hs hr hw hn hnf m (k + 1) (by omega) K
                · exact absurd hp (by rw [hE.mpr hc149]; decide)
              · refine g_iconst (pc := 82) (v := 1) dc_M_rawEnd_82 rfl ?_
                refine g_goto (pc := 83) (tgt := 87) dc_M_rawEnd_83 rfl ?_
                refine g_istore (pc := 87) dc_M_rawEnd_87 (by decide) ?_
                show am_G X mt_M_rawEnd _ 89 [some (.ref 84), none, some (.int (nI (s + L.length))), some (.int (nI (s + nf))), none, some (.int (nI n)), some (.int (nI (s + k))), some (.int (gx L (k + 2 + n))), some (.int 1), none] [] _ _
                refine g_iconst (pc := 89) (v := 0) dc_M_rawEnd_89 rfl ?_
                refine g_istore (pc := 90) dc_M_rawEnd_90 (by decide) ?_
                show am_G X mt_M_rawEnd _ 92 [some (.ref 84), none, some (.int (nI (s + L.length))), some (.int (nI (s + nf))), none, some (.int (nI n)), some (.int (nI (s + k))), some (.int (gx L (k + 2 + n))), some (.int 1), some (.int 0)] [] _ _
                refine am_wk (am_le_s (am_le_n (am_le_s (am_le_s (am_le_n (am_le_s (am_le_s (am_le_n (am_le_s (am_le_s am_le_0)))))))))) ?_
                refine v92_M_rawEnd (b0 := true) hA hX hs (by omega) hnf (fun b1' hb1 => ?_) n 0 true (by omega) ⟨fun h9 => ⟨h9, fun j hj => absurd hj (by omega)⟩, fun h9 => h9.1⟩
                have hE : rwP nm L k = false ↔ b1' = true := by rw [rwP_f hr, hb1, ← hn]; exact ⟨fun h9 => ⟨rfl, fun j hj => (h9.2.2.2 j hj).trans (hw j (by omega)).symm⟩, fun h9 => ⟨by rw [show k + (2 + n) = k + 2 + n by omega]; simp [bhB, hc79], hc43, hc57, fun j hj => (h9.2 j hj).trans (hw j (by omega))⟩⟩
                refine g_iload (pc := 147) dc_M_rawEnd_147 rfl ?_
                refine q_ifb_eq (pc := 149) (tgt := 155) dc_M_rawEnd_149 rfl (fun hc149 => ?_) (fun hc149 => ?_)
                · refine g_iinc (pc := 155) (v := (nI (s + (k + 1)))) dc_M_rawEnd_155 rfl (q_as s k 1) (by decide) ?_
                  show am_G X mt_M_rawEnd _ 158 [some (.ref 84), none, some (.int (nI (s + L.length))), some (.int (nI (s + nf))), none, some (.int (nI n)), some (.int (nI (s + (k + 1)))), none, some (.int (b1 b1')), none] [] _ _
                  refine g_goto (pc := 158) (tgt := 9) dc_M_rawEnd_158 rfl ?_
                  refine am_wk (am_le_s (am_le_n (am_le_s (am_le_s (am_le_n (am_le_s (am_le_s (am_le_n (am_le_n (am_le_n am_le_0)))))))))) ?_
                  exact v9_M_rawEnd hA hX hs hr hw hn hnf m (k + 1) (by omega) K
                · exact absurd hp (by rw [hE.mpr hc149]; decide)
    · rw [fx_f (P := rwP nm L) (f := k) (t := L.length - cln nm) hp] at K
      exact K
theorem c_M_rawEnd (hA : A.length = 84) (hX : tx S.texts s L) (hs : s + L.length ≤ 24000) (hr : rlN nm nw) (hw : isw nw L nf nt = true) (hn0 : nf ≤ nt) (hnt : nt ≤ L.length) (hf : f ≤ L.length) : am_C X mt_M_rawEnd (d + 1) [.ref 84, .int (nI (s + f)), .int (nI (s + L.length)), .int (nI (s + nf)), .int (nI (s + nt))] (mput A S B) (fun r h1 => r = some (.int (nI (s + rwE nm L f))) ∧ h1 = mput A S B) := by
  show am_G X mt_M_rawEnd (d + 1) 0 [some (.ref 84), some (.int (nI (s + f))), some (.int (nI (s + L.length))), some (.int (nI (s + nf))), some (.int (nI (s + nt))), none, none, none, none, none] [] (mput A S B) _
  have hw2 := of_decide_eq_true hw
  obtain ⟨n, hn⟩ : ∃ n, n = cln nw := ⟨_, rfl⟩
  have hnn : nt - nf = n := hw2.1.trans hn.symm
  have hcn : cln nm = 2 + n := by rw [hn]; exact hr.1
  have hnf : nf + n ≤ L.length := by omega
  have hb : f ≤ fx (rwP nm L) f (L.length - cln nm) := fx_ge f _
  have hb2 : f ≤ L.length - cln nm → fx (rwP nm L) f (L.length - cln nm) ≤ L.length - cln nm := fun h9 => fx_le h9
  have hb3 : L.length - cln nm ≤ f → fx (rwP nm L) f (L.length - cln nm) = f := fun h9 => fx_0 h9
  have ho := fx_out (P := rwP nm L) (f := f) (t := L.length - cln nm)
  have hK : am_G X mt_M_rawEnd (d + 1) 9 [some (.ref 84), none, some (.int (nI (s + L.length))), some (.int (nI (s + nf))), none, some (.int (nI n)), some (.int (nI (s + (fx (rwP nm L) f (L.length - cln nm))))), none, none, none] [] (mput A S B) (fun r h1 => r = some (.int (nI (s + rwE nm L f))) ∧ h1 = mput A S B) := by
    unfold rwE
    generalize fx (rwP nm L) f (L.length - cln nm) = k at *
    have hw := hw2.2
    refine g_iload (pc := 9) dc_M_rawEnd_9 rfl ?_
    refine g_iconst (pc := 11) (v := 2) dc_M_rawEnd_11 rfl ?_
    refine g_iadd (pc := 12) (v := (nI (s + (k + 2)))) dc_M_rawEnd_12 (q_as s k 2) ?_
    refine g_iload (pc := 13) dc_M_rawEnd_13 rfl ?_
    refine g_iadd (pc := 15) (v := (nI (s + (k + 2 + n)))) dc_M_rawEnd_15 (q_as s (k + 2) n) ?_
    refine g_iload_n (pc := 16) dc_M_rawEnd_16 rfl ?_
    refine q_icmp_ge (pc := 17) (tgt := 161) (s + (k + 2 + n)) (s + L.length) dc_M_rawEnd_17 (by omega) (by omega) rfl (fun hc17 => ?_) (fun hc17 => ?_)
    · refine g_iload_n (pc := 161) dc_M_rawEnd_161 rfl ?_
      exact g_ireturn dc_M_rawEnd_162 rfl ⟨by rw [if_neg (by omega)], rfl⟩
    · refine g_aload_n (pc := 20) dc_M_rawEnd_20 rfl ?_
      refine g_getfield (pc := 21) dc_M_rawEnd_21 fl_M_140 (mp_o hA) rfl ?_
      refine g_iload (pc := 24) dc_M_rawEnd_24 rfl ?_
      refine g_iconst (pc := 26) (v := 2) dc_M_rawEnd_26 rfl ?_
      refine g_iadd (pc := 27) (v := (nI (s + (k + 2)))) dc_M_rawEnd_27 (q_as s k 2) ?_
      refine g_iload (pc := 28) dc_M_rawEnd_28 rfl ?_
      refine g_iadd (pc := 30) (v := (nI (s + (k + 2 + n)))) dc_M_rawEnd_30 (q_as s (k + 2) n) ?_
      refine q_tx (pc := 31) (k + 2 + n) dc_M_rawEnd_31 (mp_a hA 12 rfl) hX hs (by omega) (by omega) ?_
      refine g_istore (pc := 32) dc_M_rawEnd_32 (by decide) ?_
      show am_G X mt_M_rawEnd _ 34 [some (.ref 84), none, some (.int (nI (s + L.length))), some (.int (nI (s + nf))), none, some (.int (nI n)), some (.int (nI (s + k))), some (.int (gx L (k + 2 + n))), none, none] [] _ _
      refine g_aload_n (pc := 34) dc_M_rawEnd_34 rfl ?_
      refine g_getfield (pc := 35) dc_M_rawEnd_35 fl_M_140 (mp_o hA) rfl ?_
      refine g_iload (pc := 38) dc_M_rawEnd_38 rfl ?_
      refine q_tx (pc := 40) k dc_M_rawEnd_40 (mp_a hA 12 rfl) hX hs (by omega) (by omega) ?_
      refine g_bipush (pc := 41) (v := 60) dc_M_rawEnd_41 rfl ?_
      refine g_icmp_ne (pc := 43) (tgt := 86) dc_M_rawEnd_43 rfl (fun hc43 => ?_) (fun hc43 => ?_)
      · refine g_iconst (pc := 86) (v := 0) dc_M_rawEnd_86 rfl ?_
        refine g_istore (pc := 87) dc_M_rawEnd_87 (by decide) ?_
        show am_G X mt_M_rawEnd _ 89 [some (.ref 84), none, some (.int (nI (s + L.length))), some (.int (nI (s + nf))), none, some (.int (nI n)), some (.int (nI (s + k))), some (.int (gx L (k + 2 + n))), some (.int 0), none] [] _ _
        refine g_iconst (pc := 89) (v := 0) dc_M_rawEnd_89 rfl ?_
        refine g_istore (pc := 90) dc_M_rawEnd_90 (by decide) ?_
        show am_G X mt_M_rawEnd _ 92 [some (.ref 84), none, some (.int (nI (s + L.length))), some (.int (nI (s + nf))), none, some (.int (nI n)), some (.int (nI (s + k))), some (.int (gx L (k + 2 + n))), some (.int 0), some (.int 0)] [] _ _
        refine am_wk (am_le_s (am_le_n (am_le_s (am_le_s (am_le_n (am_le_s (am_le_s (am_le_n (am_le_s (am_le_s am_le_0)))))))))) ?_
        refine v92_M_rawEnd (b0 := false) hA hX hs (by omega) hnf (fun b1' hb1 => ?_) n 0 false (by omega) ⟨fun h9 => ⟨h9, fun j hj => absurd hj (by omega)⟩, fun h9 => h9.1⟩
        have hE : rwP nm L k = false ↔ b1' = true := by rw [rwP_f hr, hb1, ← hn]; exact ⟨fun h9 => absurd h9 (fun h9 => hc43 h9.2.1), fun h9 => absurd h9.1 (by decide)⟩
        refine g_iload (pc := 147) dc_M_rawEnd_147 rfl ?_
        refine q_ifb_eq (pc := 149) (tgt := 155) dc_M_rawEnd_149 rfl (fun hc149 => ?_) (fun hc149 => ?_)
        · exact absurd (ho (by omega)) (fun h9 => absurd (hE.mp h9) (by rw [hc149]; decide))
        · refine g_iload (pc := 152) dc_M_rawEnd_152 rfl ?_
          exact g_ireturn dc_M_rawEnd_154 rfl ⟨by rw [if_pos (by omega)], rfl⟩
      · refine g_aload_n (pc := 46) dc_M_rawEnd_46 rfl ?_
        refine g_getfield (pc := 47) dc_M_rawEnd_47 fl_M_140 (mp_o hA) rfl ?_
        refine g_iload (pc := 50) dc_M_rawEnd_50 rfl ?_
        refine g_iconst (pc := 52) (v := 1) dc_M_rawEnd_52 rfl ?_
        refine g_iadd (pc := 53) (v := (nI (s + (k + 1)))) dc_M_rawEnd_53 (q_as s k 1) ?_
        refine q_tx (pc := 54) (k + 1) dc_M_rawEnd_54 (mp_a hA 12 rfl) hX hs (by omega) (by omega) ?_
        refine g_bipush (pc := 55) (v := 47) dc_M_rawEnd_55 rfl ?_
        refine g_icmp_ne (pc := 57) (tgt := 86) dc_M_rawEnd_57 rfl (fun hc57 => ?_) (fun hc57 => ?_)
        · refine g_iconst (pc := 86) (v := 0) dc_M_rawEnd_86 rfl ?_
          refine g_istore (pc := 87) dc_M_rawEnd_87 (by decide) ?_
          show am_G X mt_M_rawEnd _ 89 [some (.ref 84), none, some (.int (nI (s + L.length))), some (.int (nI (s + nf))), none, some (.int (nI n)), some (.int (nI (s + k))), some (.int (gx L (k + 2 + n))), some (.int 0), none] [] _ _
          refine g_iconst (pc := 89) (v := 0) dc_M_rawEnd_89 rfl ?_
          refine g_istore (pc := 90) dc_M_rawEnd_90 (by decide) ?_
          show am_G X mt_M_rawEnd _ 92 [some (.ref 84), none, some (.int (nI (s + L.length))), some (.int (nI (s + nf))), none, some (.int (nI n)), some (.int (nI (s + k))), some (.int (gx L (k + 2 + n))), some (.int 0), some (.int 0)] [] _ _
          refine am_wk (am_le_s (am_le_n (am_le_s (am_le_s (am_le_n (am_le_s (am_le_s (am_le_n (am_le_s (am_le_s am_le_0)))))))))) ?_
          refine v92_M_rawEnd (b0 := false) hA hX hs (by omega) hnf (fun b1' hb1 => ?_) n 0 false (by omega) ⟨fun h9 => ⟨h9, fun j hj => absurd hj (by omega)⟩, fun h9 => h9.1⟩
          have hE : rwP nm L k = false ↔ b1' = true := by rw [rwP_f hr, hb1, ← hn]; exact ⟨fun h9 => absurd h9 (fun h9 => hc57 h9.2.2.1), fun h9 => absurd h9.1 (by decide)⟩
          refine g_iload (pc := 147) dc_M_rawEnd_147 rfl ?_
          refine q_ifb_eq (pc := 149) (tgt := 155) dc_M_rawEnd_149 rfl (fun hc149 => ?_) (fun hc149 => ?_)
          · exact absurd (ho (by omega)) (fun h9 => absurd (hE.mp h9) (by rw [hc149]; decide))
          · refine g_iload (pc := 152) dc_M_rawEnd_152 rfl ?_
            exact g_ireturn dc_M_rawEnd_154 rfl ⟨by rw [if_pos (by omega)], rfl⟩
        · refine g_iload (pc := 60) dc_M_rawEnd_60 rfl ?_
          refine g_s1 (pc := 62) (M' := mt_M_isBlank) dc_M_rawEnd_62 mo_M_isBlank st_M_isBlank ln_M_75 (Nat.le_of_ble_eq_true rfl) (Nat.le_of_ble_eq_true rfl) (am_G.mono (c_M_isBlank (v := (gx L (k + 2 + n)))) ?_)
          intro r h1 hq
          rw [hq.1, hq.2]
          clear hq h1 r
          refine ⟨am_nti _, ?_⟩
          refine q_ifb_ne (pc := 65) (tgt := 82) dc_M_rawEnd_65 rfl (fun hc65 => ?_) (fun hc65 => ?_)
          · refine g_iconst (pc := 82) (v := 1) dc_M_rawEnd_82 rfl ?_
            refine g_goto (pc := 83) (tgt := 87) dc_M_rawEnd_83 rfl ?_
            refine g_istore (pc := 87) dc_M_rawEnd_87 (by decide) ?_
            show am_G X mt_M_rawEnd _ 89 [some (.ref 84), none, some (.int (nI (s + L.length))), some (.int (nI (s + nf))), none, some (.int (nI n)), some (.int (nI (s + k))), some (.int (gx L (k + 2 + n))), some (.int 1), none] [] _ _
            refine g_iconst (pc := 89) (v := 0) dc_M_rawEnd_89 rfl ?_
            refine g_istore (pc := 90) dc_M_rawEnd_90 (by decide) ?_
            show am_G X mt_M_rawEnd _ 92 [some (.ref 84), none, some (.int (nI (s + L.length))), some (.int (nI (s + nf))), none, some (.int (nI n)), some (.int (nI (s + k))), some (.int (gx L (k + 2 + n))), some (.int 1), some (.int 0)] [] _ _
            refine am_wk (am_le_s (am_le_n (am_le_s (am_le_s (am_le_n (am_le_s (am_le_s (am_le_n (am_le_s (am_le_s am_le_0)))))))))) ?_
            refine v92_M_rawEnd (b0 := true) hA hX hs (by omega) hnf (fun b1' hb1 => ?_) n 0 true (by omega) ⟨fun h9 => ⟨h9, fun j hj => absurd hj (by omega)⟩, fun h9 => h9.1⟩
            have hE : rwP nm L k = false ↔ b1' = true := by rw [rwP_f hr, hb1, ← hn]; exact ⟨fun h9 => ⟨rfl, fun j hj => (h9.2.2.2 j hj).trans (hw j (by omega)).symm⟩, fun h9 => ⟨by rw [show k + (2 + n) = k + 2 + n by omega]; simp [bhB, hc65], hc43, hc57, fun j hj => (h9.2 j hj).trans (hw j (by omega))⟩⟩
            refine g_iload (pc := 147) dc_M_rawEnd_147 rfl ?_
            refine q_ifb_eq (pc := 149) (tgt := 155) dc_M_rawEnd_149 rfl (fun hc149 => ?_) (fun hc149 => ?_)
            · exact absurd (ho (by omega)) (fun h9 => absurd (hE.mp h9) (by rw [hc149]; decide))
            · refine g_iload (pc := 152) dc_M_rawEnd_152 rfl ?_
              exact g_ireturn dc_M_rawEnd_154 rfl ⟨by rw [if_pos (by omega)], rfl⟩
          · refine g_iload (pc := 68) dc_M_rawEnd_68 rfl ?_
            refine g_bipush (pc := 70) (v := 47) dc_M_rawEnd_70 rfl ?_
            refine g_icmp_eq (pc := 72) (tgt := 82) dc_M_rawEnd_72 rfl (fun hc72 => ?_) (fun hc72 => ?_)
            · refine g_iconst (pc := 82) (v := 1) dc_M_rawEnd_82 rfl ?_
              refine g_goto (pc := 83) (tgt := 87) dc_M_rawEnd_83 rfl ?_
              refine g_istore (pc := 87) dc_M_rawEnd_87 (by decide) ?_
              show am_G X mt_M_rawEnd _ 89 [some (.ref 84), none, some (.int (nI (s + L.length))), some (.int (nI (s + nf))), none, some (.int (nI n)), some (.int (nI (s + k))), some (.int (gx L (k + 2 + n))), some (.int 1), none] [] _ _
              refine g_iconst (pc := 89) (v := 0) dc_M_rawEnd_89 rfl ?_
              refine g_istore (pc := 90) dc_M_rawEnd_90 (by decide) ?_
              show am_G X mt_M_rawEnd _ 92 [some (.ref 84), none, some (.int (nI (s + L.length))), some (.int (nI (s + nf))), none, some (.int (nI n)), some (.int (nI (s + k))), some (.int (gx L (k + 2 + n))), some (.int 1), some (.int 0)] [] _ _
              refine am_wk (am_le_s (am_le_n (am_le_s (am_le_s (am_le_n (am_le_s (am_le_s (am_le_n (am_le_s (am_le_s am_le_0)))))))))) ?_
              refine v92_M_rawEnd (b0 := true) hA hX hs (by omega) hnf (fun b1' hb1 => ?_) n 0 true (by omega) ⟨fun h9 => ⟨h9, fun j hj => absurd hj (by omega)⟩, fun h9 => h9.1⟩
              have hE : rwP nm L k = false ↔ b1' = true := by rw [rwP_f hr, hb1, ← hn]; exact ⟨fun h9 => ⟨rfl, fun j hj => (h9.2.2.2 j hj).trans (hw j (by omega)).symm⟩, fun h9 => ⟨by rw [show k + (2 + n) = k + 2 + n by omega]; simp [bhB, hc72], hc43, hc57, fun j hj => (h9.2 j hj).trans (hw j (by omega))⟩⟩
              refine g_iload (pc := 147) dc_M_rawEnd_147 rfl ?_
              refine q_ifb_eq (pc := 149) (tgt := 155) dc_M_rawEnd_149 rfl (fun hc149 => ?_) (fun hc149 => ?_)
              · exact absurd (ho (by omega)) (fun h9 => absurd (hE.mp h9) (by rw [hc149]; decide))
              · refine g_iload (pc := 152) dc_M_rawEnd_152 rfl ?_
                exact g_ireturn dc_M_rawEnd_154 rfl ⟨by rw [if_pos (by omega)], rfl⟩
            · refine g_iload (pc := 75) dc_M_rawEnd_75 rfl ?_
              refine g_bipush (pc := 77) (v := 62) dc_M_rawEnd_77 rfl ?_
              refine g_icmp_ne (pc := 79) (tgt := 86) dc_M_rawEnd_79 rfl (fun hc79 => ?_) (fun hc79 => ?_)
              · refine g_iconst (pc := 86) (v := 0) dc_M_rawEnd_86 rfl ?_
                refine g_istore (pc := 87) dc_M_rawEnd_87 (by decide) ?_
                show am_G X mt_M_rawEnd _ 89 [some (.ref 84), none, some (.int (nI (s + L.length))), some (.int (nI (s + nf))), none, some (.int (nI n)), some (.int (nI (s + k))), some (.int (gx L (k + 2 + n))), some (.int 0), none] [] _ _
                refine g_iconst (pc := 89) (v := 0) dc_M_rawEnd_89 rfl ?_
                refine g_istore (pc := 90) dc_M_rawEnd_90 (by decide) ?_
                show am_G X mt_M_rawEnd _ 92 [some (.ref 84), none, some (.int (nI (s + L.length))), some (.int (nI (s + nf))), none, some (.int (nI n)), some (.int (nI (s + k))), some (.int (gx L (k + 2 + n))), some (.int 0), some (.int 0)] [] _ _
                refine am_wk (am_le_s (am_le_n (am_le_s (am_le_s (am_le_n (am_le_s (am_le_s (am_le_n (am_le_s (am_le_s am_le_0)))))))))) ?_
                refine v92_M_rawEnd (b0 := false) hA hX hs (by omega) hnf (fun b1' hb1 => ?_) n 0 false (by omega) ⟨fun h9 => ⟨h9, fun j hj => absurd hj (by omega)⟩, fun h9 => h9.1⟩
                have hE : rwP nm L k = false ↔ b1' = true := by rw [rwP_f hr, hb1, ← hn]; exact ⟨fun h9 => absurd h9 (fun h9 => absurd h9.1 (by rw [show k + (2 + n) = k + 2 + n by omega]; simp [bhB, hc65, hc72, hc79])), fun h9 => absurd h9.1 (by decide)⟩
                refine g_iload (pc := 147) dc_M_rawEnd_147 rfl ?_
                refine q_ifb_eq (pc := 149) (tgt := 155) dc_M_rawEnd_149 rfl (fun hc149 => ?_) (fun hc149 => ?_)
                · exact absurd (ho (by omega)) (fun h9 => absurd (hE.mp h9) (by rw [hc149]; decide))
                · refine g_iload (pc := 152) dc_M_rawEnd_152 rfl ?_
                  exact g_ireturn dc_M_rawEnd_154 rfl ⟨by rw [if_pos (by omega)], rfl⟩
              · refine g_iconst (pc := 82) (v := 1) dc_M_rawEnd_82 rfl ?_
                refine g_goto (pc := 83) (tgt := 87) dc_M_rawEnd_83 rfl ?_
                refine g_istore (pc := 87) dc_M_rawEnd_87 (by decide) ?_
                show am_G X mt_M_rawEnd _ 89 [some (.ref 84), none, some (.int (nI (s + L.length))), some (.int (nI (s + nf))), none, some (.int (nI n)), some (.int (nI (s + k))), some (.int (gx L (k + 2 + n))), some (.int 1), none] [] _ _
                refine g_iconst (pc := 89) (v := 0) dc_M_rawEnd_89 rfl ?_
                refine g_istore (pc := 90) dc_M_rawEnd_90 (by decide) ?_
                show am_G X mt_M_rawEnd _ 92 [some (.ref 84), none, some (.int (nI (s + L.length))), some (.int (nI (s + nf))), none, some (.int (nI n)), some (.int (nI (s + k))), some (.int (gx L (k + 2 + n))), some (.int 1), some (.int 0)] [] _ _
                refine am_wk (am_le_s (am_le_n (am_le_s (am_le_s (am_le_n (am_le_s (am_le_s (am_le_n (am_le_s (am_le_s am_le_0)))))))))) ?_
                refine v92_M_rawEnd (b0 := true) hA hX hs (by omega) hnf (fun b1' hb1 => ?_) n 0 true (by omega) ⟨fun h9 => ⟨h9, fun j hj => absurd hj (by omega)⟩, fun h9 => h9.1⟩
                have hE : rwP nm L k = false ↔ b1' = true := by rw [rwP_f hr, hb1, ← hn]; exact ⟨fun h9 => ⟨rfl, fun j hj => (h9.2.2.2 j hj).trans (hw j (by omega)).symm⟩, fun h9 => ⟨by rw [show k + (2 + n) = k + 2 + n by omega]; simp [bhB, hc79], hc43, hc57, fun j hj => (h9.2 j hj).trans (hw j (by omega))⟩⟩
                refine g_iload (pc := 147) dc_M_rawEnd_147 rfl ?_
                refine q_ifb_eq (pc := 149) (tgt := 155) dc_M_rawEnd_149 rfl (fun hc149 => ?_) (fun hc149 => ?_)
                · exact absurd (ho (by omega)) (fun h9 => absurd (hE.mp h9) (by rw [hc149]; decide))
                · refine g_iload (pc := 152) dc_M_rawEnd_152 rfl ?_
                  exact g_ireturn dc_M_rawEnd_154 rfl ⟨by rw [if_pos (by omega)], rfl⟩
  refine g_iload (pc := 0) dc_M_rawEnd_0 rfl ?_
  refine g_iload_n (pc := 2) dc_M_rawEnd_2 rfl ?_
  refine g_isub (pc := 3) (v := (nI n)) dc_M_rawEnd_3 ((q_ss (s := s) (a := nt) (b := nf) (by omega)).trans (congrArg nI hnn)) ?_
  refine g_istore (pc := 4) dc_M_rawEnd_4 (by decide) ?_
  show am_G X mt_M_rawEnd _ 6 [some (.ref 84), some (.int (nI (s + f))), some (.int (nI (s + L.length))), some (.int (nI (s + nf))), some (.int (nI (s + nt))), some (.int (nI n)), none, none, none, none] [] _ _
  refine g_iload_n (pc := 6) dc_M_rawEnd_6 rfl ?_
  refine g_istore (pc := 7) dc_M_rawEnd_7 (by decide) ?_
  show am_G X mt_M_rawEnd _ 9 [some (.ref 84), some (.int (nI (s + f))), some (.int (nI (s + L.length))), some (.int (nI (s + nf))), some (.int (nI (s + nt))), some (.int (nI n)), some (.int (nI (s + f))), none, none, none] [] _ _
  refine am_wk (am_le_s (am_le_n (am_le_s (am_le_s (am_le_n (am_le_s (am_le_s (am_le_n (am_le_n (am_le_n am_le_0)))))))))) ?_
  by_cases hle : f ≤ L.length - cln nm
  · exact v9_M_rawEnd hA hX hs hr hw2.2 hn hnf (L.length - cln nm - f) f (by omega) hK
  · have e9 : fx (rwP nm L) f (L.length - cln nm) = f := fx_0 (by omega)
    rw [e9] at hK
    exact hK
end MRW
