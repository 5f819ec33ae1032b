/-! ===== references of a page's text ===== -/
def hv (v : Int32) : Nat := (hx v).getD 0
def nval (L : List Int32) (r f : Nat) : Nat → Nat
  | 0 => 0
  | n + 1 => r * nval L r f n + hv (gx L (f + n))
def dgR (L : List Int32) (r j : Nat) : Bool := match hx (gx L j) with
  | some k => decide (k < r)
  | none => false
theorem dgR_s {L : List Int32} {r j k : Nat} (h : hx (gx L j) = some k) (hk : k < r) : dgR L r j = true := by unfold dgR; rw [h]; exact decide_eq_true hk
theorem dgR_f {L : List Int32} {r j k : Nat} (h : hx (gx L j) = some k) (hk : r ≤ k) : dgR L r j = false := by unfold dgR; rw [h]; exact decide_eq_false (by omega)
theorem dgR_n {L : List Int32} {r j : Nat} (h : hx (gx L j) = none) : dgR L r j = false := by unfold dgR; rw [h]
theorem dgR_v {L : List Int32} {r j : Nat} (h : dgR L r j = true) : hv (gx L j) < r := by
  unfold dgR at h
  unfold hv
  cases e : hx (gx L j) with
  | none => rw [e] at h; cases h
  | some k => rw [e] at h; exact of_decide_eq_true h
theorem nval_lt {L : List Int32} {r f : Nat} (hr : r = 10 ∨ r = 16) : ∀ n : Nat, (∀ j, f ≤ j → j < f + n → dgR L r j = true) → nval L r f n < r ^ n
  | 0, _ => by show 0 < 1; omega
  | n + 1, h => by
    have ih := nval_lt hr n (fun j h1 h2 => h j h1 (by omega))
    have h1 := dgR_v (h (f + n) (by omega) (by omega))
    show r * nval L r f n + hv (gx L (f + n)) < r ^ (n + 1)
    rw [Nat.pow_succ]
    rcases hr with rfl | rfl <;> omega
theorem nval_6 {L : List Int32} {r f n : Nat} (hr : r = 10 ∨ r = 16) (hn : n ≤ 6) (h : ∀ j, f ≤ j → j < f + n → dgR L r j = true) : nval L r f n < 16777216 := by
  have h1 := nval_lt hr n h
  have h2 : r ^ n ≤ r ^ 6 := Nat.pow_le_pow_right (by omega) hn
  rcases hr with rfl | rfl
  · have h3 : (10 : Nat) ^ 6 = 1000000 := by decide
    omega
  · have h3 : (16 : Nat) ^ 6 = 16777216 := by decide
    omega
def ncl (n : Nat) : Nat := if 32 ≤ n ∧ n ≤ 126 then n else 32
def nmb (L : List Int32) (r f t : Nat) : Option Nat := if t ≤ f ∨ 6 < t - f then none else if alp (dgR L r) f t = true then some (ncl (nval L r f (t - f))) else none
theorem nmb_b {L : List Int32} {r f t : Nat} : ∀ k, nmb L r f t = some k → k < 2 ^ 31 := fun k h => by
  unfold nmb at h
  split at h
  · cases h
  · split at h
    · cases h
      unfold ncl
      split <;> omega
    · cases h
section NUM
variable {X : am_X} {d : Nat} {h : List va_E} {a s f t r : Nat} {L : List Int32}
theorem l_P_numbered (hx : tt h a s L) (hr : r = 10 ∨ r = 16) (hft : f < t) (h6 : t - f ≤ 6) (ht : t ≤ L.length) : ∀ n i : Nat, i + n = t → f ≤ i → (∀ j, f ≤ j → j < i → dgR L r j = true) → am_G X mt_P_numbered (d + 1) 21 [some (.ref a), some (.int (nI (s + f))), some (.int (nI (s + t))), some (.int (nI r)), some (.int (nI (nval L r f (i - f)))), some (.int (nI (s + i))), none] [] h (fun r1 h1 => r1 = some (.int (er (nmb L r f t))) ∧ h1 = h)
  | 0, i, e, hfi, hp => by
    obtain rfl : i = t := by omega
    have hlt := nval_6 (L := L) (f := f) (n := i - f) hr h6 (fun j h1 h2 => hp j h1 (by omega))
    have he : nmb L r f i = some (ncl (nval L r f (i - f))) := by unfold nmb; rw [if_neg (by omega), if_pos (alp_iff.mpr hp)]
    rw [he]
    obtain ⟨cap, g, ha, hT, hs, hc⟩ := hx
    refine g_iload (pc := 21) dc_P_numbered_21 rfl ?_
    refine g_iload_n (pc := 23) dc_P_numbered_23 rfl ?_
    refine q_icmp_ge (pc := 24) (tgt := 65) (s + i) (s + i) dc_P_numbered_24 (by omega) (by omega) rfl (fun hc24 => ?_) (fun hc => absurd hc (by omega))
    refine g_iload (pc := 65) dc_P_numbered_65 rfl ?_
    refine g_bipush (pc := 67) (v := 32) dc_P_numbered_67 rfl ?_
    refine q_icmp_lt (pc := 69) (tgt := 84) (nval L r f (i - f)) 32 dc_P_numbered_69 (by omega) (by omega) rfl (fun hc69 => ?_) (fun hc69 => ?_)
    · refine g_bipush (pc := 84) (v := 32) dc_P_numbered_84 rfl ?_
      exact g_ireturn dc_P_numbered_86 rfl ⟨congrArg (fun z => some (Value.int z)) (by unfold ncl; rw [if_neg (by omega)]; rfl), rfl⟩
    · refine g_iload (pc := 72) dc_P_numbered_72 rfl ?_
      refine g_bipush (pc := 74) (v := 126) dc_P_numbered_74 rfl ?_
      refine q_icmp_gt (pc := 76) (tgt := 84) (nval L r f (i - f)) 126 dc_P_numbered_76 (by omega) (by omega) rfl (fun hc76 => ?_) (fun hc76 => ?_)
      · refine g_bipush (pc := 84) (v := 32) dc_P_numbered_84 rfl ?_
        exact g_ireturn dc_P_numbered_86 rfl ⟨congrArg (fun z => some (Value.int z)) (by unfold ncl; rw [if_neg (by omega)]; rfl), rfl⟩
      · refine g_iload (pc := 79) dc_P_numbered_79 rfl ?_
        refine g_goto (pc := 81) (tgt := 86) dc_P_numbered_81 rfl ?_
        exact g_ireturn dc_P_numbered_86 rfl ⟨congrArg (fun z => some (Value.int z)) (by unfold ncl; rw [if_pos (by omega)]; rfl), rfl⟩
  | n + 1, i, e, hfi, hp => by
    have hlt := nval_6 (L := L) (f := f) (n := i - f) hr (by omega) (fun j h1 h2 => hp j h1 (by omega))
    have hx0 := hx
    obtain ⟨cap, g, ha, hT, hs, hc⟩ := hx
    refine g_iload (pc := 21) dc_P_numbered_21 rfl ?_
    refine g_iload_n (pc := 23) dc_P_numbered_23 rfl ?_
    refine q_icmp_ge (pc := 24) (tgt := 65) (s + i) (s + t) dc_P_numbered_24 (by omega) (by omega) rfl (fun hc => absurd hc (by omega)) (fun hc24 => ?_)
    refine g_aload_n (pc := 27) dc_P_numbered_27 rfl ?_
    refine g_iload (pc := 28) dc_P_numbered_28 rfl ?_
    refine q_tx (pc := 30) i dc_P_numbered_30 ha hT hs (by omega) hc ?_
    refine g_s1 (pc := 31) (M' := mt_W_hexValue) dc_P_numbered_31 mo_W_hexValue st_W_hexValue ln_P_176 (Nat.le_of_ble_eq_true rfl) (Nat.le_of_ble_eq_true rfl) (am_G.mono (e_W_hexValue (v := (gx L i))) ?_)
    intro r h1 hq
    rw [hq.1, hq.2]
    clear hq h1 r
    refine ⟨am_nti _, ?_⟩
    refine g_istore (pc := 34) dc_P_numbered_34 (by decide) ?_
    refine g_iload (pc := 36) dc_P_numbered_36 rfl ?_
    refine g_iconst (pc := 38) (v := (-1)) dc_P_numbered_38 rfl ?_
    refine q_o_eq (pc := 39) (tgt := 48) dc_P_numbered_39 hx_b rfl (fun hc39 => ?_) (fun k39 hc39 => ?_)
    · rw [hc39]
      refine g_iconst (pc := 48) (v := (-1)) dc_P_numbered_48 rfl ?_
      exact g_ireturn dc_P_numbered_49 rfl ⟨congrArg (fun z => some (Value.int z)) (by unfold nmb; rw [if_neg (by omega), if_neg (fun h9 => by have h8 := alp_iff.mp h9 i hfi (by omega); rw [dgR_n hc39] at h8; cases h8)]; rfl), rfl⟩
    · rw [hc39]
      rw [show er (some k39) = nI k39 from rfl]
      have hk39 := hx_b k39 hc39
      refine g_iload (pc := 42) dc_P_numbered_42 rfl ?_
      refine g_iload_n (pc := 44) dc_P_numbered_44 rfl ?_
      refine q_icmp_lt (pc := 45) (tgt := 50) k39 r dc_P_numbered_45 (by omega) (by omega) rfl (fun hc45 => ?_) (fun hc45 => ?_)
      · refine g_iload_n (pc := 50) dc_P_numbered_50 rfl ?_
        refine g_iload (pc := 51) dc_P_numbered_51 rfl ?_
        refine g_imul (pc := 53) (v := (nI (r * nval L r f (i - f)))) dc_P_numbered_53 (pk_mul r (nval L r f (i - f))) ?_
        refine g_iload (pc := 54) dc_P_numbered_54 rfl ?_
        refine g_iadd (pc := 56) (v := (nI (nval L r f (i + 1 - f)))) dc_P_numbered_56 (by rw [nI_add, show i + 1 - f = (i - f) + 1 by omega]; show _ = nI (r * nval L r f (i - f) + hv (gx L (f + (i - f)))); rw [show f + (i - f) = i by omega, show hv (gx L i) = k39 by unfold hv; rw [hc39]; rfl]) ?_
        refine g_istore (pc := 57) dc_P_numbered_57 (by decide) ?_
        refine g_iinc (pc := 59) (v := (nI (s + (i + 1)))) dc_P_numbered_59 rfl (q_as s i 1) (by decide) ?_
        refine g_goto (pc := 62) (tgt := 21) dc_P_numbered_62 rfl ?_
        refine am_wk (am_le_s (am_le_s (am_le_s (am_le_s (am_le_s (am_le_s (am_le_n am_le_0))))))) ?_
        exact l_P_numbered hx0 hr hft h6 ht n (i + 1) (by omega) (by omega) (fun j h1 h2 => by
        rcases Nat.eq_or_lt_of_le (Nat.le_of_lt_succ h2) with e9 | e9
        · rw [e9]; exact dgR_s hc39 (by omega)
        · exact hp j h1 e9)
      · refine g_iconst (pc := 48) (v := (-1)) dc_P_numbered_48 rfl ?_
        exact g_ireturn dc_P_numbered_49 rfl ⟨congrArg (fun z => some (Value.int z)) (by unfold nmb; rw [if_neg (by omega), if_neg (fun h9 => by have h8 := alp_iff.mp h9 i hfi (by omega); rw [dgR_f hc39 (by omega)] at h8; cases h8)]; rfl), rfl⟩
theorem t_P_numbered (hx : tt h a s L) (hr : r = 10 ∨ r = 16) (hf : f ≤ L.length) (ht : t ≤ L.length) : am_C X mt_P_numbered (d + 1) [.ref a, .int (nI (s + f)), .int (nI (s + t)), .int (nI r)] h (fun r1 h1 => r1 = some (.int (er (nmb L r f t))) ∧ h1 = h) := by
  show am_G X mt_P_numbered (d + 1) 0 [some (.ref a), some (.int (nI (s + f))), some (.int (nI (s + t))), some (.int (nI r)), none, none, none] [] h _
  have hx0 := hx
  obtain ⟨cap, g, ha, hT, hs, hc⟩ := hx
  refine g_iload_n (pc := 0) dc_P_numbered_0 rfl ?_
  refine g_iload_n (pc := 1) dc_P_numbered_1 rfl ?_
  refine q_icmp_le (pc := 2) (tgt := 13) (s + t) (s + f) dc_P_numbered_2 (by omega) (by omega) rfl (fun hc2 => ?_) (fun hc2 => ?_)
  · refine g_iconst (pc := 13) (v := (-1)) dc_P_numbered_13 rfl ?_
    exact g_ireturn dc_P_numbered_14 rfl ⟨congrArg (fun z => some (Value.int z)) (by unfold nmb; rw [if_pos (by omega)]; rfl), rfl⟩
  · refine g_iload_n (pc := 5) dc_P_numbered_5 rfl ?_
    refine g_iload_n (pc := 6) dc_P_numbered_6 rfl ?_
    refine g_isub (pc := 7) (v := (nI (t - f))) dc_P_numbered_7 (q_ss (s := s) (a := t) (b := f) (by omega)) ?_
    refine g_bipush (pc := 8) (v := 6) dc_P_numbered_8 rfl ?_
    refine q_icmp_le (pc := 10) (tgt := 15) (t - f) 6 dc_P_numbered_10 (by omega) (by omega) rfl (fun hc10 => ?_) (fun hc10 => ?_)
    · refine g_iconst (pc := 15) (v := 0) dc_P_numbered_15 rfl ?_
      refine g_istore (pc := 16) dc_P_numbered_16 (by decide) ?_
      refine g_iload_n (pc := 18) dc_P_numbered_18 rfl ?_
      refine g_istore (pc := 19) dc_P_numbered_19 (by decide) ?_
      have h9 := l_P_numbered (X := X) (d := d) hx0 hr (by omega) (by omega) ht (t - f) f (by omega) (Nat.le_refl _) (fun j h1 h2 => absurd h2 (by omega))
      rw [Nat.sub_self] at h9
      exact h9
    · refine g_iconst (pc := 13) (v := (-1)) dc_P_numbered_13 rfl ?_
      exact g_ireturn dc_P_numbered_14 rfl ⟨congrArg (fun z => some (Value.int z)) (by unfold nmb; rw [if_pos (by omega)]; rfl), rfl⟩
def refd (L : List Int32) (f t : Nat) : Option Nat := if f < t ∧ gx L f = 35 then (if f + 1 < t ∧ toLo (gx L (f + 1)) = 120 then nmb L 16 (f + 2) t else nmb L 10 (f + 1) t) else if isx 23 L f t = true then some 38 else if isx 24 L f t = true then some 60 else if isx 25 L f t = true then some 62 else if isx 26 L f t = true then some 34 else if isx 27 L f t = true then some 39 else none
theorem refd_b {L : List Int32} {f t : Nat} : ∀ k, refd L f t = some k → k < 2 ^ 31 := fun k h => by
  unfold refd at h
  split at h
  · split at h <;> exact nmb_b k h
  · split at h
    · cases h; decide
    · split at h
      · cases h; decide
      · split at h
        · cases h; decide
        · split at h
          · cases h; decide
          · split at h
            · cases h; decide
            · cases h
theorem t_P_referenced (hx : tt h a s L) (hft : f ≤ t) (ht : t ≤ L.length) : am_C X mt_P_referenced (d + 5) [.ref a, .int (nI (s + f)), .int (nI (s + t))] h (fun r1 h1 => r1 = some (.int (er (refd L f t))) ∧ h1 = h) := by
  show am_G X mt_P_referenced (d + 5) 0 [some (.ref a), some (.int (nI (s + f))), some (.int (nI (s + t))), none] [] h _
  have hx0 := hx
  obtain ⟨cap, g, ha, hT, hs, hc⟩ := hx
  refine g_iload_n (pc := 0) dc_P_referenced_0 rfl ?_
  refine g_iload_n (pc := 1) dc_P_referenced_1 rfl ?_
  refine q_icmp_ge (pc := 2) (tgt := 69) (s + f) (s + t) dc_P_referenced_2 (by omega) (by omega) rfl (fun hc2 => ?_) (fun hc2 => ?_)
  · refine g_aload_n (pc := 69) dc_P_referenced_69 rfl ?_
    refine g_iload_n (pc := 70) dc_P_referenced_70 rfl ?_
    refine g_iload_n (pc := 71) dc_P_referenced_71 rfl ?_
    refine g_ldcS (pc := 72) 23 dc_P_referenced_72 (by decide) rfl rfl ?_
    refine g_s4 (pc := 74) (M' := mt_P_isExactly) dc_P_referenced_74 mo_P_isExactly st_P_isExactly ln_P_156 (Nat.le_of_ble_eq_true rfl) (Nat.le_of_ble_eq_true rfl) (am_G.mono (t_P_isExactly (f := f) (t := t) (i := 23) hx0 (by decide) (by omega) (by omega)) ?_)
    intro r h1 hq
    rw [hq.1, hq.2]
    clear hq h1 r
    refine ⟨am_nti _, ?_⟩
    refine q_ifb_eq (pc := 77) (tgt := 83) dc_P_referenced_77 rfl (fun hc77 => ?_) (fun hc77 => ?_)
    · refine g_aload_n (pc := 83) dc_P_referenced_83 rfl ?_
      refine g_iload_n (pc := 84) dc_P_referenced_84 rfl ?_
      refine g_iload_n (pc := 85) dc_P_referenced_85 rfl ?_
      refine g_ldcS (pc := 86) 24 dc_P_referenced_86 (by decide) rfl rfl ?_
      refine g_s4 (pc := 88) (M' := mt_P_isExactly) dc_P_referenced_88 mo_P_isExactly st_P_isExactly ln_P_156 (Nat.le_of_ble_eq_true rfl) (Nat.le_of_ble_eq_true rfl) (am_G.mono (t_P_isExactly (f := f) (t := t) (i := 24) hx0 (by decide) (by omega) (by omega)) ?_)
      intro r h1 hq
      rw [hq.1, hq.2]
      clear hq h1 r
      refine ⟨am_nti _, ?_⟩
      refine q_ifb_eq (pc := 91) (tgt := 97) dc_P_referenced_91 rfl (fun hc91 => ?_) (fun hc91 => ?_)
      · refine g_aload_n (pc := 97) dc_P_referenced_97 rfl ?_
        refine g_iload_n (pc := 98) dc_P_referenced_98 rfl ?_
        refine g_iload_n (pc := 99) dc_P_referenced_99 rfl ?_
        refine g_ldcS (pc := 100) 25 dc_P_referenced_100 (by decide) rfl rfl ?_
        refine g_s4 (pc := 102) (M' := mt_P_isExactly) dc_P_referenced_102 mo_P_isExactly st_P_isExactly ln_P_156 (Nat.le_of_ble_eq_true rfl) (Nat.le_of_ble_eq_true rfl) (am_G.mono (t_P_isExactly (f := f) (t := t) (i := 25) hx0 (by decide) (by omega) (by omega)) ?_)
        intro r h1 hq
        rw [hq.1, hq.2]
        clear hq h1 r
        refine ⟨am_nti _, ?_⟩
        refine q_ifb_eq (pc := 105) (tgt := 111) dc_P_referenced_105 rfl (fun hc105 => ?_) (fun hc105 => ?_)
        · refine g_aload_n (pc := 111) dc_P_referenced_111 rfl ?_
          refine g_iload_n (pc := 112) dc_P_referenced_112 rfl ?_
          refine g_iload_n (pc := 113) dc_P_referenced_113 rfl ?_
          refine g_ldcS (pc := 114) 26 dc_P_referenced_114 (by decide) rfl rfl ?_
          refine g_s4 (pc := 116) (M' := mt_P_isExactly) dc_P_referenced_116 mo_P_isExactly st_P_isExactly ln_P_156 (Nat.le_of_ble_eq_true rfl) (Nat.le_of_ble_eq_true rfl) (am_G.mono (t_P_isExactly (f := f) (t := t) (i := 26) hx0 (by decide) (by omega) (by omega)) ?_)
          intro r h1 hq
          rw [hq.1, hq.2]
          clear hq h1 r
          refine ⟨am_nti _, ?_⟩
          refine q_ifb_eq (pc := 119) (tgt := 125) dc_P_referenced_119 rfl (fun hc119 => ?_) (fun hc119 => ?_)
          · refine g_aload_n (pc := 125) dc_P_referenced_125 rfl ?_
            refine g_iload_n (pc := 126) dc_P_referenced_126 rfl ?_
            refine g_iload_n (pc := 127) dc_P_referenced_127 rfl ?_
            refine g_ldcS (pc := 128) 27 dc_P_referenced_128 (by decide) rfl rfl ?_
            refine g_s4 (pc := 130) (M' := mt_P_isExactly) dc_P_referenced_130 mo_P_isExactly st_P_isExactly ln_P_156 (Nat.le_of_ble_eq_true rfl) (Nat.le_of_ble_eq_true rfl) (am_G.mono (t_P_isExactly (f := f) (t := t) (i := 27) hx0 (by decide) (by omega) (by omega)) ?_)
            intro r h1 hq
            rw [hq.1, hq.2]
            clear hq h1 r
            refine ⟨am_nti _, ?_⟩
            refine q_ifb_eq (pc := 133) (tgt := 141) dc_P_referenced_133 rfl (fun hc133 => ?_) (fun hc133 => ?_)
            · refine g_iconst (pc := 141) (v := (-1)) dc_P_referenced_141 rfl ?_
              exact g_ireturn dc_P_referenced_142 rfl ⟨by unfold refd; rw [if_neg (by omega), if_neg (by rw [hc77]; decide), if_neg (by rw [hc91]; decide), if_neg (by rw [hc105]; decide), if_neg (by rw [hc119]; decide), if_neg (by rw [hc133]; decide)]; rfl, rfl⟩
            · refine g_bipush (pc := 136) (v := 39) dc_P_referenced_136 rfl ?_
              refine g_goto (pc := 138) (tgt := 142) dc_P_referenced_138 rfl ?_
              exact g_ireturn dc_P_referenced_142 rfl ⟨by unfold refd; rw [if_neg (by omega), if_neg (by rw [hc77]; decide), if_neg (by rw [hc91]; decide), if_neg (by rw [hc105]; decide), if_neg (by rw [hc119]; decide), if_pos hc133]; rfl, rfl⟩
          · refine g_bipush (pc := 122) (v := 34) dc_P_referenced_122 rfl ?_
            exact g_ireturn dc_P_referenced_124 rfl ⟨by unfold refd; rw [if_neg (by omega), if_neg (by rw [hc77]; decide), if_neg (by rw [hc91]; decide), if_neg (by rw [hc105]; decide), if_pos hc119]; rfl, rfl⟩
        · refine g_bipush (pc := 108) (v := 62) dc_P_referenced_108 rfl ?_
          exact g_ireturn dc_P_referenced_110 rfl ⟨by unfold refd; rw [if_neg (by omega), if_neg (by rw [hc77]; decide), if_neg (by rw [hc91]; decide), if_pos hc105]; rfl, rfl⟩
      · refine g_bipush (pc := 94) (v := 60) dc_P_referenced_94 rfl ?_
        exact g_ireturn dc_P_referenced_96 rfl ⟨by unfold refd; rw [if_neg (by omega), if_neg (by rw [hc77]; decide), if_pos hc91]; rfl, rfl⟩
    · refine g_bipush (pc := 80) (v := 38) dc_P_referenced_80 rfl ?_
      exact g_ireturn dc_P_referenced_82 rfl ⟨by unfold refd; rw [if_neg (by omega), if_pos hc77]; rfl, rfl⟩
  · refine g_aload_n (pc := 5) dc_P_referenced_5 rfl ?_
    refine g_iload_n (pc := 6) dc_P_referenced_6 rfl ?_
    refine q_tx (pc := 7) f dc_P_referenced_7 ha hT hs (by omega) hc ?_
    refine g_bipush (pc := 8) (v := 35) dc_P_referenced_8 rfl ?_
    refine g_icmp_ne (pc := 10) (tgt := 69) dc_P_referenced_10 rfl (fun hc10 => ?_) (fun hc10 => ?_)
    · refine g_aload_n (pc := 69) dc_P_referenced_69 rfl ?_
      refine g_iload_n (pc := 70) dc_P_referenced_70 rfl ?_
      refine g_iload_n (pc := 71) dc_P_referenced_71 rfl ?_
      refine g_ldcS (pc := 72) 23 dc_P_referenced_72 (by decide) rfl rfl ?_
      refine g_s4 (pc := 74) (M' := mt_P_isExactly) dc_P_referenced_74 mo_P_isExactly st_P_isExactly ln_P_156 (Nat.le_of_ble_eq_true rfl) (Nat.le_of_ble_eq_true rfl) (am_G.mono (t_P_isExactly (f := f) (t := t) (i := 23) hx0 (by decide) (by omega) (by omega)) ?_)
      intro r h1 hq
      rw [hq.1, hq.2]
      clear hq h1 r
      refine ⟨am_nti _, ?_⟩
      refine q_ifb_eq (pc := 77) (tgt := 83) dc_P_referenced_77 rfl (fun hc77 => ?_) (fun hc77 => ?_)
      · refine g_aload_n (pc := 83) dc_P_referenced_83 rfl ?_
        refine g_iload_n (pc := 84) dc_P_referenced_84 rfl ?_
        refine g_iload_n (pc := 85) dc_P_referenced_85 rfl ?_
        refine g_ldcS (pc := 86) 24 dc_P_referenced_86 (by decide) rfl rfl ?_
        refine g_s4 (pc := 88) (M' := mt_P_isExactly) dc_P_referenced_88 mo_P_isExactly st_P_isExactly ln_P_156 (Nat.le_of_ble_eq_true rfl) (Nat.le_of_ble_eq_true rfl) (am_G.mono (t_P_isExactly (f := f) (t := t) (i := 24) hx0 (by decide) (by omega) (by omega)) ?_)
        intro r h1 hq
        rw [hq.1, hq.2]
        clear hq h1 r
        refine ⟨am_nti _, ?_⟩
        refine q_ifb_eq (pc := 91) (tgt := 97) dc_P_referenced_91 rfl (fun hc91 => ?_) (fun hc91 => ?_)
        · refine g_aload_n (pc := 97) dc_P_referenced_97 rfl ?_
          refine g_iload_n (pc := 98) dc_P_referenced_98 rfl ?_
          refine g_iload_n (pc := 99) dc_P_referenced_99 rfl ?_
          refine g_ldcS (pc := 100) 25 dc_P_referenced_100 (by decide) rfl rfl ?_
          refine g_s4 (pc := 102) (M' := mt_P_isExactly) dc_P_referenced_102 mo_P_isExactly st_P_isExactly ln_P_156 (Nat.le_of_ble_eq_true rfl) (Nat.le_of_ble_eq_true rfl) (am_G.mono (t_P_isExactly (f := f) (t := t) (i := 25) hx0 (by decide) (by omega) (by omega)) ?_)
          intro r h1 hq
          rw [hq.1, hq.2]
          clear hq h1 r
          refine ⟨am_nti _, ?_⟩
          refine q_ifb_eq (pc := 105) (tgt := 111) dc_P_referenced_105 rfl (fun hc105 => ?_) (fun hc105 => ?_)
          · refine g_aload_n (pc := 111) dc_P_referenced_111 rfl ?_
            refine g_iload_n (pc := 112) dc_P_referenced_112 rfl ?_
            refine g_iload_n (pc := 113) dc_P_referenced_113 rfl ?_
            refine g_ldcS (pc := 114) 26 dc_P_referenced_114 (by decide) rfl rfl ?_
            refine g_s4 (pc := 116) (M' := mt_P_isExactly) dc_P_referenced_116 mo_P_isExactly st_P_isExactly ln_P_156 (Nat.le_of_ble_eq_true rfl) (Nat.le_of_ble_eq_true rfl) (am_G.mono (t_P_isExactly (f := f) (t := t) (i := 26) hx0 (by decide) (by omega) (by omega)) ?_)
            intro r h1 hq
            rw [hq.1, hq.2]
            clear hq h1 r
            refine ⟨am_nti _, ?_⟩
            refine q_ifb_eq (pc := 119) (tgt := 125) dc_P_referenced_119 rfl (fun hc119 => ?_) (fun hc119 => ?_)
            · refine g_aload_n (pc := 125) dc_P_referenced_125 rfl ?_
              refine g_iload_n (pc := 126) dc_P_referenced_126 rfl ?_
              refine g_iload_n (pc := 127) dc_P_referenced_127 rfl ?_
              refine g_ldcS (pc := 128) 27 dc_P_referenced_128 (by decide) rfl rfl ?_
              refine g_s4 (pc := 130) (M' := mt_P_isExactly) dc_P_referenced_130 mo_P_isExactly st_P_isExactly ln_P_156 (Nat.le_of_ble_eq_true rfl) (Nat.le_of_ble_eq_true rfl) (am_G.mono (t_P_isExactly (f := f) (t := t) (i := 27) hx0 (by decide) (by omega) (by omega)) ?_)
              intro r h1 hq
              rw [hq.1, hq.2]
              clear hq h1 r
              refine ⟨am_nti _, ?_⟩
              refine q_ifb_eq (pc := 133) (tgt := 141) dc_P_referenced_133 rfl (fun hc133 => ?_) (fun hc133 => ?_)
              · refine g_iconst (pc := 141) (v := (-1)) dc_P_referenced_141 rfl ?_
                exact g_ireturn dc_P_referenced_142 rfl ⟨by unfold refd; rw [if_neg (fun h9 => hc10 h9.2), if_neg (by rw [hc77]; decide), if_neg (by rw [hc91]; decide), if_neg (by rw [hc105]; decide), if_neg (by rw [hc119]; decide), if_neg (by rw [hc133]; decide)]; rfl, rfl⟩
              · refine g_bipush (pc := 136) (v := 39) dc_P_referenced_136 rfl ?_
                refine g_goto (pc := 138) (tgt := 142) dc_P_referenced_138 rfl ?_
                exact g_ireturn dc_P_referenced_142 rfl ⟨by unfold refd; rw [if_neg (fun h9 => hc10 h9.2), if_neg (by rw [hc77]; decide), if_neg (by rw [hc91]; decide), if_neg (by rw [hc105]; decide), if_neg (by rw [hc119]; decide), if_pos hc133]; rfl, rfl⟩
            · refine g_bipush (pc := 122) (v := 34) dc_P_referenced_122 rfl ?_
              exact g_ireturn dc_P_referenced_124 rfl ⟨by unfold refd; rw [if_neg (fun h9 => hc10 h9.2), if_neg (by rw [hc77]; decide), if_neg (by rw [hc91]; decide), if_neg (by rw [hc105]; decide), if_pos hc119]; rfl, rfl⟩
          · refine g_bipush (pc := 108) (v := 62) dc_P_referenced_108 rfl ?_
            exact g_ireturn dc_P_referenced_110 rfl ⟨by unfold refd; rw [if_neg (fun h9 => hc10 h9.2), if_neg (by rw [hc77]; decide), if_neg (by rw [hc91]; decide), if_pos hc105]; rfl, rfl⟩
        · refine g_bipush (pc := 94) (v := 60) dc_P_referenced_94 rfl ?_
          exact g_ireturn dc_P_referenced_96 rfl ⟨by unfold refd; rw [if_neg (fun h9 => hc10 h9.2), if_neg (by rw [hc77]; decide), if_pos hc91]; rfl, rfl⟩
      · refine g_bipush (pc := 80) (v := 38) dc_P_referenced_80 rfl ?_
        exact g_ireturn dc_P_referenced_82 rfl ⟨by unfold refd; rw [if_neg (fun h9 => hc10 h9.2), if_pos hc77]; rfl, rfl⟩
    · refine g_iload_n (pc := 13) dc_P_referenced_13 rfl ?_
      refine g_iconst (pc := 14) (v := 1) dc_P_referenced_14 rfl ?_
      refine g_iadd (pc := 15) (v := (nI (s + (f + 1)))) dc_P_referenced_15 (q_as s f 1) ?_
      refine g_iload_n (pc := 16) dc_P_referenced_16 rfl ?_
      refine q_icmp_ge (pc := 17) (tgt := 37) (s + (f + 1)) (s + t) dc_P_referenced_17 (by omega) (by omega) rfl (fun hc17 => ?_) (fun hc17 => ?_)
      · refine g_iconst (pc := 37) (v := 0) dc_P_referenced_37 rfl ?_
        refine g_istore_n (pc := 38) dc_P_referenced_38 (by decide) ?_
        refine g_aload_n (pc := 39) dc_P_referenced_39 rfl ?_
        refine g_iload_n (pc := 40) dc_P_referenced_40 rfl ?_
        refine g_if_eq (pc := 41) (tgt := 50) dc_P_referenced_41 rfl (fun _ => ?_) (fun hc => absurd hc (by decide))
        refine g_iload_n (pc := 50) dc_P_referenced_50 rfl ?_
        refine g_iconst (pc := 51) (v := 1) dc_P_referenced_51 rfl ?_
        refine g_iadd (pc := 52) (v := (nI (s + (f + 1)))) dc_P_referenced_52 (q_as s f 1) ?_
        refine g_iload_n (pc := 53) dc_P_referenced_53 rfl ?_
        refine g_iload_n (pc := 54) dc_P_referenced_54 rfl ?_
        refine g_if_eq (pc := 55) (tgt := 63) dc_P_referenced_55 rfl (fun _ => ?_) (fun hc => absurd hc (by decide))
        refine g_bipush (pc := 63) (v := 10) dc_P_referenced_63 rfl ?_
        refine g_s4 (pc := 65) (M' := mt_P_numbered) dc_P_referenced_65 mo_P_numbered st_P_numbered ln_P_151 (Nat.le_of_ble_eq_true rfl) (Nat.le_of_ble_eq_true rfl) (am_G.mono (t_P_numbered (d := d + 3) (f := f + 1) (t := t) (r := 10) hx0 (by omega) (by omega) (by omega)) ?_)
        intro r h1 hq
        rw [hq.1, hq.2]
        clear hq h1 r
        refine ⟨am_nti _, ?_⟩
        exact g_ireturn dc_P_referenced_68 rfl ⟨by rw [show refd L f t = nmb L 10 (f + 1) t from by unfold refd; rw [if_pos ⟨by omega, hc10⟩, if_neg (by omega)]], rfl⟩
      · refine g_aload_n (pc := 20) dc_P_referenced_20 rfl ?_
        refine g_iload_n (pc := 21) dc_P_referenced_21 rfl ?_
        refine g_iconst (pc := 22) (v := 1) dc_P_referenced_22 rfl ?_
        refine g_iadd (pc := 23) (v := (nI (s + (f + 1)))) dc_P_referenced_23 (q_as s f 1) ?_
        refine q_tx (pc := 24) (f + 1) dc_P_referenced_24 ha hT hs (by omega) hc ?_
        refine g_s1 (pc := 25) (M' := mt_W_lower) dc_P_referenced_25 mo_W_lower st_W_lower ln_P_127 (Nat.le_of_ble_eq_true rfl) (Nat.le_of_ble_eq_true rfl) (am_G.mono (c_W_lower (v := (gx L (f + 1)))) ?_)
        intro r h1 hq
        rw [hq.1, hq.2]
        clear hq h1 r
        refine ⟨am_nti _, ?_⟩
        refine g_bipush (pc := 28) (v := 120) dc_P_referenced_28 rfl ?_
        refine g_icmp_ne (pc := 30) (tgt := 37) dc_P_referenced_30 rfl (fun hc30 => ?_) (fun hc30 => ?_)
        · refine g_iconst (pc := 37) (v := 0) dc_P_referenced_37 rfl ?_
          refine g_istore_n (pc := 38) dc_P_referenced_38 (by decide) ?_
          refine g_aload_n (pc := 39) dc_P_referenced_39 rfl ?_
          refine g_iload_n (pc := 40) dc_P_referenced_40 rfl ?_
          refine g_if_eq (pc := 41) (tgt := 50) dc_P_referenced_41 rfl (fun _ => ?_) (fun hc => absurd hc (by decide))
          refine g_iload_n (pc := 50) dc_P_referenced_50 rfl ?_
          refine g_iconst (pc := 51) (v := 1) dc_P_referenced_51 rfl ?_
          refine g_iadd (pc := 52) (v := (nI (s + (f + 1)))) dc_P_referenced_52 (q_as s f 1) ?_
          refine g_iload_n (pc := 53) dc_P_referenced_53 rfl ?_
          refine g_iload_n (pc := 54) dc_P_referenced_54 rfl ?_
          refine g_if_eq (pc := 55) (tgt := 63) dc_P_referenced_55 rfl (fun _ => ?_) (fun hc => absurd hc (by decide))
          refine g_bipush (pc := 63) (v := 10) dc_P_referenced_63 rfl ?_
          refine g_s4 (pc := 65) (M' := mt_P_numbered) dc_P_referenced_65 mo_P_numbered st_P_numbered ln_P_151 (Nat.le_of_ble_eq_true rfl) (Nat.le_of_ble_eq_true rfl) (am_G.mono (t_P_numbered (d := d + 3) (f := f + 1) (t := t) (r := 10) hx0 (by omega) (by omega) (by omega)) ?_)
          intro r h1 hq
          rw [hq.1, hq.2]
          clear hq h1 r
          refine ⟨am_nti _, ?_⟩
          exact g_ireturn dc_P_referenced_68 rfl ⟨by rw [show refd L f t = nmb L 10 (f + 1) t from by unfold refd; rw [if_pos ⟨by omega, hc10⟩, if_neg (fun h9 => hc30 h9.2)]], rfl⟩
        · refine g_iconst (pc := 33) (v := 1) dc_P_referenced_33 rfl ?_
          refine g_goto (pc := 34) (tgt := 38) dc_P_referenced_34 rfl ?_
          refine g_istore_n (pc := 38) dc_P_referenced_38 (by decide) ?_
          refine g_aload_n (pc := 39) dc_P_referenced_39 rfl ?_
          refine g_iload_n (pc := 40) dc_P_referenced_40 rfl ?_
          refine g_if_eq (pc := 41) (tgt := 50) dc_P_referenced_41 rfl (fun hc => absurd hc (by decide)) (fun _ => ?_)
          refine g_iload_n (pc := 44) dc_P_referenced_44 rfl ?_
          refine g_iconst (pc := 45) (v := 2) dc_P_referenced_45 rfl ?_
          refine g_iadd (pc := 46) (v := (nI (s + (f + 2)))) dc_P_referenced_46 (q_as s f 2) ?_
          refine g_goto (pc := 47) (tgt := 53) dc_P_referenced_47 rfl ?_
          refine g_iload_n (pc := 53) dc_P_referenced_53 rfl ?_
          refine g_iload_n (pc := 54) dc_P_referenced_54 rfl ?_
          refine g_if_eq (pc := 55) (tgt := 63) dc_P_referenced_55 rfl (fun hc => absurd hc (by decide)) (fun _ => ?_)
          refine g_bipush (pc := 58) (v := 16) dc_P_referenced_58 rfl ?_
          refine g_goto (pc := 60) (tgt := 65) dc_P_referenced_60 rfl ?_
          refine g_s4 (pc := 65) (M' := mt_P_numbered) dc_P_referenced_65 mo_P_numbered st_P_numbered ln_P_151 (Nat.le_of_ble_eq_true rfl) (Nat.le_of_ble_eq_true rfl) (am_G.mono (t_P_numbered (d := d + 3) (f := f + 2) (t := t) (r := 16) hx0 (by omega) (by omega) (by omega)) ?_)
          intro r h1 hq
          rw [hq.1, hq.2]
          clear hq h1 r
          refine ⟨am_nti _, ?_⟩
          exact g_ireturn dc_P_referenced_68 rfl ⟨by rw [show refd L f t = nmb L 16 (f + 2) t from by unfold refd; rw [if_pos ⟨by omega, hc10⟩, if_pos ⟨by omega, hc30⟩]], rfl⟩
end NUM
