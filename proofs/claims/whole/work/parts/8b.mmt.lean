/-! ===== the model matches patterns ===== -/
def rcS (g : Nat → Int32) (R : Nat → Bool) (n : Nat) : Prop := ∀ k, k ≤ n → g k = b1 (R k)
theorem upd_s {g : Nat → Int32} {i : Nat} {v : Int32} : upd g i v i = v := if_pos rfl
theorem upd_n {g : Nat → Int32} {i j : Nat} {v : Int32} (h : ¬ j = i) : upd g i v j = g j := if_neg h
theorem narZ0 : vp_nar .boolean 0 = 0 := by decide
theorem narZ1 : vp_nar .boolean 1 = 1 := by decide
section MMT
variable {X : am_X} {d ka n b s0 : Nat} {A B : List va_E} {S : MS} {D P : List Int32} {R : Nat → Bool} {v5 : Int32}
theorem v25_M_matches {Q : Option Value → List va_E → Prop} (hA : A.length = 84) (hn : n ≤ 200) (K : ∀ g, rcS g (fun k => decide (k = 0)) n → am_G X mt_M_matches (d + 2) 54 [some (.ref 84), some (.int (nI ka)), some (.int (nI b)), some (.int (nI n)), none, none, none] [] (mput A (S.s_reached g) B) Q) : ∀ (m k : Nat) (g : Nat → Int32), k + m = n + 1 → (∀ j, j < k → g j = b1 (decide (j = 0))) → am_G X mt_M_matches (d + 2) 25 [some (.ref 84), some (.int (nI ka)), some (.int (nI b)), some (.int (nI n)), some (.int (nI k)), none, none] [] (mput A (S.s_reached g) B) Q
  | 0, k, g, e, hg => by
    refine g_iload (pc := 25) dc_M_matches_25 rfl ?_
    refine g_iload_n (pc := 27) dc_M_matches_27 rfl ?_
    refine q_icmp_gt (pc := 28) (tgt := 54) k n dc_M_matches_28 (by omega) (by omega) rfl (fun hc28 => ?_) (fun hc => absurd hc (by omega))
    refine am_wk (am_le_s (am_le_s (am_le_s (am_le_s (am_le_n (am_le_n (am_le_n am_le_0))))))) ?_
    exact K g (fun j hj => hg j (by omega))
  | m + 1, k, g, e, hg => by
    refine g_iload (pc := 25) dc_M_matches_25 rfl ?_
    refine g_iload_n (pc := 27) dc_M_matches_27 rfl ?_
    refine q_icmp_gt (pc := 28) (tgt := 54) k n dc_M_matches_28 (by omega) (by omega) rfl (fun hc => absurd hc (by omega)) (fun hc28 => ?_)
    refine g_aload_n (pc := 31) dc_M_matches_31 rfl ?_
    refine g_getfield (pc := 32) dc_M_matches_32 fl_M_184 (mp_o hA) rfl ?_
    refine g_iload (pc := 35) dc_M_matches_35 rfl ?_
    refine g_iload (pc := 37) dc_M_matches_37 rfl ?_
    refine q_if_ne (pc := 39) (tgt := 46) k dc_M_matches_39 (by omega) rfl (fun hc39 => ?_) (fun hc39 => ?_)
    · refine g_iconst (pc := 46) (v := 0) dc_M_matches_46 rfl ?_
      refine asE_reached (pc := 47) k (g := upd g k 0) hA dc_M_matches_47 (by omega) (congrArg (upd g k) narZ0) ?_
      rw [MS.ss_reached]
      refine g_iinc (pc := 48) (v := (nI (k + 1))) dc_M_matches_48 rfl (nI_add k 1) (by decide) ?_
      show am_G X mt_M_matches _ 51 [some (.ref 84), some (.int (nI ka)), some (.int (nI b)), some (.int (nI n)), some (.int (nI (k + 1))), none, none] [] _ _
      refine g_goto (pc := 51) (tgt := 25) dc_M_matches_51 rfl ?_
      refine v25_M_matches hA hn K m (k + 1) (upd g k 0) (by omega) (fun j hj => ?_)
      by_cases e9 : j = k
      · rw [e9, upd_s, decide_eq_false (by omega : ¬ k = 0)]; rfl
      · rw [upd_n e9]; exact hg j (by omega)
    · refine g_iconst (pc := 42) (v := 1) dc_M_matches_42 rfl ?_
      refine g_goto (pc := 43) (tgt := 47) dc_M_matches_43 rfl ?_
      refine asE_reached (pc := 47) k (g := upd g k 1) hA dc_M_matches_47 (by omega) (congrArg (upd g k) narZ1) ?_
      rw [MS.ss_reached]
      refine g_iinc (pc := 48) (v := (nI (k + 1))) dc_M_matches_48 rfl (nI_add k 1) (by decide) ?_
      show am_G X mt_M_matches _ 51 [some (.ref 84), some (.int (nI ka)), some (.int (nI b)), some (.int (nI n)), some (.int (nI (k + 1))), none, none] [] _ _
      refine g_goto (pc := 51) (tgt := 25) dc_M_matches_51 rfl ?_
      refine v25_M_matches hA hn K m (k + 1) (upd g k 1) (by omega) (fun j hj => ?_)
      by_cases e9 : j = k
      · rw [e9, upd_s, decide_eq_true hc39]; rfl
      · rw [upd_n e9]; exact hg j (by omega)
theorem v85_M_matches {Q : Option Value → List va_E → Prop} {i : Nat} (hA : A.length = 84) (hn : n ≤ 200) (K : ∀ g, rcS g (anyU R) n → am_G X mt_M_matches (d + 2) 239 [some (.ref 84), some (.int (nI ka)), some (.int (nI b)), some (.int (nI n)), some (.int (nI i)), none, none] [] (mput A (S.s_reached g) B) Q) : ∀ (m k : Nat) (g : Nat → Int32), k + m = n + 1 → 1 ≤ k → (∀ j, j < k → j ≤ n → g j = b1 (anyU R j)) → (∀ j, k ≤ j → j ≤ n → g j = b1 (R j)) → am_G X mt_M_matches (d + 2) 85 [some (.ref 84), some (.int (nI ka)), some (.int (nI b)), some (.int (nI n)), some (.int (nI i)), none, some (.int (nI k))] [] (mput A (S.s_reached g) B) Q
  | 0, k, g, e, hk, h1, h2 => by
    refine g_iload (pc := 85) dc_M_matches_85 rfl ?_
    refine g_iload_n (pc := 87) dc_M_matches_87 rfl ?_
    refine q_icmp_gt (pc := 88) (tgt := 131) k n dc_M_matches_88 (by omega) (by omega) rfl (fun hc88 => ?_) (fun hc => absurd hc (by omega))
    refine g_goto (pc := 131) (tgt := 239) dc_M_matches_131 rfl ?_
    refine am_wk (am_le_s (am_le_s (am_le_s (am_le_s (am_le_s (am_le_n (am_le_n am_le_0))))))) ?_
    exact K g (fun j hj => h1 j (by omega) hj)
  | m + 1, k, g, e, hk, h1, h2 => by
    obtain ⟨z, rfl⟩ : ∃ z, k = z + 1 := ⟨k - 1, by omega⟩
    refine g_iload (pc := 85) dc_M_matches_85 rfl ?_
    refine g_iload_n (pc := 87) dc_M_matches_87 rfl ?_
    refine q_icmp_gt (pc := 88) (tgt := 131) (z + 1) n dc_M_matches_88 (by omega) (by omega) rfl (fun hc => absurd hc (by omega)) (fun hc88 => ?_)
    refine g_aload_n (pc := 91) dc_M_matches_91 rfl ?_
    refine g_getfield (pc := 92) dc_M_matches_92 fl_M_184 (mp_o hA) rfl ?_
    refine g_iload (pc := 95) dc_M_matches_95 rfl ?_
    refine g_aload_n (pc := 97) dc_M_matches_97 rfl ?_
    refine g_getfield (pc := 98) dc_M_matches_98 fl_M_184 (mp_o hA) rfl ?_
    refine g_iload (pc := 101) dc_M_matches_101 rfl ?_
    refine q_zaloadV (pc := 103) (z + 1) dc_M_matches_103 (mp_a hA 18 rfl) (by omega) (by omega) (v := (b1 (R (z + 1)))) (h2 (z + 1) (Nat.le_refl _) (by omega)) ?_
    refine q_ifb_ne (pc := 104) (tgt := 119) dc_M_matches_104 rfl (fun hc104 => ?_) (fun hc104 => ?_)
    · refine g_iconst (pc := 119) (v := 1) dc_M_matches_119 rfl ?_
      refine g_goto (pc := 120) (tgt := 124) dc_M_matches_120 rfl ?_
      refine asE_reached (pc := 124) (z + 1) (g := upd g (z + 1) 1) hA dc_M_matches_124 (by omega) (congrArg (upd g (z + 1)) narZ1) ?_
      rw [MS.ss_reached]
      refine g_iinc (pc := 125) (v := (nI (z + 1 + 1))) dc_M_matches_125 rfl (nI_add (z + 1) 1) (by decide) ?_
      show am_G X mt_M_matches _ 128 [some (.ref 84), some (.int (nI ka)), some (.int (nI b)), some (.int (nI n)), some (.int (nI i)), none, some (.int (nI (z + 1 + 1)))] [] _ _
      refine g_goto (pc := 128) (tgt := 85) dc_M_matches_128 rfl ?_
      refine v85_M_matches hA hn K m (z + 2) (upd g (z + 1) 1) (by omega) (by omega) (fun j hj hj2 => ?_) (fun j hj hj2 => ?_)
      · by_cases e9 : j = z + 1
        · rw [e9, upd_s, show anyU R (z + 1) = true from by show (R (z + 1) || anyU R z) = true; rw [hc104, Bool.true_or]]; rfl
        · rw [upd_n e9]; exact h1 j (by omega) hj2
      · rw [upd_n (by omega)]; exact h2 j (by omega) hj2
    · refine g_aload_n (pc := 107) dc_M_matches_107 rfl ?_
      refine g_getfield (pc := 108) dc_M_matches_108 fl_M_184 (mp_o hA) rfl ?_
      refine g_iload (pc := 111) dc_M_matches_111 rfl ?_
      refine g_iconst (pc := 113) (v := 1) dc_M_matches_113 rfl ?_
      refine g_isub (pc := 114) (v := (nI z)) dc_M_matches_114 (nI_pred z) ?_
      refine q_zaloadV (pc := 115) z dc_M_matches_115 (mp_a hA 18 rfl) (by omega) (by omega) (v := (b1 (anyU R z))) (h1 z (by omega) (by omega)) ?_
      refine q_ifb_eq (pc := 116) (tgt := 123) dc_M_matches_116 rfl (fun hc116 => ?_) (fun hc116 => ?_)
      · refine g_iconst (pc := 123) (v := 0) dc_M_matches_123 rfl ?_
        refine asE_reached (pc := 124) (z + 1) (g := upd g (z + 1) 0) hA dc_M_matches_124 (by omega) (congrArg (upd g (z + 1)) narZ0) ?_
        rw [MS.ss_reached]
        refine g_iinc (pc := 125) (v := (nI (z + 1 + 1))) dc_M_matches_125 rfl (nI_add (z + 1) 1) (by decide) ?_
        show am_G X mt_M_matches _ 128 [some (.ref 84), some (.int (nI ka)), some (.int (nI b)), some (.int (nI n)), some (.int (nI i)), none, some (.int (nI (z + 1 + 1)))] [] _ _
        refine g_goto (pc := 128) (tgt := 85) dc_M_matches_128 rfl ?_
        refine v85_M_matches hA hn K m (z + 2) (upd g (z + 1) 0) (by omega) (by omega) (fun j hj hj2 => ?_) (fun j hj hj2 => ?_)
        · by_cases e9 : j = z + 1
          · rw [e9, upd_s, show anyU R (z + 1) = false from by show (R (z + 1) || anyU R z) = false; rw [hc104, hc116]; rfl]; rfl
          · rw [upd_n e9]; exact h1 j (by omega) hj2
        · rw [upd_n (by omega)]; exact h2 j (by omega) hj2
      · refine g_iconst (pc := 119) (v := 1) dc_M_matches_119 rfl ?_
        refine g_goto (pc := 120) (tgt := 124) dc_M_matches_120 rfl ?_
        refine asE_reached (pc := 124) (z + 1) (g := upd g (z + 1) 1) hA dc_M_matches_124 (by omega) (congrArg (upd g (z + 1)) narZ1) ?_
        rw [MS.ss_reached]
        refine g_iinc (pc := 125) (v := (nI (z + 1 + 1))) dc_M_matches_125 rfl (nI_add (z + 1) 1) (by decide) ?_
        show am_G X mt_M_matches _ 128 [some (.ref 84), some (.int (nI ka)), some (.int (nI b)), some (.int (nI n)), some (.int (nI i)), none, some (.int (nI (z + 1 + 1)))] [] _ _
        refine g_goto (pc := 128) (tgt := 85) dc_M_matches_128 rfl ?_
        refine v85_M_matches hA hn K m (z + 2) (upd g (z + 1) 1) (by omega) (by omega) (fun j hj hj2 => ?_) (fun j hj hj2 => ?_)
        · by_cases e9 : j = z + 1
          · rw [e9, upd_s, show anyU R (z + 1) = true from by show (R (z + 1) || anyU R z) = true; rw [hc116, Bool.or_true]]; rfl
          · rw [upd_n e9]; exact h1 j (by omega) hj2
        · rw [upd_n (by omega)]; exact h2 j (by omega) hj2
theorem v155q_M_matches {Q : Option Value → List va_E → Prop} {i q : Nat} (hA : A.length = 84) (hn : n ≤ 200) (hD : q + n = D.length) (K : ∀ g, rcS g (fun k => R k && decide (q + k = D.length)) n → am_G X mt_M_matches (d + 2) 239 [some (.ref 84), some (.int (nI ka)), some (.int (nI b)), some (.int (nI n)), some (.int (nI i)), none, none] [] (mput A (S.s_reached g) B) Q) : ∀ (m k : Nat) (g : Nat → Int32), k + m = n → (∀ j, j < k → g j = 0) → (∀ j, k ≤ j → j ≤ n → g j = b1 (R j)) → am_G X mt_M_matches (d + 2) 155 [some (.ref 84), some (.int (nI ka)), some (.int (nI b)), some (.int (nI n)), some (.int (nI i)), none, some (.int (nI k))] [] (mput A (S.s_reached g) B) Q
  | 0, k, g, e, h1, h2 => by
    refine g_iload (pc := 155) dc_M_matches_155 rfl ?_
    refine g_iload_n (pc := 157) dc_M_matches_157 rfl ?_
    refine q_icmp_ge (pc := 158) (tgt := 175) k n dc_M_matches_158 (by omega) (by omega) rfl (fun hc158 => ?_) (fun hc => absurd hc (by omega))
    refine g_goto (pc := 175) (tgt := 239) dc_M_matches_175 rfl ?_
    refine am_wk (am_le_s (am_le_s (am_le_s (am_le_s (am_le_s (am_le_n (am_le_n am_le_0))))))) ?_
    refine K g (fun j hj => ?_)
    show _ = b1 (R j && decide (q + j = D.length))
    by_cases e9 : j = n
    · rw [h2 j (by omega) hj, e9, decide_eq_true hD, Bool.and_true]
    · rw [h1 j (by omega), decide_eq_false (by omega), Bool.and_false]; rfl
  | m + 1, k, g, e, h1, h2 => by
    refine g_iload (pc := 155) dc_M_matches_155 rfl ?_
    refine g_iload_n (pc := 157) dc_M_matches_157 rfl ?_
    refine q_icmp_ge (pc := 158) (tgt := 175) k n dc_M_matches_158 (by omega) (by omega) rfl (fun hc => absurd hc (by omega)) (fun hc158 => ?_)
    refine g_aload_n (pc := 161) dc_M_matches_161 rfl ?_
    refine g_getfield (pc := 162) dc_M_matches_162 fl_M_184 (mp_o hA) rfl ?_
    refine g_iload (pc := 165) dc_M_matches_165 rfl ?_
    refine g_iconst (pc := 167) (v := 0) dc_M_matches_167 rfl ?_
    refine asE_reached (pc := 168) k (g := upd g k 0) hA dc_M_matches_168 (by omega) (congrArg (upd g k) narZ0) ?_
    rw [MS.ss_reached]
    refine g_iinc (pc := 169) (v := (nI (k + 1))) dc_M_matches_169 rfl (nI_add k 1) (by decide) ?_
    show am_G X mt_M_matches _ 172 [some (.ref 84), some (.int (nI ka)), some (.int (nI b)), some (.int (nI n)), some (.int (nI i)), none, some (.int (nI (k + 1)))] [] _ _
    refine g_goto (pc := 172) (tgt := 155) dc_M_matches_172 rfl ?_
    refine v155q_M_matches hA hn hD K m (k + 1) (upd g k 0) (by omega) (fun j hj => ?_) (fun j hj hj2 => ?_)
    · by_cases e9 : j = k
      · rw [e9, upd_s]
      · rw [upd_n e9]; exact h1 j (by omega)
    · rw [upd_n (by omega)]; exact h2 j (by omega) hj2
theorem v181_M_matches {Q : Option Value → List va_E → Prop} {i q : Nat} (hA : A.length = 84) (hn : n ≤ 200) (hX : tx S.addresses s0 D) (hb : b = s0 + q) (hq : q + n ≤ D.length) (hD : D.length ≤ 200) (hs0 : s0 + D.length ≤ 700000) (K : ∀ g, rcS g (fun k => decide (1 ≤ k) && (R (k - 1) && decide (gx D (q + (k - 1)) = v5))) n → am_G X mt_M_matches (d + 2) 239 [some (.ref 84), some (.int (nI ka)), some (.int (nI b)), some (.int (nI n)), some (.int (nI i)), none, none] [] (mput A (S.s_reached g) B) Q) : ∀ (k : Nat) (g : Nat → Int32), k ≤ n → (∀ j, k < j → j ≤ n → g j = b1 ((fun k => decide (1 ≤ k) && (R (k - 1) && decide (gx D (q + (k - 1)) = v5))) j)) → (∀ j, j ≤ k → g j = b1 (R j)) → am_G X mt_M_matches (d + 2) 181 [some (.ref 84), some (.int (nI ka)), some (.int (nI b)), some (.int (nI n)), some (.int (nI i)), some (.int v5), some (.int (nI k))] [] (mput A (S.s_reached g) B) Q
  | 0, g, hk, h1, h2 => by
    refine g_iload (pc := 181) dc_M_matches_181 rfl ?_
    refine q_if_le (pc := 183) (tgt := 232) 0 dc_M_matches_183 (by omega) rfl (fun hc183 => ?_) (fun hc => absurd hc (by omega))
    refine g_aload_n (pc := 232) dc_M_matches_232 rfl ?_
    refine g_getfield (pc := 233) dc_M_matches_233 fl_M_184 (mp_o hA) rfl ?_
    refine g_iconst (pc := 236) (v := 0) dc_M_matches_236 rfl ?_
    refine g_iconst (pc := 237) (v := 0) dc_M_matches_237 rfl ?_
    refine asE_reached (pc := 238) 0 (g := upd g 0 0) hA dc_M_matches_238 (by omega) (congrArg (upd g 0) narZ0) ?_
    rw [MS.ss_reached]
    refine am_wk (am_le_s (am_le_s (am_le_s (am_le_s (am_le_s (am_le_n (am_le_n am_le_0))))))) ?_
    refine K (upd g 0 0) (fun j hj => ?_)
    by_cases e9 : j = 0
    · rw [e9, upd_s]; rfl
    · rw [upd_n e9]; exact h1 j (by omega) hj
  | z + 1, g, hk, h1, h2 => by
    refine g_iload (pc := 181) dc_M_matches_181 rfl ?_
    refine q_if_le (pc := 183) (tgt := 232) (z + 1) dc_M_matches_183 (by omega) rfl (fun hc => absurd hc (by omega)) (fun hc183 => ?_)
    refine g_aload_n (pc := 186) dc_M_matches_186 rfl ?_
    refine g_getfield (pc := 187) dc_M_matches_187 fl_M_184 (mp_o hA) rfl ?_
    refine g_iload (pc := 190) dc_M_matches_190 rfl ?_
    refine g_aload_n (pc := 192) dc_M_matches_192 rfl ?_
    refine g_getfield (pc := 193) dc_M_matches_193 fl_M_184 (mp_o hA) rfl ?_
    refine g_iload (pc := 196) dc_M_matches_196 rfl ?_
    refine g_iconst (pc := 198) (v := 1) dc_M_matches_198 rfl ?_
    refine g_isub (pc := 199) (v := (nI z)) dc_M_matches_199 (nI_pred z) ?_
    refine q_zaloadV (pc := 200) z dc_M_matches_200 (mp_a hA 18 rfl) (by omega) (by omega) (v := (b1 (R z))) (h2 z (by omega)) ?_
    refine q_ifb_eq (pc := 201) (tgt := 224) dc_M_matches_201 rfl (fun hc201 => ?_) (fun hc201 => ?_)
    · refine g_iconst (pc := 224) (v := 0) dc_M_matches_224 rfl ?_
      refine asE_reached (pc := 225) (z + 1) (g := upd g (z + 1) 0) hA dc_M_matches_225 (by omega) (congrArg (upd g (z + 1)) narZ0) ?_
      rw [MS.ss_reached]
      refine g_iinc (pc := 226) (v := (nI z)) dc_M_matches_226 rfl ((q_m1 (x := z + 1) (by omega)).trans (congrArg nI (by omega))) (by decide) ?_
      show am_G X mt_M_matches _ 229 [some (.ref 84), some (.int (nI ka)), some (.int (nI b)), some (.int (nI n)), some (.int (nI i)), some (.int v5), some (.int (nI z))] [] _ _
      refine g_goto (pc := 229) (tgt := 181) dc_M_matches_229 rfl ?_
      refine v181_M_matches hA hn hX hb hq hD hs0 K z (upd g (z + 1) 0) (by omega) (fun j hj hj2 => ?_) (fun j hj => ?_)
      · by_cases e9 : j = z + 1
        · rw [e9, upd_s]
          show _ = b1 (decide (1 ≤ z + 1) && (R z && decide (gx D (q + z) = v5)))
          rw [hc201, decide_eq_true (show 1 ≤ z + 1 by omega)]; rfl
        · rw [upd_n e9]; exact h1 j (by omega) hj2
      · rw [upd_n (by omega)]; exact h2 j (by omega)
    · refine g_aload_n (pc := 204) dc_M_matches_204 rfl ?_
      refine g_getfield (pc := 205) dc_M_matches_205 fl_M_41 (mp_o hA) rfl ?_
      refine g_iload_n (pc := 208) dc_M_matches_208 rfl ?_
      refine g_iload (pc := 209) dc_M_matches_209 rfl ?_
      refine g_iadd (pc := 211) (v := (nI (b + (z + 1)))) dc_M_matches_211 (nI_add b (z + 1)) ?_
      refine g_iconst (pc := 212) (v := 1) dc_M_matches_212 rfl ?_
      refine g_isub (pc := 213) (v := (nI (s0 + (q + z)))) dc_M_matches_213 ((q_sub (a := b + (z + 1)) (b := 1) (by omega)).trans (congrArg nI (by omega))) ?_
      refine q_baloadV (pc := 214) (s0 + (q + z)) dc_M_matches_214 (mp_a hA 3 rfl) (by omega) (by omega) (v := gx D (q + z)) (hX (q + z) (by omega)) ?_
      refine g_iload (pc := 215) dc_M_matches_215 rfl ?_
      refine g_icmp_ne (pc := 217) (tgt := 224) dc_M_matches_217 rfl (fun hc217 => ?_) (fun hc217 => ?_)
      · refine g_iconst (pc := 224) (v := 0) dc_M_matches_224 rfl ?_
        refine asE_reached (pc := 225) (z + 1) (g := upd g (z + 1) 0) hA dc_M_matches_225 (by omega) (congrArg (upd g (z + 1)) narZ0) ?_
        rw [MS.ss_reached]
        refine g_iinc (pc := 226) (v := (nI z)) dc_M_matches_226 rfl ((q_m1 (x := z + 1) (by omega)).trans (congrArg nI (by omega))) (by decide) ?_
        show am_G X mt_M_matches _ 229 [some (.ref 84), some (.int (nI ka)), some (.int (nI b)), some (.int (nI n)), some (.int (nI i)), some (.int v5), some (.int (nI z))] [] _ _
        refine g_goto (pc := 229) (tgt := 181) dc_M_matches_229 rfl ?_
        refine v181_M_matches hA hn hX hb hq hD hs0 K z (upd g (z + 1) 0) (by omega) (fun j hj hj2 => ?_) (fun j hj => ?_)
        · by_cases e9 : j = z + 1
          · rw [e9, upd_s]
            show _ = b1 (decide (1 ≤ z + 1) && (R z && decide (gx D (q + z) = v5)))
            rw [hc201, decide_eq_false hc217, decide_eq_true (show 1 ≤ z + 1 by omega)]; rfl
          · rw [upd_n e9]; exact h1 j (by omega) hj2
        · rw [upd_n (by omega)]; exact h2 j (by omega)
      · refine g_iconst (pc := 220) (v := 1) dc_M_matches_220 rfl ?_
        refine g_goto (pc := 221) (tgt := 225) dc_M_matches_221 rfl ?_
        refine asE_reached (pc := 225) (z + 1) (g := upd g (z + 1) 1) hA dc_M_matches_225 (by omega) (congrArg (upd g (z + 1)) narZ1) ?_
        rw [MS.ss_reached]
        refine g_iinc (pc := 226) (v := (nI z)) dc_M_matches_226 rfl ((q_m1 (x := z + 1) (by omega)).trans (congrArg nI (by omega))) (by decide) ?_
        show am_G X mt_M_matches _ 229 [some (.ref 84), some (.int (nI ka)), some (.int (nI b)), some (.int (nI n)), some (.int (nI i)), some (.int v5), some (.int (nI z))] [] _ _
        refine g_goto (pc := 229) (tgt := 181) dc_M_matches_229 rfl ?_
        refine v181_M_matches hA hn hX hb hq hD hs0 K z (upd g (z + 1) 1) (by omega) (fun j hj hj2 => ?_) (fun j hj => ?_)
        · by_cases e9 : j = z + 1
          · rw [e9, upd_s]
            show _ = b1 (decide (1 ≤ z + 1) && (R z && decide (gx D (q + z) = v5)))
            rw [hc201, decide_eq_true hc217, decide_eq_true (show 1 ≤ z + 1 by omega)]; rfl
          · rw [upd_n e9]; exact h1 j (by omega) hj2
        · rw [upd_n (by omega)]; exact h2 j (by omega)
theorem v57_M_matches {Q : Option Value → List va_E → Prop} {q : Nat} (hA : A.length = 84) (hn : n ≤ 200) (hX : tx S.addresses s0 D) (hb : b = s0 + q) (hq : q + n = D.length) (hD : D.length ≤ 200) (hs0 : s0 + D.length ≤ 700000) (hP : tx S.pattern 0 P) (hPl : S.patternLength = P.length) (hP8 : P.length ≤ 8000) (K : ∀ g, rcS g (mrc D P q P.length) n → am_G X mt_M_matches (d + 2) 245 [some (.ref 84), some (.int (nI ka)), some (.int (nI b)), some (.int (nI n)), none, none, none] [] (mput A (S.s_reached g) B) Q) : ∀ (m i : Nat) (g : Nat → Int32), i + m = P.length → rcS g (mrc D P q i) n → am_G X mt_M_matches (d + 2) 57 [some (.ref 84), some (.int (nI ka)), some (.int (nI b)), some (.int (nI n)), some (.int (nI i)), none, none] [] (mput A (S.s_reached g) B) Q
  | 0, i, g, e, hg => by
    obtain rfl : i = P.length := by omega
    refine g_iload (pc := 57) dc_M_matches_57 rfl ?_
    refine g_aload_n (pc := 59) dc_M_matches_59 rfl ?_
    refine g_getfield (pc := 60) (v := .int (nI P.length)) dc_M_matches_60 fl_M_188 (mp_o hA) (congrArg (fun z => some (Value.int (nI z))) hPl) ?_
    refine q_icmp_ge (pc := 63) (tgt := 245) P.length P.length dc_M_matches_63 (by omega) (by omega) rfl (fun hc63 => ?_) (fun hc => absurd hc (by omega))
    refine am_wk (am_le_s (am_le_s (am_le_s (am_le_s (am_le_n (am_le_n (am_le_n am_le_0))))))) ?_
    exact K g hg
  | m + 1, i, g, e, hg => by
    have hip : i < P.length := by omega
    have hse : gx P i = 36 → i + 1 = P.length → mrc D P q (i + 1) = fun k => mrc D P q i k && decide (q + k = D.length) := fun h1 h2 => mrc_end h1 h2
    refine g_iload (pc := 57) dc_M_matches_57 rfl ?_
    refine g_aload_n (pc := 59) dc_M_matches_59 rfl ?_
    refine g_getfield (pc := 60) (v := .int (nI P.length)) dc_M_matches_60 fl_M_188 (mp_o hA) (congrArg (fun z => some (Value.int (nI z))) hPl) ?_
    refine q_icmp_ge (pc := 63) (tgt := 245) i P.length dc_M_matches_63 (by omega) (by omega) rfl (fun hc => absurd hc (by omega)) (fun hc63 => ?_)
    refine g_aload_n (pc := 66) dc_M_matches_66 rfl ?_
    refine g_getfield (pc := 67) dc_M_matches_67 fl_M_191 (mp_o hA) rfl ?_
    refine g_iload (pc := 70) dc_M_matches_70 rfl ?_
    refine q_tx0 (pc := 72) i dc_M_matches_72 (mp_a hA 17 rfl) hP (by omega) (by omega) (by omega) ?_
    refine g_istore (pc := 73) dc_M_matches_73 (by decide) ?_
    show am_G X mt_M_matches _ 75 [some (.ref 84), some (.int (nI ka)), some (.int (nI b)), some (.int (nI n)), some (.int (nI i)), some (.int (gx P i)), none] [] _ _
    refine g_iload (pc := 75) dc_M_matches_75 rfl ?_
    refine g_bipush (pc := 77) (v := 42) dc_M_matches_77 rfl ?_
    refine g_icmp_ne (pc := 79) (tgt := 134) dc_M_matches_79 rfl (fun hc79 => ?_) (fun hc79 => ?_)
    · refine g_iload (pc := 134) dc_M_matches_134 rfl ?_
      refine g_bipush (pc := 136) (v := 36) dc_M_matches_136 rfl ?_
      refine g_icmp_ne (pc := 138) (tgt := 178) dc_M_matches_138 rfl (fun hc138 => ?_) (fun hc138 => ?_)
      · refine g_iload_n (pc := 178) dc_M_matches_178 rfl ?_
        refine g_istore (pc := 179) dc_M_matches_179 (by decide) ?_
        show am_G X mt_M_matches _ 181 [some (.ref 84), some (.int (nI ka)), some (.int (nI b)), some (.int (nI n)), some (.int (nI i)), some (.int (gx P i)), some (.int (nI n))] [] _ _
        refine v181_M_matches (R := mrc D P q i) (q := q) hA hn hX hb (by omega) hD hs0 ?_ n g (Nat.le_refl _) (fun j hj hj2 => absurd hj (by omega)) (fun j hj => hg j hj)
        intro g9 hg9
        rw [← mrc_lit (D := D) (b := q) hc79 (fun h9 => hc138 h9.1)] at hg9
        refine g_iinc (pc := 239) (v := (nI (i + 1))) dc_M_matches_239 rfl (nI_add i 1) (by decide) ?_
        show am_G X mt_M_matches _ 242 [some (.ref 84), some (.int (nI ka)), some (.int (nI b)), some (.int (nI n)), some (.int (nI (i + 1))), none, none] [] _ _
        refine g_goto (pc := 242) (tgt := 57) dc_M_matches_242 rfl ?_
        exact v57_M_matches hA hn hX hb hq hD hs0 hP hPl hP8 K m (i + 1) g9 (by omega) hg9
      · refine g_iload (pc := 141) dc_M_matches_141 rfl ?_
        refine g_aload_n (pc := 143) dc_M_matches_143 rfl ?_
        refine g_getfield (pc := 144) (v := .int (nI P.length)) dc_M_matches_144 fl_M_188 (mp_o hA) (congrArg (fun z => some (Value.int (nI z))) hPl) ?_
        refine g_iconst (pc := 147) (v := 1) dc_M_matches_147 rfl ?_
        refine g_isub (pc := 148) (v := (nI (P.length - 1))) dc_M_matches_148 (q_sub (a := P.length) (b := 1) (by omega)) ?_
        refine q_icmp_ne (pc := 149) (tgt := 178) i (P.length - 1) dc_M_matches_149 (by omega) (by omega) rfl (fun hc149 => ?_) (fun hc149 => ?_)
        · refine g_iload_n (pc := 178) dc_M_matches_178 rfl ?_
          refine g_istore (pc := 179) dc_M_matches_179 (by decide) ?_
          show am_G X mt_M_matches _ 181 [some (.ref 84), some (.int (nI ka)), some (.int (nI b)), some (.int (nI n)), some (.int (nI i)), some (.int (gx P i)), some (.int (nI n))] [] _ _
          refine v181_M_matches (R := mrc D P q i) (q := q) hA hn hX hb (by omega) hD hs0 ?_ n g (Nat.le_refl _) (fun j hj hj2 => absurd hj (by omega)) (fun j hj => hg j hj)
          intro g9 hg9
          rw [← mrc_lit (D := D) (b := q) hc79 (fun h9 => absurd h9.2 (by omega))] at hg9
          refine g_iinc (pc := 239) (v := (nI (i + 1))) dc_M_matches_239 rfl (nI_add i 1) (by decide) ?_
          show am_G X mt_M_matches _ 242 [some (.ref 84), some (.int (nI ka)), some (.int (nI b)), some (.int (nI n)), some (.int (nI (i + 1))), none, none] [] _ _
          refine g_goto (pc := 242) (tgt := 57) dc_M_matches_242 rfl ?_
          exact v57_M_matches hA hn hX hb hq hD hs0 hP hPl hP8 K m (i + 1) g9 (by omega) hg9
        · refine g_iconst (pc := 152) (v := 0) dc_M_matches_152 rfl ?_
          refine g_istore (pc := 153) dc_M_matches_153 (by decide) ?_
          show am_G X mt_M_matches _ 155 [some (.ref 84), some (.int (nI ka)), some (.int (nI b)), some (.int (nI n)), some (.int (nI i)), some (.int (gx P i)), some (.int 0)] [] _ _
          refine am_wk (am_le_s (am_le_s (am_le_s (am_le_s (am_le_s (am_le_n (am_le_s am_le_0))))))) ?_
          refine v155q_M_matches (R := mrc D P q i) (q := q) hA hn hq ?_ n 0 g (by omega) (fun j hj => absurd hj (Nat.not_lt_zero j)) (fun j hj hj2 => hg j hj2)
          intro g9 hg9
          rw [← mrc_end (D := D) (b := q) hc138 (by omega)] at hg9
          refine g_iinc (pc := 239) (v := (nI (i + 1))) dc_M_matches_239 rfl (nI_add i 1) (by decide) ?_
          show am_G X mt_M_matches _ 242 [some (.ref 84), some (.int (nI ka)), some (.int (nI b)), some (.int (nI n)), some (.int (nI (i + 1))), none, none] [] _ _
          refine g_goto (pc := 242) (tgt := 57) dc_M_matches_242 rfl ?_
          exact v57_M_matches hA hn hX hb hq hD hs0 hP hPl hP8 K m (i + 1) g9 (by omega) hg9
    · refine g_iconst (pc := 82) (v := 1) dc_M_matches_82 rfl ?_
      refine g_istore (pc := 83) dc_M_matches_83 (by decide) ?_
      show am_G X mt_M_matches _ 85 [some (.ref 84), some (.int (nI ka)), some (.int (nI b)), some (.int (nI n)), some (.int (nI i)), some (.int (gx P i)), some (.int 1)] [] _ _
      refine am_wk (am_le_s (am_le_s (am_le_s (am_le_s (am_le_s (am_le_n (am_le_s am_le_0))))))) ?_
      refine v85_M_matches (R := mrc D P q i) hA hn ?_ n 1 g (by omega) (Nat.le_refl _) ?_ ?_
      · intro g9 hg9
        rw [← mrc_star hc79] at hg9
        refine g_iinc (pc := 239) (v := (nI (i + 1))) dc_M_matches_239 rfl (nI_add i 1) (by decide) ?_
        show am_G X mt_M_matches _ 242 [some (.ref 84), some (.int (nI ka)), some (.int (nI b)), some (.int (nI n)), some (.int (nI (i + 1))), none, none] [] _ _
        refine g_goto (pc := 242) (tgt := 57) dc_M_matches_242 rfl ?_
        exact v57_M_matches hA hn hX hb hq hD hs0 hP hPl hP8 K m (i + 1) g9 (by omega) hg9
      · intro j hj hj2
        obtain rfl : j = 0 := by omega
        exact hg 0 hj2
      · intro j hj hj2
        exact hg j hj2
theorem v251_M_matches (hA : A.length = 84) (hn : n ≤ 200) : ∀ (m k : Nat) (bb : Bool), k + m = n + 1 → (bb = true ↔ ∃ j, j < k ∧ R j = true) → rcS S.reached R n → am_G X mt_M_matches (d + 2) 251 [some (.ref 84), none, none, some (.int (nI n)), some (.int (b1 bb)), some (.int (nI k)), none] [] (mput A S B) (fun r h1 => r = some (.int (b1 (anyU R n))) ∧ h1 = mput A S B)
  | 0, k, bb, e, hb, hg => by
    refine g_iload (pc := 251) dc_M_matches_251 rfl ?_
    refine g_iload_n (pc := 253) dc_M_matches_253 rfl ?_
    refine q_icmp_gt (pc := 254) (tgt := 285) k n dc_M_matches_254 (by omega) (by omega) rfl (fun hc254 => ?_) (fun hc => absurd hc (by omega))
    refine g_iload (pc := 285) dc_M_matches_285 rfl ?_
    exact g_zreturn dc_M_matches_287 rfl b1_z ⟨by rw [show anyU R n = bb from by rw [Bool.eq_iff_iff, anyU_iff, hb]; exact ⟨fun ⟨j, a, c⟩ => ⟨j, by omega, c⟩, fun ⟨j, a, c⟩ => ⟨j, by omega, c⟩⟩], rfl⟩
  | m + 1, k, bb, e, hb, hg => by
    refine g_iload (pc := 251) dc_M_matches_251 rfl ?_
    refine g_iload_n (pc := 253) dc_M_matches_253 rfl ?_
    refine q_icmp_gt (pc := 254) (tgt := 285) k n dc_M_matches_254 (by omega) (by omega) rfl (fun hc => absurd hc (by omega)) (fun hc254 => ?_)
    refine g_iload (pc := 257) dc_M_matches_257 rfl ?_
    refine q_ifb_ne (pc := 259) (tgt := 272) dc_M_matches_259 rfl (fun hc259 => ?_) (fun hc259 => ?_)
    · refine g_iconst (pc := 272) (v := 1) dc_M_matches_272 rfl ?_
      refine g_goto (pc := 273) (tgt := 277) dc_M_matches_273 rfl ?_
      refine g_istore (pc := 277) dc_M_matches_277 (by decide) ?_
      show am_G X mt_M_matches _ 279 [some (.ref 84), none, none, some (.int (nI n)), some (.int 1), some (.int (nI k)), none] [] _ _
      refine g_iinc (pc := 279) (v := (nI (k + 1))) dc_M_matches_279 rfl (nI_add k 1) (by decide) ?_
      show am_G X mt_M_matches _ 282 [some (.ref 84), none, none, some (.int (nI n)), some (.int 1), some (.int (nI (k + 1))), none] [] _ _
      refine g_goto (pc := 282) (tgt := 251) dc_M_matches_282 rfl ?_
      exact v251_M_matches hA hn m (k + 1) true (by omega) ⟨fun _ => (hb.mp hc259).elim (fun j hj => ⟨j, by omega, hj.2⟩), fun _ => rfl⟩ hg
    · refine g_aload_n (pc := 262) dc_M_matches_262 rfl ?_
      refine g_getfield (pc := 263) dc_M_matches_263 fl_M_184 (mp_o hA) rfl ?_
      refine g_iload (pc := 266) dc_M_matches_266 rfl ?_
      refine q_zaloadV (pc := 268) k dc_M_matches_268 (mp_a hA 18 rfl) (by omega) (by omega) (v := (b1 (R k))) (hg k (by omega)) ?_
      refine q_ifb_eq (pc := 269) (tgt := 276) dc_M_matches_269 rfl (fun hc269 => ?_) (fun hc269 => ?_)
      · refine g_iconst (pc := 276) (v := 0) dc_M_matches_276 rfl ?_
        refine g_istore (pc := 277) dc_M_matches_277 (by decide) ?_
        show am_G X mt_M_matches _ 279 [some (.ref 84), none, none, some (.int (nI n)), some (.int 0), some (.int (nI k)), none] [] _ _
        refine g_iinc (pc := 279) (v := (nI (k + 1))) dc_M_matches_279 rfl (nI_add k 1) (by decide) ?_
        show am_G X mt_M_matches _ 282 [some (.ref 84), none, none, some (.int (nI n)), some (.int 0), some (.int (nI (k + 1))), none] [] _ _
        refine g_goto (pc := 282) (tgt := 251) dc_M_matches_282 rfl ?_
        exact v251_M_matches hA hn m (k + 1) false (by omega) ⟨fun h9 => (by cases h9), fun ⟨j, a, c⟩ => (by omega : j < k ∨ j = k).elim (fun q => absurd (hb.mpr ⟨j, q, c⟩) (by rw [hc259]; decide)) (fun q => by rw [q, hc269] at c; cases c)⟩ hg
      · refine g_iconst (pc := 272) (v := 1) dc_M_matches_272 rfl ?_
        refine g_goto (pc := 273) (tgt := 277) dc_M_matches_273 rfl ?_
        refine g_istore (pc := 277) dc_M_matches_277 (by decide) ?_
        show am_G X mt_M_matches _ 279 [some (.ref 84), none, none, some (.int (nI n)), some (.int 1), some (.int (nI k)), none] [] _ _
        refine g_iinc (pc := 279) (v := (nI (k + 1))) dc_M_matches_279 rfl (nI_add k 1) (by decide) ?_
        show am_G X mt_M_matches _ 282 [some (.ref 84), none, none, some (.int (nI n)), some (.int 1), some (.int (nI (k + 1))), none] [] _ _
        refine g_goto (pc := 282) (tgt := 251) dc_M_matches_282 rfl ?_
        exact v251_M_matches hA hn m (k + 1) true (by omega) ⟨fun _ => ⟨k, by omega, hc269⟩, fun _ => rfl⟩ hg
theorem c_M_matches {T : List (List Int32)} (hA : A.length = 84) (hT : adT S T) (hka : ka < T.length) (ho : okD (gT T ka)) (hP : tx S.pattern 0 P) (hPl : S.patternLength = P.length) (hP8 : P.length ≤ 8000) : am_C X mt_M_matches (d + 2) [.ref 84, .int (nI ka)] (mput A S B) (fun r h1 => r = some (.int (b1 (mch (gT T ka) P))) ∧ ∃ S1, h1 = mput A S1 B ∧ jkA S S1 ∧ S1.key = S.key ∧ S1.patternLength = S.patternLength ∧ S1.holding = S.holding) := by
  show am_G X mt_M_matches (d + 2) 0 [some (.ref 84), some (.int (nI ka)), none, none, none, none, none] [] (mput A S B) _
  have ho2 := ho.2.2.1
  have ho3 := ho.2.2.2.2.1
  have hT2 := hT.2.1
  have hT3 := hT.2.2.1
  have hof := adT.of hT (ka + 1) (by omega)
  have hos := ofs_s (T := T) hka
  have h5 := (hT2 ka hka).2.2
  refine g_aload_n (pc := 0) dc_M_matches_0 rfl ?_
  refine g_iload_n (pc := 1) dc_M_matches_1 rfl ?_
  refine g_v1 (pc := 2) (M' := mt_M_hostEnd) dc_M_matches_2 mo_M_hostEnd im_M_hostEnd se_M_hostEnd ln_M_52 (mp_o hA) rfl rfl (Nat.le_of_ble_eq_true rfl) (Nat.le_of_ble_eq_true rfl) (am_G.mono (c_M_hostEnd (d := d) hA hT hka) ?_)
  intro r h1 hq
  rw [hq.1, hq.2]
  clear hq h1 r
  refine ⟨am_nti _, ?_⟩
  refine g_istore_n (pc := 5) dc_M_matches_5 (by decide) ?_
  show am_G X mt_M_matches _ 6 [some (.ref 84), some (.int (nI ka)), some (.int (nI (ofs T ka + hen (gT T ka)))), none, none, none, none] [] _ _
  refine g_aload_n (pc := 6) dc_M_matches_6 rfl ?_
  refine g_getfield (pc := 7) dc_M_matches_7 fl_M_31 (mp_o hA) rfl ?_
  refine g_iload_n (pc := 10) dc_M_matches_10 rfl ?_
  refine q_ialoadV (pc := 11) ka dc_M_matches_11 (mp_a hA 4 rfl) (by omega) (by omega) (v := (nI (ofs T ka))) (hT2 ka hka).1 ?_
  refine g_aload_n (pc := 12) dc_M_matches_12 rfl ?_
  refine g_getfield (pc := 13) dc_M_matches_13 fl_M_35 (mp_o hA) rfl ?_
  refine g_iload_n (pc := 16) dc_M_matches_16 rfl ?_
  refine q_ialoadV (pc := 17) ka dc_M_matches_17 (mp_a hA 5 rfl) (by omega) (by omega) (v := (nI ((gT T ka).length))) (hT2 ka hka).2.1 ?_
  refine g_iadd (pc := 18) (v := (nI (ofs T ka + ((gT T ka).length)))) dc_M_matches_18 (nI_add (ofs T ka) ((gT T ka).length)) ?_
  refine g_iload_n (pc := 19) dc_M_matches_19 rfl ?_
  refine g_isub (pc := 20) (v := (nI ((gT T ka).length - hen (gT T ka)))) dc_M_matches_20 ((q_sub (a := ofs T ka + (gT T ka).length) (b := ofs T ka + hen (gT T ka)) (by omega)).trans (congrArg nI (by omega))) ?_
  refine g_istore_n (pc := 21) dc_M_matches_21 (by decide) ?_
  show am_G X mt_M_matches _ 22 [some (.ref 84), some (.int (nI ka)), some (.int (nI (ofs T ka + hen (gT T ka)))), some (.int (nI ((gT T ka).length - hen (gT T ka)))), none, none, none] [] _ _
  refine g_iconst (pc := 22) (v := 0) dc_M_matches_22 rfl ?_
  refine g_istore (pc := 23) dc_M_matches_23 (by decide) ?_
  show am_G X mt_M_matches _ 25 [some (.ref 84), some (.int (nI ka)), some (.int (nI (ofs T ka + hen (gT T ka)))), some (.int (nI ((gT T ka).length - hen (gT T ka)))), some (.int 0), none, none] [] _ _
  refine v25_M_matches (n := ((gT T ka).length - hen (gT T ka))) (S := S) hA (by omega) ?_ (((gT T ka).length - hen (gT T ka)) + 1) 0 S.reached (by omega) (fun j hj => absurd hj (Nat.not_lt_zero j))
  intro g1 hg1
  refine g_iconst (pc := 54) (v := 0) dc_M_matches_54 rfl ?_
  refine g_istore (pc := 55) dc_M_matches_55 (by decide) ?_
  show am_G X mt_M_matches _ 57 [some (.ref 84), some (.int (nI ka)), some (.int (nI (ofs T ka + hen (gT T ka)))), some (.int (nI ((gT T ka).length - hen (gT T ka)))), some (.int 0), none, none] [] _ _
  refine v57_M_matches (q := hen (gT T ka)) (D := gT T ka) (s0 := ofs T ka) hA (by omega) h5 rfl (by omega) ho3 (by omega) hP hPl hP8 ?_ P.length 0 g1 (by omega) hg1
  intro g2 hg2
  refine g_iconst (pc := 245) (v := 0) dc_M_matches_245 rfl ?_
  refine g_istore (pc := 246) dc_M_matches_246 (by decide) ?_
  show am_G X mt_M_matches _ 248 [some (.ref 84), some (.int (nI ka)), some (.int (nI (ofs T ka + hen (gT T ka)))), some (.int (nI ((gT T ka).length - hen (gT T ka)))), some (.int 0), none, none] [] _ _
  refine g_iconst (pc := 248) (v := 0) dc_M_matches_248 rfl ?_
  refine g_istore (pc := 249) dc_M_matches_249 (by decide) ?_
  show am_G X mt_M_matches _ 251 [some (.ref 84), some (.int (nI ka)), some (.int (nI (ofs T ka + hen (gT T ka)))), some (.int (nI ((gT T ka).length - hen (gT T ka)))), some (.int 0), some (.int 0), none] [] _ _
  refine am_wk (am_le_s (am_le_n (am_le_n (am_le_s (am_le_s (am_le_s (am_le_n am_le_0))))))) ?_
  refine am_G.mono (v251_M_matches (S := S.s_reached g2) (R := mrc (gT T ka) P (hen (gT T ka)) P.length) hA (by omega) (((gT T ka).length - hen (gT T ka)) + 1) 0 false (by omega) ⟨fun h9 => (by cases h9), fun ⟨j, a, c⟩ => absurd a (Nat.not_lt_zero j)⟩ hg2) (fun r h1 hz => ?_)
  exact ⟨hz.1, S.s_reached g2, hz.2, jkA.s_reached _ _, rfl, rfl, rfl⟩
end MMT
