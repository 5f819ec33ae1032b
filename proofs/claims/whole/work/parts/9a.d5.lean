/-! ===== the class keeps a page, or is led on ===== -/
/-- depths and chains within the limits -/
def wl (lim : Nat → Nat) (K : Kn) : Prop := ∀ i, i < K.ad.length → K.dp i ≤ lim 0 ∧ K.ch i ≤ lim 1
/-- pages got, now and when it was saved -/
def pgK (w : Gw) (h : List va_E) (K V : Kn) : Prop := ∃ gp, pA w h 44 250 gp ∧ (∀ i, i < K.ad.length → K.st i = 2 → ∃ pg, gp i = some pg ∧ gG w h pg (gT K.ad i, 200, K.tx i)) ∧ ∀ i, i < V.ad.length → V.st i = 2 → ∃ pg, gp i = some pg ∧ gG w h pg (gT V.ad i, 200, V.tx i)
section D5A
variable {lim : Nat → Nat} {K V : Kn} {D E : List Int32} {dp ch k i : Nat} {w w1 : Gw} {h h1 : List va_E} {I : List Nat}
theorem pgK.fr (z : pgK w h K V) (f : fr w w1 h h1 I) (i1 : ¬ 44 ∈ I) (i2 : ¬ 99 ∈ I) : pgK w1 h1 K V := by
  obtain ⟨gp, a1, a2, a3⟩ := z
  refine ⟨gp, cO.fr a1 f i1, fun i hi hs => ?_, fun i hi hs => ?_⟩
  · obtain ⟨pg, b1, b2⟩ := a2 i hi hs; exact ⟨pg, b1, b2.fr f i2⟩
  · obtain ⟨pg, b1, b2⟩ := a3 i hi hs; exact ⟨pg, b1, b2.fr f i2⟩
theorem wl.met (h : wl lim K) (hc : ch ≤ lim 1) : wl lim (mee lim D dp ch K) := by
  unfold mee
  cases e : nbr K.ad D with
  | none =>
    dsimp only
    split
    · rename_i h9
      intro i hi
      have hi2 : i < (K.ad ++ [D]).length := hi
      rw [List.length_append] at hi2
      have hi3 : i < K.ad.length + 1 := hi2
      show upf K.dp K.ad.length dp i ≤ lim 0 ∧ upf K.ch K.ad.length ch i ≤ lim 1
      by_cases q : i = K.ad.length
      · rw [q, upf_s, upf_s]; exact ⟨h9.1, hc⟩
      · rw [upf_n q, upf_n q]; exact h i (by omega)
    · exact h
  | some k =>
    dsimp only
    split
    · rename_i h9
      intro i hi
      have hi2 : i < K.ad.length := hi
      have h3 := h k (nbr_s e).1
      show upf K.dp k dp i ≤ lim 0 ∧ upf K.ch k ch i ≤ lim 1
      by_cases q : i = k
      · rw [q, upf_s, upf_s]; exact ⟨by omega, hc⟩
      · rw [upf_n q, upf_n q]; exact h i hi2
    · exact h
/-- K with another lead at i -/
def sld (K : Kn) (i : Nat) (E : List Int32) : Kn := (K.ad, K.st, K.dp, K.ch, upf K.ld i (some E), K.tx, K.at)
theorem upf_cm {α : Type} {f : Nat → α} {i j : Nat} {v u : α} (h : ¬ i = j) : upf (upf f i v) j u = upf (upf f j u) i v := by
  funext k
  by_cases e : k = j
  · rw [e, upf_s, upf_n (fun q => h q.symm), upf_s]
  · rw [upf_n e]
    by_cases q : k = i
    · rw [q, upf_s, upf_s]
    · rw [upf_n q, upf_n q, upf_n e]
theorem mee_ld (hi : i < K.ad.length) : mee lim E dp ch (ldK K i E) = sld (mee lim E dp ch (stK K i 3)) i E := by
  have e1 : ∀ o : Option Nat, nbr K.ad E = o → mee lim E dp ch (ldK K i E) = sld (mee lim E dp ch (stK K i 3)) i E := fun o ho => by
    unfold mee
    rw [show nbr (ldK K i E).ad E = o from ho, show nbr (stK K i 3).ad E = o from ho]
    cases o with
    | none =>
      dsimp only
      by_cases h : dp ≤ lim 0 ∧ ch ≤ lim 1 ∧ K.ad.length < 250
      · rw [if_pos (show dp ≤ lim 0 ∧ ch ≤ lim 1 ∧ (ldK K i E).ad.length < 250 from h), if_pos (show dp ≤ lim 0 ∧ ch ≤ lim 1 ∧ (stK K i 3).ad.length < 250 from h)]
        show (K.ad ++ [E], upf (upf K.st i 3) K.ad.length 1, upf K.dp K.ad.length dp, upf K.ch K.ad.length ch, upf (upf K.ld i (some E)) K.ad.length none, K.tx, upf K.at K.ad.length none) = (K.ad ++ [E], upf (upf K.st i 3) K.ad.length 1, upf K.dp K.ad.length dp, upf K.ch K.ad.length ch, upf (upf K.ld K.ad.length none) i (some E), K.tx, upf K.at K.ad.length none)
        rw [upf_cm (f := K.ld) (by omega)]
      · rw [if_neg (show ¬ (dp ≤ lim 0 ∧ ch ≤ lim 1 ∧ (ldK K i E).ad.length < 250) from h), if_neg (show ¬ (dp ≤ lim 0 ∧ ch ≤ lim 1 ∧ (stK K i 3).ad.length < 250) from h)]
        rfl
    | some k =>
      dsimp only
      by_cases h : upf K.st i 3 k = 1 ∧ (dp < K.dp k ∨ dp = K.dp k ∧ ch < K.ch k)
      · rw [if_pos (show (ldK K i E).st k = 1 ∧ (dp < (ldK K i E).dp k ∨ dp = (ldK K i E).dp k ∧ ch < (ldK K i E).ch k) from h), if_pos (show (stK K i 3).st k = 1 ∧ (dp < (stK K i 3).dp k ∨ dp = (stK K i 3).dp k ∧ ch < (stK K i 3).ch k) from h)]
        rfl
      · rw [if_neg (show ¬ ((ldK K i E).st k = 1 ∧ (dp < (ldK K i E).dp k ∨ dp = (ldK K i E).dp k ∧ ch < (ldK K i E).ch k)) from h), if_neg (show ¬ ((stK K i 3).st k = 1 ∧ (dp < (stK K i 3).dp k ∨ dp = (stK K i 3).dp k ∧ ch < (stK K i 3).ch k)) from h)]
        rfl
  exact e1 _ rfl
/-- who is met within the limits is known then, or there is no room -/
theorem mee_in (h1 : dp ≤ lim 0) (h2 : ch ≤ lim 1) (h3 : K.ad.length ≤ 250) : D ∈ (mee lim D dp ch K).ad ∨ (mee lim D dp ch K).ad.length = 250 := by
  unfold mee
  cases e : nbr K.ad D with
  | none =>
    dsimp only
    split
    · exact Or.inl (List.mem_append_right _ (List.mem_singleton_self _))
    · exact Or.inr (by omega)
  | some k =>
    dsimp only
    have hk := nbr_s e
    have hm : D ∈ K.ad := by rw [← hk.2]; exact gT_mem hk.1
    split
    · exact Or.inl hm
    · exact Or.inl hm
theorem stK_mkP {g0 g1 g2 g3 : Nat → Int32} {v : Nat} (h : mkP g0 g1 g2 g3 K) : mkP (upd g0 i (nI v)) g1 g2 g3 (stK K i v) := fun j hj => by
  have h9 := h j hj
  show upd g0 i (nI v) j = nI (upf K.st i v j) ∧ g1 j = nI (K.dp j) ∧ g2 j = nI (K.ch j) ∧ g3 j = er (ldx K j)
  by_cases e : j = i
  · rw [e, upd_s, upf_s]
    rw [e] at h9
    exact ⟨rfl, h9.2⟩
  · rw [upd_n e, upf_n e]; exact h9
theorem sld_mkP {g0 g1 g2 g3 : Nat → Int32} (h : mkP g0 g1 g2 g3 K) : mkP g0 g1 g2 (upd g3 i (er (nbr K.ad E))) (sld K i E) := fun j hj => by
  have h9 := h j hj
  show g0 j = nI (K.st j) ∧ g1 j = nI (K.dp j) ∧ g2 j = nI (K.ch j) ∧ upd g3 i (er (nbr K.ad E)) j = er (match upf K.ld i (some E) j with | none => none | some E => nbr K.ad E)
  refine ⟨h9.1, h9.2.1, h9.2.2.1, ?_⟩
  by_cases e : j = i
  · rw [e, upd_s, upf_s]
  · rw [upd_n e, upf_n e]; exact h9.2.2.2
theorem rR.tO {a ab b e j : Nat} {T : List (List Int32)} (x : rR w h i j a ab b e T []) (hk : k < T.length) : tO w h j b (ofs T k) (gT T k) := by
  obtain ⟨x1, x2, x3, x4, x9⟩ := x
  obtain ⟨cap, g, a1, a2, a3, a4, a5⟩ := x1.2.1.ttb
  have hx := x1.2.1.ttb
  have hl := congrArg List.length (List.append_nil T.flatten)
  have ho : ofs T k + (gT T k).length ≤ T.flatten.length := by
    rw [← ofs_s hk, flat_len]
    exact ofs_mono (by omega) (Nat.le_refl _)
  exact ⟨⟨cap, g, a1, flat_tx a2 hk, by omega, a4, a5⟩, x2.2.2.2⟩
end D5A
theorem mee_got {lim : Nat → Nat} {K : Kn} {D : List Int32} {dp ch j : Nat} (hj : j < (mee lim D dp ch K).ad.length) (hs : (mee lim D dp ch K).st j = 2) : j < K.ad.length ∧ gT (mee lim D dp ch K).ad j = gT K.ad j ∧ K.st j = 2 ∧ (mee lim D dp ch K).tx j = K.tx j := by
  unfold mee at hj hs ⊢
  cases e : nbr K.ad D with
  | none =>
    rw [e] at hj hs
    dsimp only at hj hs ⊢
    by_cases h : dp ≤ lim 0 ∧ ch ≤ lim 1 ∧ K.ad.length < 250
    · rw [if_pos h] at hj hs ⊢
      have hj2 : j < (K.ad ++ [D]).length := hj
      rw [List.length_append] at hj2
      have hj3 : j < K.ad.length + 1 := hj2
      have hs2 : upf K.st K.ad.length 1 j = 2 := hs
      by_cases q : j = K.ad.length
      · rw [q, upf_s] at hs2; cases hs2
      · rw [upf_n q] at hs2
        exact ⟨by omega, gT_app (by omega), hs2, rfl⟩
    · rw [if_neg h] at hj hs ⊢
      exact ⟨hj, rfl, hs, rfl⟩
  | some k =>
    rw [e] at hj hs
    dsimp only at hj hs ⊢
    by_cases h : K.st k = 1 ∧ (dp < K.dp k ∨ dp = K.dp k ∧ ch < K.ch k)
    · rw [if_pos h] at hj hs ⊢
      exact ⟨hj, rfl, hs, rfl⟩
    · rw [if_neg h] at hj hs ⊢
      exact ⟨hj, rfl, hs, rfl⟩
theorem lkf_got {lim : Nat → Nat} {dp : Nat} : ∀ (Ls : List (List Int32)) (K : Kn) (j : Nat), j < (lkf lim dp Ls K).ad.length → (lkf lim dp Ls K).st j = 2 → j < K.ad.length ∧ gT (lkf lim dp Ls K).ad j = gT K.ad j ∧ K.st j = 2 ∧ (lkf lim dp Ls K).tx j = K.tx j
  | [], K, j, h1, h2 => ⟨h1, rfl, h2, rfl⟩
  | E :: Ls, K, j, h1, h2 => by
    obtain ⟨a, b, c, d⟩ := lkf_got Ls (mee lim E dp 0 K) j h1 h2
    obtain ⟨a2, b2, c2, d2⟩ := mee_got a c
    exact ⟨a2, b.trans b2, c2, d.trans d2⟩
section D5S
variable {X : am_X} {d i k n : Nat} {D L E : List Int32} {K V : Kn} {lim : Nat → Nat} {st9 : Bool} {ck an sv sn dp0 pg : Nat} {cr : Option Nat} {Ls : List (List Int32)}
theorem l_C_keepPage (hok : ∀ x, x ∈ Ls → okD x) (hL60 : Ls.length ≤ 60) (hl0 : lim 0 ≤ 20) (hl1 : lim 1 ≤ 8) : ∀ (n j : Nat) (w : Gw) (h : List va_E) (K : Kn), j + n = Ls.length → cO w h 34 34 (cr7 st9 ck an sv sn cr) → gr4 w h 39 → rE w h 35 36 35 36 K.ad [] → mk4 w h 39 K → aTC w h K → lmC w h lim → rE w h 13 14 13 14 Ls [] → wfK K → ldI K → wl lim K → i < K.ad.length → ¬ K.st i = 1 → K.dp i = dp0 → am_G X mt_C_keepPage (d + 5) 27 [some (.ref 34), some (.int (nI i)), none, some (.ref 13), some (.int (nI j))] [] h (fun r h1 => r = none ∧ ∃ w1, fr w w1 h h1 [35, 36, 40, 41, 42, 43, 53] ∧ rE w1 h1 35 36 35 36 (lkf lim (dp0 + 1) (Ls.drop j) K).ad [] ∧ mk4 w1 h1 39 (lkf lim (dp0 + 1) (Ls.drop j) K) ∧ aTC w1 h1 (lkf lim (dp0 + 1) (Ls.drop j) K) ∧ wfK (lkf lim (dp0 + 1) (Ls.drop j) K) ∧ ldI (lkf lim (dp0 + 1) (Ls.drop j) K) ∧ wl lim (lkf lim (dp0 + 1) (Ls.drop j) K))
  | 0, j, w, h, K, e, hO, hG, hR, hK, hA, hl, hL, hw, hli, hwl, hi, hs, hd => by
    have hL0 := hL
    obtain ⟨b9, e9, hLr⟩ := hL
    have hLo := hLr.1.1
    have hLb := hLr.1.2.1.ha
    have h250 := hw.1
    rw [List.drop_eq_nil_of_le (by omega)]
    refine g_iload (pc := 27) dc_C_keepPage_27 rfl ?_
    refine g_aload_n (pc := 29) dc_C_keepPage_29 rfl ?_
    refine g_getfield (pc := 30) dc_C_keepPage_30 fl_C_91 hLo rfl ?_
    refine q_icmp_ge (pc := 33) (tgt := 77) j Ls.length dc_C_keepPage_33 (by omega) (by omega) rfl (fun hc33 => ?_) (fun hc => absurd hc (by omega))
    exact g_return dc_C_keepPage_77 rfl ⟨rfl, w, fr.rf, hR, hK, hA, hw, hli, hwl⟩
  | n + 1, j, w, h, K, e, hO, hG, hR, hK, hA, hl, hL, hw, hli, hwl, hi, hs, hd => by
    have hL0 := hL
    obtain ⟨b9, e9, hLr⟩ := hL
    have hLo := hLr.1.1
    have hLb := hLr.1.2.1.ha
    have h250 := hw.1
    rw [drop_s (show j < Ls.length by omega)]
    have hj : j < Ls.length := by omega
    have hK0 := hK
    obtain ⟨z0, z1, z2, z3, m0, m1, m2, m3, hmP⟩ := hK
    have hos := ofs_s (T := Ls) hj
    have hoj := hok _ (gT_mem hj)
    have hsa : sub (gT Ls j) 0 (gT Ls j).length = gT Ls j := sub_all rfl
    have hof := hLr.1.of (k := j + 1) (by omega)
    have hdp := hw.2.2.2 i hi
    refine g_iload (pc := 27) dc_C_keepPage_27 rfl ?_
    refine g_aload_n (pc := 29) dc_C_keepPage_29 rfl ?_
    refine g_getfield (pc := 30) dc_C_keepPage_30 fl_C_91 hLo rfl ?_
    refine q_icmp_ge (pc := 33) (tgt := 77) j Ls.length dc_C_keepPage_33 (by omega) (by omega) rfl (fun hc => absurd hc (by omega)) (fun hc33 => ?_)
    refine g_aload_n (pc := 36) dc_C_keepPage_36 rfl ?_
    refine g_aload_n (pc := 37) dc_C_keepPage_37 rfl ?_
    refine g_getfield (pc := 38) dc_C_keepPage_38 fl_C_94 hLo rfl ?_
    refine g_getfield (pc := 41) dc_C_keepPage_41 fl_C_97 hLb rfl ?_
    refine g_aload_n (pc := 44) dc_C_keepPage_44 rfl ?_
    refine g_iload (pc := 45) dc_C_keepPage_45 rfl ?_
    refine g_v1 (pc := 47) (M' := mt_R_from) dc_C_keepPage_47 mo_R_from im_R_from se_R_from ln_C_101 hLo rfl rfl (Nat.le_of_ble_eq_true rfl) (Nat.le_of_ble_eq_true rfl) (am_G.mono (c_R_from (d := d + 4) (i := j) hLr.1 (by omega)) ?_)
    intro r h1 hq
    rw [hq.1, hq.2]
    clear hq h1 r
    refine ⟨am_nti _, ?_⟩
    refine g_aload_n (pc := 50) dc_C_keepPage_50 rfl ?_
    refine g_iload (pc := 51) dc_C_keepPage_51 rfl ?_
    refine g_v1 (pc := 53) (M' := mt_R_to) dc_C_keepPage_53 mo_R_to im_R_to se_R_to ln_C_105 hLo rfl rfl (Nat.le_of_ble_eq_true rfl) (Nat.le_of_ble_eq_true rfl) (am_G.mono (c_R_to (d := d + 4) (i := j) hLr.1 hj) ?_)
    intro r h1 hq
    rw [hq.1, hq.2, hos]
    clear hq h1 r
    refine ⟨am_nti _, ?_⟩
    refine g_aload_n (pc := 56) dc_C_keepPage_56 rfl ?_
    refine g_getfield (pc := 57) dc_C_keepPage_57 fl_C_22 hO.1 rfl ?_
    refine g_iconst (pc := 60) (v := 1) dc_C_keepPage_60 rfl ?_
    refine q_aaloadI (pc := 61) (k := 41) 1 dc_C_keepPage_61 hG.1 (by decide) (by decide) rfl ?_
    refine g_iload_n (pc := 62) dc_C_keepPage_62 rfl ?_
    refine q_ialoadV (pc := 63) i dc_C_keepPage_63 m1.1 (by omega) (by decide) (v := nI dp0) ((hmP i hi).2.1.trans (congrArg nI hd)) ?_
    refine g_iconst (pc := 64) (v := 1) dc_C_keepPage_64 rfl ?_
    refine g_iadd (pc := 65) (v := (nI (dp0 + 1))) dc_C_keepPage_65 (nI_add dp0 1) ?_
    refine g_iconst (pc := 66) (v := 0) dc_C_keepPage_66 rfl ?_
    refine g_v5 (pc := 67) (M' := mt_C_meet) dc_C_keepPage_67 mo_C_meet im_C_meet se_C_meet ln_C_108 hO.1 rfl rfl (Nat.le_of_ble_eq_true rfl) (Nat.le_of_ble_eq_true rfl) (am_G.mono (w_C_meet (d := d) (q := 14) (c := b9) (s := ofs Ls j) (f := 0) (t := (gT Ls j).length) (M := gT Ls j) (dp := dp0 + 1) (ch := 0) hO hG hR hK0 hA hl (rR.tO hLr hj) (by decide) (Nat.zero_le _) (Nat.le_refl _) hw hli (by rw [hsa]; exact hoj) hl0 hl1 (by omega) (by omega)) ?_)
    intro r h1 hz
    rw [hsa] at hz
    obtain ⟨hz1, w1, g1, a1, a2, a3⟩ := hz
    rw [hz1]
    clear hz1 r
    refine ⟨am_nti _, ?_⟩
    refine g_pop (pc := 70) dc_C_keepPage_70 rfl ?_
    refine g_iinc (pc := 71) (v := (nI (j + 1))) dc_C_keepPage_71 rfl (nI_add j 1) (by decide) ?_
    show am_G X mt_C_keepPage _ 74 [some (.ref 34), some (.int (nI i)), none, some (.ref 13), some (.int (nI (j + 1)))] [] _ _
    refine g_goto (pc := 74) (tgt := 27) dc_C_keepPage_74 rfl ?_
    have hm9 := mee_k (lim := lim) (D := gT Ls j) (dp := dp0 + 1) (ch := 0) hi hs
    refine am_G.mono (l_C_keepPage hok hL60 hl0 hl1 n (j + 1) w1 h1 _ (by omega) (hO.fr g1 (by decide)) (hG.fr g1 (by decide)) a1 a2 a3 (hl.fr g1 (by decide)) (hL0.fr g1 (by decide) (by decide)) (mee_wf hl0 hl1 hoj (by omega) (by omega) hw) hli.met (hwl.met (Nat.zero_le _)) hm9.1 (by rw [hm9.2.1]; exact hs) (hm9.2.2.1.trans hd)) (fun r h2 hz => ?_)
    obtain ⟨y1, w2, y2, y3⟩ := hz
    exact ⟨y1, w2, g1.tr y2, y3⟩
theorem w_C_keepPage {w0 : Gw} {h0 : List va_E} (hok : ∀ x, x ∈ Ls → okD x) (hL60 : Ls.length ≤ 60) (hl0 : lim 0 ≤ 20) (hl1 : lim 1 ≤ 8) (hO_0 : cO w0 h0 34 34 (cr7 st9 ck an sv sn cr)) (hG_0 : gr4 w0 h0 39) (hR_0 : rE w0 h0 35 36 35 36 K.ad []) (hK : mk4 w0 h0 39 K) (hA : aTC w0 h0 K) (hl_0 : lmC w0 h0 lim) (hL_0 : rE w0 h0 13 14 13 14 Ls []) (hP_0 : pR w0 h0) (hpk : pgK w0 h0 K V) (hg_0 : gG w0 h0 pg (gT K.ad i, 200, L)) (hw : wfK K) (hli : ldI K) (hwl : wl lim K) (hi : i < K.ad.length) (hVi : i < V.ad.length → ¬ V.st i = 2) : am_C X mt_C_keepPage (d + 5) [.ref 34, .int (nI i), .ref pg] h0 (fun r h1 => r = none ∧ ∃ w1, fr w0 w1 h0 h1 [35, 36, 40, 41, 42, 43, 44, 53] ∧ rE w1 h1 35 36 35 36 (lkf lim (K.dp i + 1) Ls (txK K i L)).ad [] ∧ mk4 w1 h1 39 (lkf lim (K.dp i + 1) Ls (txK K i L)) ∧ aTC w1 h1 (lkf lim (K.dp i + 1) Ls (txK K i L)) ∧ pgK w1 h1 (lkf lim (K.dp i + 1) Ls (txK K i L)) V ∧ wfK (lkf lim (K.dp i + 1) Ls (txK K i L)) ∧ ldI (lkf lim (K.dp i + 1) Ls (txK K i L)) ∧ wl lim (lkf lim (K.dp i + 1) Ls (txK K i L))) := by
  show am_G X mt_C_keepPage (d + 5) 0 [some (.ref 34), some (.int (nI i)), some (.ref pg), none, none] [] h0 _
  obtain ⟨z0, z1, z2, z3, m0_0, m1_0, m2_0, m3_0, hmP⟩ := hK
  obtain ⟨ga, ha_0, haP⟩ := hA
  obtain ⟨gp, hp_0, hpP, hpV⟩ := hpk
  have h250 := hw.1
  have G0 : fr w0 w0 h0 h0 [35, 36, 40, 41, 42, 43, 44, 53] := fr.rf
  have hwt : wfK (txK K i L) := stK_wf (K := K) (k := i) (v := 2) (by decide) hw
  refine g_aload_n (pc := 0) dc_C_keepPage_0 rfl ?_
  refine g_getfield (pc := 1) dc_C_keepPage_1 fl_C_22 hO_0.1 rfl ?_
  refine g_iconst (pc := 4) (v := 0) dc_C_keepPage_4 rfl ?_
  refine q_aaloadI (pc := 5) (k := 40) 0 dc_C_keepPage_5 hG_0.1 (by decide) (by decide) rfl ?_
  refine g_iload_n (pc := 6) dc_C_keepPage_6 rfl ?_
  refine g_iconst (pc := 7) (v := 2) dc_C_keepPage_7 rfl ?_
  refine q_iastore (pc := 8) i dc_C_keepPage_8 m0_0.1 (by omega) (by decide) ?_
  have g1 : fr w0 w0 h0 (h0.set 40 (.inl (1, 250, .inl (upd z0 i 2)))) [40] := fr.st m0_0.1 rfl m0_0.2
  have m0_1 : iA w0 (h0.set 40 (.inl (1, 250, .inl (upd z0 i 2)))) 40 250 (upd z0 i 2) := ⟨am_se (am_lt m0_0.1), m0_0.2⟩
  obtain ⟨w1, hw1⟩ : ∃ w9, w9 = w0 := ⟨_, rfl⟩
  generalize (h0.set 40 (.inl (1, 250, .inl (upd z0 i 2)))) = h1 at g1 m0_1 ⊢
  have g1 : fr w0 w1 h0 h1 [40] := by rw [hw1]; exact g1
  have m0_1 : iA w1 h1 40 250 (upd z0 i 2) := by rw [hw1]; exact m0_1
  have hO_1 := hO_0.fr g1 (by decide)
  have hG_1 := hG_0.fr g1 (by decide)
  have hR_1 := hR_0.fr g1 (by decide) (by decide)
  have m1_1 := m1_0.fr g1 (by decide)
  have m2_1 := m2_0.fr g1 (by decide)
  have m3_1 := m3_0.fr g1 (by decide)
  have ha_1 := ha_0.fr g1 (by decide)
  have hl_1 := hl_0.fr g1 (by decide)
  have hL_1 := hL_0.fr g1 (by decide) (by decide)
  have hP_1 := hP_0.fr g1 (by decide)
  have hp_1 := hp_0.fr g1 (by decide)
  have hg_1 := hg_0.fr g1 (by decide)
  have G1 := G0.tr (g1.mo (by decide : ∀ x, x ∈ [40] → x ∈ [35, 36, 40, 41, 42, 43, 44, 53]))
  refine g_aload_n (pc := 9) dc_C_keepPage_9 rfl ?_
  refine g_getfield (pc := 10) dc_C_keepPage_10 fl_C_27 hO_1.1 rfl ?_
  refine g_iload_n (pc := 13) dc_C_keepPage_13 rfl ?_
  refine g_aload_n (pc := 14) dc_C_keepPage_14 rfl ?_
  have hpo : ∃ fs, h1[pg]? = some (.inr (10, fs)) := by obtain ⟨a1, a2, q1, -⟩ := hg_1; exact ⟨_, q1.1⟩
  obtain ⟨fs, hpo⟩ := hpo
  refine q_aastore4 (pc := 15) i dc_C_keepPage_15 hp_1.1 (by omega) (by decide) hpo ?_
  have g2 : fr w1 w1 h1 (h1.set 44 (.inl (4, 250, .inr (.inr (.inr (.inr (va_up gp i (some pg)))))))) [44] := fr.st hp_1.1 rfl hp_1.2
  have hp_2 : pA w1 (h1.set 44 (.inl (4, 250, .inr (.inr (.inr (.inr (va_up gp i (some pg)))))))) 44 250 (va_up gp i (some pg)) := ⟨am_se (am_lt hp_1.1), hp_1.2⟩
  obtain ⟨w2, hw2⟩ : ∃ w9, w9 = w1 := ⟨_, rfl⟩
  generalize (h1.set 44 (.inl (4, 250, .inr (.inr (.inr (.inr (va_up gp i (some pg)))))))) = h2 at g2 hp_2 ⊢
  have g2 : fr w1 w2 h1 h2 [44] := by rw [hw2]; exact g2
  have hp_2 : pA w2 h2 44 250 (va_up gp i (some pg)) := by rw [hw2]; exact hp_2
  have hO_2 := hO_1.fr g2 (by decide)
  have hG_2 := hG_1.fr g2 (by decide)
  have hR_2 := hR_1.fr g2 (by decide) (by decide)
  have m0_2 := m0_1.fr g2 (by decide)
  have m1_2 := m1_1.fr g2 (by decide)
  have m2_2 := m2_1.fr g2 (by decide)
  have m3_2 := m3_1.fr g2 (by decide)
  have ha_2 := ha_1.fr g2 (by decide)
  have hl_2 := hl_1.fr g2 (by decide)
  have hL_2 := hL_1.fr g2 (by decide) (by decide)
  have hP_2 := hP_1.fr g2 (by decide)
  have hg_2 := hg_1.fr g2 (by decide)
  have G2 := G1.tr (g2.mo (by decide : ∀ x, x ∈ [44] → x ∈ [35, 36, 40, 41, 42, 43, 44, 53]))
  refine g_aload_n (pc := 16) dc_C_keepPage_16 rfl ?_
  refine g_getfield (pc := 17) dc_C_keepPage_17 fl_C_64 hO_2.1 rfl ?_
  refine g_getfield (pc := 20) dc_C_keepPage_20 fl_C_180 hP_2.1 rfl ?_
  refine g_astore_n (pc := 23) dc_C_keepPage_23 (by decide) ?_
  show am_G X mt_C_keepPage _ 24 [some (.ref 34), some (.int (nI i)), some (.ref pg), some (.ref 13), none] [] _ _
  refine g_iconst (pc := 24) (v := 0) dc_C_keepPage_24 rfl ?_
  refine g_istore (pc := 25) dc_C_keepPage_25 (by decide) ?_
  show am_G X mt_C_keepPage _ 27 [some (.ref 34), some (.int (nI i)), some (.ref pg), some (.ref 13), some (.int 0)] [] _ _
  refine am_wk (am_le_s (am_le_s (am_le_n (am_le_s (am_le_s am_le_0))))) ?_
  have hK2 : mk4 w2 h2 39 (txK K i L) := ⟨_, _, _, _, m0_2, m1_2, m2_2, m3_2, fun j hj => stK_mkP (i := i) (v := 2) hmP j hj⟩
  have hA2 : aTC w2 h2 (txK K i L) := ⟨ga, ha_2, haP⟩
  have hli2 : ldI (txK K i L) := hli
  have hwl2 : wl lim (txK K i L) := hwl
  refine am_G.mono (l_C_keepPage (d := d) (dp0 := K.dp i) hok hL60 hl0 hl1 Ls.length 0 w2 h2 (txK K i L) (by omega) hO_2 hG_2 hR_2 hK2 hA2 hl_2 hL_2 hwt hli2 hwl2 hi (by show ¬ upf K.st i 2 i = 1; rw [upf_s]; decide) rfl) (fun r h3 hz => ?_)
  obtain ⟨y1, w3, y2, y3, y4, y5, y6, y7, y8⟩ := hz
  rw [List.drop_zero] at y3 y4 y5 y6 y7 y8
  refine ⟨y1, w3, G2.tr (y2.mo (by decide)), y3, y4, y5, ⟨_, cO.fr hp_2 y2 (by decide), fun j hj hs9 => ?_, fun j hj hs9 => ?_⟩, y6, y7, y8⟩
  · have hk9 := lkf_got (lim := lim) (dp := K.dp i + 1) Ls (txK K i L) j hj hs9
    have hj2 : j < K.ad.length := hk9.1
    rw [hk9.2.1, hk9.2.2.2]
    have hs8 : upf K.st i 2 j = 2 := hk9.2.2.1
    show ∃ pg_1, va_up gp i (some pg) j = some pg_1 ∧ gG w3 h3 pg_1 (gT K.ad j, 200, upf K.tx i L j)
    by_cases e9 : j = i
    · rw [e9, vau_s, upf_s]; exact ⟨pg, rfl, hg_2.fr y2 (by decide)⟩
    · rw [vau_n e9, upf_n e9]
      rw [upf_n e9] at hs8
      obtain ⟨pg2, q1, q2⟩ := hpP j hj2 hs8
      exact ⟨pg2, q1, ((q2.fr g1 (by decide)).fr g2 (by decide)).fr y2 (by decide)⟩
  · have e9 : ¬ j = i := fun e => hVi (by rw [← e]; exact hj) (by rw [← e]; exact hs9)
    rw [vau_n e9]
    obtain ⟨pg2, q1, q2⟩ := hpV j hj hs9
    exact ⟨pg2, q1, ((q2.fr g1 (by decide)).fr g2 (by decide)).fr y2 (by decide)⟩
end D5S
