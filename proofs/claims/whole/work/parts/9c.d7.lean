/-! ===== one step of the class ===== -/
abbrev TS : List Nat := [8, 10, 13, 14, 21, 22, 24, 34, 35, 36, 40, 41, 42, 43, 44, 45, 46, 49, 51, 53, 55, 56, 57, 58]
/-- the reader of pages, whatever it read last -/
def rdC (w : Gw) (h : List va_E) : Prop := ∃ Ls, pgS w h Ls
/-- what was saved is a part of what is known -/
def svR (K V : Kn) : Prop := V.ad <+: K.ad ∧ ∀ i, i < V.ad.length → ¬ V.st i = 1 → K.st i = V.st i
section D7A
variable {w w1 : Gw} {h h1 : List va_E} {I : List Nat} {K V : Kn} {k v : Nat} {lim : Nat → Nat} {c : Cw} {P : List Pg} {Rs Rt : List (List Int32)}
theorem rdC.fr (z : rdC w h) (f : fr w w1 h h1 I) (hi : ∀ x, x ∈ [7, 8, 10, 12, 13, 14, 21, 22, 24] → ¬ x ∈ I) : rdC w1 h1 := by
  obtain ⟨Ls, a1, a2, a3, a4, a5, a6, a7⟩ := z
  exact ⟨Ls, cO.fr a1 f (hi 12 (by decide)), a2.fr f (hi 7 (by decide)) (hi 10 (by decide)) (hi 8 (by decide)), a3.fr f (hi 21 (by decide)), a4.fr f (hi 8 (by decide)), a5.fr f (hi 22 (by decide)), a6.fr f (hi 24 (by decide)), a7.fr f (hi 13 (by decide)) (hi 14 (by decide))⟩
theorem pgK_st (z : pgK w h K V) (hv : ¬ v = 2) : pgK w h (stK K k v) V := by
  obtain ⟨gp, a1, a2, a3⟩ := z
  refine ⟨gp, a1, fun i hi hs => ?_, a3⟩
  have hs2 : upf K.st k v i = 2 := hs
  by_cases e : i = k
  · rw [e, upf_s] at hs2; exact absurd hs2 hv
  · rw [upf_n e] at hs2; exact a2 i hi hs2
theorem lkf_inv {dp : Nat} : ∀ (Ls : List (List Int32)) (K : Kn), ldI K → wl lim K → ldI (lkf lim dp Ls K) ∧ wl lim (lkf lim dp Ls K)
  | [], K, h1, h2 => ⟨h1, h2⟩
  | E :: Ls, K, h1, h2 => lkf_inv Ls _ h1.met (h2.met (Nat.zero_le _))
theorem tak_inv (h250 : K.ad.length ≤ 250) (hk : k < K.ad.length) (h1 : ldI K) (h2 : wl lim K) : ldI (tak lim P Rs Rt K c k).2.1 ∧ wl lim (tak lim P Rs Rt K c k).2.1 := by
  have f5 : ∀ v, ldI (stK (asK lim K c k) k v) ∧ wl lim (stK (asK lim K c k) k v) := fun v => ⟨h1, h2⟩
  unfold tak
  split
  · cases e : nbr (pad P) (gT K.ad k) with
    | none => exact f5 5
    | some j =>
      dsimp only
      split
      · exact lkf_inv _ _ h1 h2
      · split
        · rename_i h9
          cases e2 : ldl (gP P j).2.2 (gT K.ad k) with
          | none => exact f5 5
          | some E =>
            dsimp only
            rw [mee_ld (K := asK lim K c k) hk]
            exact ⟨sld_ldI (ldI.met (K := stK (asK lim K c k) k 3) h1) (mee_in (K := stK (asK lim K c k) k 3) (h2 k hk).1 (by omega) h250), wl.met (K := stK (asK lim K c k) k 3) h2 (by omega)⟩
        · exact f5 5
  · exact ⟨h1, h2⟩
theorem mee_pre {D : List Int32} {dp ch : Nat} : K.ad <+: (mee lim D dp ch K).ad := by
  unfold mee
  cases e : nbr K.ad D with
  | none =>
    dsimp only
    split
    · exact List.prefix_append _ _
    · exact List.prefix_refl _
  | some j =>
    dsimp only
    split <;> exact List.prefix_refl _
theorem lkf_keep {dp : Nat} : ∀ (Ls : List (List Int32)) (K : Kn), K.ad <+: (lkf lim dp Ls K).ad ∧ ∀ i, i < K.ad.length → ¬ K.st i = 1 → (lkf lim dp Ls K).st i = K.st i
  | [], K => ⟨List.prefix_refl _, fun _ _ _ => rfl⟩
  | E :: Ls, K => by
    have h3 := lkf_keep (dp := dp) Ls (mee lim E dp 0 K)
    refine ⟨mee_pre.trans h3.1, fun i hi hs => ?_⟩
    have h := mee_k (lim := lim) (D := E) (dp := dp) (ch := 0) hi hs
    exact (h3.2 i h.1 (by rw [h.2.1]; exact hs)).trans h.2.1
theorem tak_keep (hk : k < K.ad.length) : K.ad <+: (tak lim P Rs Rt K c k).2.1.ad ∧ ∀ i, i < K.ad.length → ¬ K.st i = 1 → ¬ i = k → (tak lim P Rs Rt K c k).2.1.st i = K.st i := by
  have f5 : ∀ v, K.ad <+: (stK (asK lim K c k) k v).ad ∧ ∀ i, i < K.ad.length → ¬ K.st i = 1 → ¬ i = k → (stK (asK lim K c k) k v).st i = K.st i := fun v => ⟨List.prefix_refl _, fun i _ _ hne => upf_n hne⟩
  unfold tak
  split
  · cases e : nbr (pad P) (gT K.ad k) with
    | none => exact f5 5
    | some j =>
      dsimp only
      split
      · have h := lkf_keep (lim := lim) (dp := K.dp k + 1) (pgL (gP P j).2.2 (gT K.ad k)) (txK (asK lim K c k) k (gP P j).2.2)
        refine ⟨h.1, fun i hi hs hne => ?_⟩
        have e9 : (txK (asK lim K c k) k (gP P j).2.2).st i = K.st i := upf_n hne
        exact (h.2 i hi (by rw [e9]; exact hs)).trans e9
      · split
        · cases e2 : ldl (gP P j).2.2 (gT K.ad k) with
          | none => exact f5 5
          | some E =>
            dsimp only
            refine ⟨mee_pre (K := ldK (asK lim K c k) k E), fun i hi hs hne => ?_⟩
            have e9 : (ldK (asK lim K c k) k E).st i = K.st i := upf_n hne
            exact (mee_k (K := ldK (asK lim K c k) k E) hi (by rw [e9]; exact hs)).2.1.trans e9
        · exact f5 5
  · exact ⟨List.prefix_refl _, fun i _ _ hne => upf_n hne⟩
theorem svR.tak (z : svR K V) (hk : k < K.ad.length) (hs : K.st k = 1) : svR (tak lim P Rs Rt K c k).2.1 V := by
  have h := tak_keep (lim := lim) (P := P) (Rs := Rs) (Rt := Rt) (c := c) hk
  refine ⟨z.1.trans h.1, fun i hi hne => ?_⟩
  have h2 := z.2 i hi hne
  have hik : ¬ i = k := fun e => hne (by rw [← h2, e]; exact hs)
  exact (h.2 i (Nat.lt_of_lt_of_le hi z.1.length_le) (by rw [h2]; exact hne) hik).trans h2
end D7A
section D7S
variable {X : am_X} {d k n : Nat} {D L E : List Int32} {K V : Kn} {lim : Nat → Nat} {st9 : Bool} {ck an sv sn pg : Nat} {cr : Option Nat} {c : Cw} {P : List Pg} {Rs Rt : List (List Int32)}
theorem cw_nextWaiting {w : Gw} {h : List va_E} (hO : cO w h 34 34 (cr7 st9 ck an sv sn cr)) (hG : gr4 w h 39) (hK : mk4 w h 39 K) (hR : rE w h 35 36 35 36 K.ad []) (hw : wfK K) : am_C X mt_C_nextWaiting (d + 1) [.ref 34] h (fun r h1 => r = some (.int (er (nxw K))) ∧ h1 = h) := by
  obtain ⟨z0, z1, z2, z3, m0, m1, m2, m3, hmP⟩ := hK
  exact c_C_nextWaiting hO hG m0 m1 m2 hmP hR hw
theorem upf_up {α : Type} {f : Nat → α} {i : Nat} {v u : α} : upf (upf f i v) i u = upf f i u := by
  funext j
  by_cases e : j = i
  · rw [e, upf_s, upf_s]
  · rw [upf_n e, upf_n e, upf_n e]
theorem pgK_ldk {w : Gw} {h : List va_E} (z : pgK w h K V) : pgK w h (ldK K k E) V := by
  obtain ⟨gp, a1, a2, a3⟩ := z
  refine ⟨gp, a1, fun i hi hs => ?_, a3⟩
  have hs2 : upf K.st k 3 i = 2 := hs
  by_cases e : i = k
  · rw [e, upf_s] at hs2; cases hs2
  · rw [upf_n e] at hs2; exact a2 i hi hs2
theorem pgK_met {w : Gw} {h : List va_E} {dp ch : Nat} (z : pgK w h K V) : pgK w h (mee lim D dp ch K) V := by
  obtain ⟨gp, a1, a2, a3⟩ := z
  refine ⟨gp, a1, fun i hi hs => ?_, a3⟩
  obtain ⟨b1, b2, b3, b4⟩ := mee_got hi hs
  rw [b2, b4]
  exact a2 i b1 b3
theorem w_P_readLinks0 {w0 : Gw} {h0 : List va_E} {c q ja aa : Nat} {Ls : List (List Int32)} (hq : ¬ q ∈ [8, 10, 13, 14, 21, 22, 24]) (hj : ¬ ja ∈ [8, 10, 13, 14, 21, 22, 24]) (ho : okD D) (hL8 : L.length ≤ 7999) (hS : pgS w0 h0 Ls) (hx0 : tO w0 h0 q c 0 L) (hD0 : bE w0 h0 ja aa D) : am_C X mt_P_readLinks (d + 9) [.ref 12, .ref c, .int 0, .int (nI L.length), .ref aa] h0 (fun r h1 => r = none ∧ ∃ w1, fr w0 w1 h0 h1 [8, 10, 13, 14, 21, 22, 24] ∧ pgS w1 h1 (pgL L D)) := by
  have h9 := w_P_readLinks (X := X) (d := d) (s := 0) hq hj ho hL8 hS hx0 hD0
  rw [Nat.zero_add] at h9
  exact h9
theorem wD_A_resolve0 {w : Gw} {h : List va_E} {R0 : List Int32} {j bb q c f t : Nat} (hA : aR w h) (hr : bE w h 8 8 R0) (hb : bE w h j bb D) (hj : ¬ j = 8 ∧ ¬ j = 10) (ho : okD D) (hx : tO w h q c 0 L) (hq : ¬ q = 8 ∧ ¬ q = 10) (hft : f ≤ t) (ht : t ≤ L.length) (hL8 : L.length ≤ 8000) : am_C X mt_A_resolve (d + 7) [.ref 7, .ref c, .int (nI f), .int (nI t), .ref bb] h (fun r h1 => ∃ w1, fr w w1 h h1 [8, 10] ∧ aR w1 h1 ∧ match mrr L f t (some D) with | some E => r = some (.int 1) ∧ bE w1 h1 8 8 E | none => r = some (.int 0) ∧ bE w1 h1 8 8 []) := by
  have h9 := wD_A_resolve (X := X) (d := d) (s := 0) hA hr hb hj ho hx hq hft ht hL8
  rw [Nat.zero_add, Nat.zero_add] at h9
  exact h9
theorem w_C_takeStep {w0 : Gw} {h0 : List va_E} (hC : cqC w0 h0 st9 lim K c V) (hB_0 : eB w0 h0 51 51) (hv_0 : vO w0 h0 P.length Rs.length) (hw__0 : pgC w0 h0 P) (hr_0 : ruC w0 h0 Rs Rt) (hS_0 : rdC w0 h0) (hP : wfP P) (hrs : rsO Rs) (h12 : Rs.length ≤ 12) (hQ : ∀ j, j < Rs.length → okQ (rlz (gT Rt j))) (hw : wfK K) (hwc : wfC K c) (han : c.an < 128000) (hli : ldI K) (hwl : wl lim K) (hsv : svR K V) (hl0 : lim 0 ≤ 20) (hl1 : lim 1 ≤ 8) (hl2 : lim 2 ≤ 1000) (hl3 : lim 3 ≤ 50) (hsn : c.sn < lim 3) : am_C X mt_C_takeStep (d + 10) [.ref 34] h0 (fun r h1 => match stp lim P Rs Rt (K, c, V) with | none => r = some (.int (-1)) ∧ h1 = h0 | some z => r = some (.int (nI z.1)) ∧ ∃ w1, fr w0 w1 h0 h1 TS ∧ cqC w1 h1 st9 lim z.2.1 z.2.2.1 z.2.2.2 ∧ eB w1 h1 51 51 ∧ rdC w1 h1) := by
  show am_G X mt_C_takeStep (d + 10) 0 [some (.ref 34), none, none] [] h0 _
  obtain ⟨hO_0, ⟨ga_0, gb_0⟩, hR_0, hK_0, hV_0, hA_0, hl_0, hq_0, hp_0⟩ := hC
  have h250 := hw.1
  have hP60 := hP.1.1
  have G0 : fr w0 w0 h0 h0 TS := fr.rf
  obtain ⟨oo, hoo⟩ : ∃ oo, oo = nxw K := ⟨_, rfl⟩
  have hnb : ∀ j, oo = some j → j < 2 ^ 31 := fun j hj => by have := (nwf_b _ j (hoo.symm.trans hj)).1; omega
  refine g_aload_n (pc := 0) dc_C_takeStep_0 rfl ?_
  refine g_v0 (pc := 1) (M' := mt_C_nextWaiting) dc_C_takeStep_1 mo_C_nextWaiting im_C_nextWaiting se_C_nextWaiting ln_C_115 hO_0.1 rfl rfl (Nat.le_of_ble_eq_true rfl) (Nat.le_of_ble_eq_true rfl) (am_G.mono (cw_nextWaiting (d := d + 8) hO_0 ga_0 hK_0 hR_0 hw) ?_)
  intro r h1 hq9
  rw [hq9.1, hq9.2, ← hoo]
  clear hq9 h1 r
  refine ⟨am_nti _, ?_⟩
  refine g_istore_n (pc := 4) dc_C_takeStep_4 (by decide) ?_
  show am_G X mt_C_takeStep _ 5 [some (.ref 34), some (.int (er oo)), none] [] _ _
  refine g_iload_n (pc := 5) dc_C_takeStep_5 rfl ?_
  refine g_iconst (pc := 6) (v := (-1)) dc_C_takeStep_6 rfl ?_
  refine q_o_ne (pc := 7) (tgt := 12) dc_C_takeStep_7 hnb rfl (fun k7 hc7 => ?_) (fun hc7 => ?_)
  · rw [hc7]
    rw [show er (some k7) = nI k7 from rfl]
    have hk7 := hnb k7 hc7
    have hk := nwf_b _ k7 (show nwf K K.ad.length = some k7 from hoo.symm.trans hc7)
    have hk1 := hk.1
    have hk2 := hk.2
    have ho : okD (gT K.ad k7) := hw.2.2.1 _ (gT_mem hk1)
    have hst : (stp lim P Rs Rt (K, c, V)) = some ((tak lim P Rs Rt K c k7).1, if lim 3 ≤ (tak lim P Rs Rt K c k7).2.2.sn then ((tak lim P Rs Rt K c k7).2.1, snz (tak lim P Rs Rt K c k7).2.2, (tak lim P Rs Rt K c k7).2.1) else ((tak lim P Rs Rt K c k7).2.1, (tak lim P Rs Rt K c k7).2.2, V)) := by unfold stp; dsimp only; rw [← hoo, hc7]
    rw [hst]
    have d3 := ho.2.2.2.2.1
    have h8D : 8 ≤ (gT K.ad k7).length := by have := ho.2.1; have := ho.2.2.1; omega
    obtain ⟨L51, hB51⟩ := hB_0
    have h51_0 : ∃ b9, h0[51]? = some (.inr (1, [.ref b9, .int (nI L51.length)])) := by obtain ⟨b9, q9⟩ := hB51; exact ⟨b9, q9.1.ha⟩
    obtain ⟨b51x, h51_0⟩ := h51_0
    have hB_0 : eB w0 h0 51 51 := ⟨_, hB51⟩
    refine g_aload_n (pc := 12) dc_C_takeStep_12 rfl ?_
    refine g_getfield (pc := 13) dc_C_takeStep_13 fl_C_46 hO_0.1 rfl ?_
    refine g_v0 (pc := 16) (M' := mt_B_clear) dc_C_takeStep_16 mo_B_clear im_B_clear se_B_clear ln_C_119 h51_0 rfl rfl (Nat.le_of_ble_eq_true rfl) (Nat.le_of_ble_eq_true rfl) (am_G.mono (w_B_clear (d := d + 9) (i := 51) (by decide) hB51) ?_)
    intro r h1 hz
    obtain ⟨hz1, w1, g1, hB_1⟩ := hz
    rw [hz1]
    have hO_1 := hO_0.fr g1 (by decide)
    have ga_1 := ga_0.fr g1 (by decide)
    have gb_1 := gb_0.fr g1 (by decide)
    have hR_1 := hR_0.fr g1 (by decide) (by decide)
    have hK_1 := hK_0.fr g1 (by decide) (by decide) (by decide) (by decide)
    have hV_1 := hV_0.fr g1 (by decide) (by decide) (by decide) (by decide)
    have hA_1 := hA_0.fr g1 (by decide)
    have hl_1 := hl_0.fr g1 (by decide)
    have hq_1 := hq_0.fr g1 (by decide) (by decide) (by decide)
    have hp_1 := hp_0.fr g1 (by decide) (by decide)
    have hv_1 := hv_0.fr g1 (by decide)
    have hw__1 := hw__0.fr g1 (by decide) (by decide)
    have hr_1 := hr_0.fr g1 (by decide)
    have hS_1 := hS_0.fr g1 (by decide)
    have G1 := G0.tr (g1.mo (by decide : ∀ x, x ∈ [51] → x ∈ [8, 10, 13, 14, 21, 22, 24, 34, 35, 36, 40, 41, 42, 43, 44, 45, 46, 49, 51, 53, 55, 56, 57, 58]))
    clear hz1 r
    have h51_1 : ∃ b9, h1[51]? = some (.inr (1, [.ref b9, .int (nI ([] : List Int32).length)])) := by obtain ⟨b9, q9⟩ := hB_1; exact ⟨b9, q9.1.ha⟩
    obtain ⟨b51y, h51_1⟩ := h51_1
    obtain ⟨b36, e36, hRr⟩ := hR_1
    have hRo_1 := hRr.1.1
    have hRb_1 := hRr.1.2.1.ha
    have hR_1 : rE w1 h1 35 36 35 36 K.ad [] := ⟨b36, e36, hRr⟩
    have hos := ofs_s (T := K.ad) hk1
    have hof := hRr.1.of (k := k7 + 1) (by omega)
    refine ⟨am_nt0, ?_⟩
    refine g_aload_n (pc := 19) dc_C_takeStep_19 rfl ?_
    refine g_getfield (pc := 20) dc_C_takeStep_20 fl_C_46 hO_1.1 rfl ?_
    refine g_aload_n (pc := 23) dc_C_takeStep_23 rfl ?_
    refine g_getfield (pc := 24) dc_C_takeStep_24 fl_C_14 hO_1.1 rfl ?_
    refine g_getfield (pc := 27) dc_C_takeStep_27 fl_C_94 hRo_1 rfl ?_
    refine g_getfield (pc := 30) dc_C_takeStep_30 fl_C_97 hRb_1 rfl ?_
    refine g_aload_n (pc := 33) dc_C_takeStep_33 rfl ?_
    refine g_getfield (pc := 34) dc_C_takeStep_34 fl_C_14 hO_1.1 rfl ?_
    refine g_iload_n (pc := 37) dc_C_takeStep_37 rfl ?_
    refine g_v1 (pc := 38) (M' := mt_R_from) dc_C_takeStep_38 mo_R_from im_R_from se_R_from ln_C_101 hRo_1 rfl rfl (Nat.le_of_ble_eq_true rfl) (Nat.le_of_ble_eq_true rfl) (am_G.mono (c_R_from (d := d + 9) (i := k7) hRr.1 (by omega)) ?_)
    intro r h1 hq
    rw [hq.1, hq.2]
    clear hq h1 r
    refine ⟨am_nti _, ?_⟩
    refine g_aload_n (pc := 41) dc_C_takeStep_41 rfl ?_
    refine g_getfield (pc := 42) dc_C_takeStep_42 fl_C_14 hO_1.1 rfl ?_
    refine g_iload_n (pc := 45) dc_C_takeStep_45 rfl ?_
    refine g_v1 (pc := 46) (M' := mt_R_to) dc_C_takeStep_46 mo_R_to im_R_to se_R_to ln_C_105 hRo_1 rfl rfl (Nat.le_of_ble_eq_true rfl) (Nat.le_of_ble_eq_true rfl) (am_G.mono (c_R_to (d := d + 9) (i := k7) hRr.1 hk1) ?_)
    intro r h9 hq9
    rw [hq9.1, hq9.2, hos]
    clear hq9 h9 r
    refine ⟨am_nti _, ?_⟩
    refine g_v3 (pc := 49) (M' := mt_B_putAll) dc_C_takeStep_49 mo_B_putAll im_B_putAll se_B_putAll ln_C_120 h51_1 rfl rfl (Nat.le_of_ble_eq_true rfl) (Nat.le_of_ble_eq_true rfl) (am_G.mono (w_B_putAll (d := d + 7) (i := 51) (s := ofs K.ad k7) (f := 0) (t := (gT K.ad k7).length) (by decide) hB_1 (rR.tO hRr hk1) (by decide) (Nat.zero_le _) (Nat.le_refl _) (by show 2 * (0 + _) + 16 ≤ 40016; omega)) ?_)
    intro r h2 hz
    obtain ⟨hz1, w2, g2, hB_2⟩ := hz
    rw [hz1]
    have hO_2 := hO_1.fr g2 (by decide)
    have ga_2 := ga_1.fr g2 (by decide)
    have gb_2 := gb_1.fr g2 (by decide)
    have hR_2 := hR_1.fr g2 (by decide) (by decide)
    have hK_2 := hK_1.fr g2 (by decide) (by decide) (by decide) (by decide)
    have hV_2 := hV_1.fr g2 (by decide) (by decide) (by decide) (by decide)
    have hA_2 := hA_1.fr g2 (by decide)
    have hl_2 := hl_1.fr g2 (by decide)
    have hq_2 := hq_1.fr g2 (by decide) (by decide) (by decide)
    have hp_2 := hp_1.fr g2 (by decide) (by decide)
    have hv_2 := hv_1.fr g2 (by decide)
    have hw__2 := hw__1.fr g2 (by decide) (by decide)
    have hr_2 := hr_1.fr g2 (by decide)
    have hS_2 := hS_1.fr g2 (by decide)
    have G2 := G1.tr (g2.mo (by decide : ∀ x, x ∈ [51] → x ∈ [8, 10, 13, 14, 21, 22, 24, 34, 35, 36, 40, 41, 42, 43, 44, 45, 46, 49, 51, 53, 55, 56, 57, 58]))
    clear hz1 r
    rw [List.nil_append, show sub (gT K.ad k7) 0 (gT K.ad k7).length = (gT K.ad k7) from sub_all rfl] at hB_2
    obtain ⟨b51, q51⟩ := hB_2
    have q51h_2 := q51.1.ha
    have hB_2 : bE w2 h2 51 51 (gT K.ad k7) := ⟨b51, q51⟩
    refine ⟨am_nt0, ?_⟩
    refine g_aload_n (pc := 52) dc_C_takeStep_52 rfl ?_
    refine g_getfield (pc := 53) dc_C_takeStep_53 fl_C_56 hO_2.1 rfl ?_
    refine g_aload_n (pc := 56) dc_C_takeStep_56 rfl ?_
    refine g_getfield (pc := 57) dc_C_takeStep_57 fl_C_46 hO_2.1 rfl ?_
    refine g_v1 (pc := 60) (M' := mt_V_allows) dc_C_takeStep_60 mo_V_allows im_V_allows se_V_allows ln_C_124 hv_2.1 rfl rfl (Nat.le_of_ble_eq_true rfl) (Nat.le_of_ble_eq_true rfl) (am_G.mono (c_V_allows (d := d + 3) hv_2 hr_2 hrs h12 hB_2 ho hQ) ?_)
    intro r h1 hq
    rw [hq.1, hq.2]
    clear hq h1 r
    refine ⟨am_nti _, ?_⟩
    refine q_ifb_ne (pc := 63) (tgt := 77) dc_C_takeStep_63 rfl (fun hc63 => ?_) (fun hc63 => ?_)
    · refine g_aload_n (pc := 77) dc_C_takeStep_77 rfl ?_
      refine g_v0 (pc := 78) (M' := mt_C_letRest) dc_C_takeStep_78 mo_C_letRest im_C_letRest se_C_letRest ln_C_130 hO_2.1 rfl rfl (Nat.le_of_ble_eq_true rfl) (Nat.le_of_ble_eq_true rfl) (am_G.mono (w_C_letRest (d := d + 6) hO_2 hR_2 hw hwc hB_2 ho hA_2 hl_2 hl2) ?_)
      intro r h3 hz
      obtain ⟨hz1, w3, g3, hO_3⟩ := hz
      rw [hz1]
      have ga_3 := ga_2.fr g3 (by decide)
      have gb_3 := gb_2.fr g3 (by decide)
      have hR_3 := hR_2.fr g3 (by decide) (by decide)
      have hK_3 := hK_2.fr g3 (by decide) (by decide) (by decide) (by decide)
      have hV_3 := hV_2.fr g3 (by decide) (by decide) (by decide) (by decide)
      have hA_3 := hA_2.fr g3 (by decide)
      have hl_3 := hl_2.fr g3 (by decide)
      have hq_3 := hq_2.fr g3 (by decide) (by decide) (by decide)
      have hp_3 := hp_2.fr g3 (by decide) (by decide)
      have hB_3 := hB_2.fr g3 (by decide)
      have hv_3 := hv_2.fr g3 (by decide)
      have hw__3 := hw__2.fr g3 (by decide) (by decide)
      have hr_3 := hr_2.fr g3 (by decide)
      have hS_3 := hS_2.fr g3 (by decide)
      have G3 := G2.tr (g3.mo (by decide : ∀ x, x ∈ [34] → x ∈ [8, 10, 13, 14, 21, 22, 24, 34, 35, 36, 40, 41, 42, 43, 44, 45, 46, 49, 51, 53, 55, 56, 57, 58]))
      clear hz1 r
      refine ⟨am_nt0, ?_⟩
      refine g_aload_n (pc := 81) dc_C_takeStep_81 rfl ?_
      refine g_iload_n (pc := 82) dc_C_takeStep_82 rfl ?_
      have hcb := ckr_bd (lim := lim) (D := (gT K.ad k7)) hwc hl2
      have hc3 := hwc.2.2.1
      have hc4 := hwc.2.2.2.1
      refine g_v1 (pc := 83) (M' := mt_C_noteAsking) dc_C_takeStep_83 mo_C_noteAsking im_C_noteAsking se_C_noteAsking ln_C_133 hO_3.1 rfl rfl (Nat.le_of_ble_eq_true rfl) (Nat.le_of_ble_eq_true rfl) (am_G.mono (w_C_noteAsking (d := d + 5) hO_3 hq_3 hA_3 hw hwc hB_3 ho hk1 (by omega)) ?_)
      intro r h4 hz
      obtain ⟨hz1, w4, g4, hO_4, hq_4, hA_4⟩ := hz
      rw [hz1]
      have ga_4 := ga_3.fr g4 (by decide)
      have gb_4 := gb_3.fr g4 (by decide)
      have hR_4 := hR_3.fr g4 (by decide) (by decide)
      have hK_4 := hK_3.fr g4 (by decide) (by decide) (by decide) (by decide)
      have hV_4 := hV_3.fr g4 (by decide) (by decide) (by decide) (by decide)
      have hl_4 := hl_3.fr g4 (by decide)
      have hp_4 := hp_3.fr g4 (by decide) (by decide)
      have hB_4 := hB_3.fr g4 (by decide)
      have hv_4 := hv_3.fr g4 (by decide)
      have hw__4 := hw__3.fr g4 (by decide) (by decide)
      have hr_4 := hr_3.fr g4 (by decide)
      have hS_4 := hS_3.fr g4 (by decide)
      have G4 := G3.tr (g4.mo (by decide : ∀ x, x ∈ [34, 45, 46, 49, 53] → x ∈ [8, 10, 13, 14, 21, 22, 24, 34, 35, 36, 40, 41, 42, 43, 44, 45, 46, 49, 51, 53, 55, 56, 57, 58]))
      clear hz1 r
      refine ⟨am_nt0, ?_⟩
      refine g_aload_n (pc := 86) dc_C_takeStep_86 rfl ?_
      refine g_getfield (pc := 87) dc_C_takeStep_87 fl_C_56 hO_4.1 rfl ?_
      refine g_aload_n (pc := 90) dc_C_takeStep_90 rfl ?_
      refine g_getfield (pc := 91) dc_C_takeStep_91 fl_C_46 hO_4.1 rfl ?_
      refine g_v1 (pc := 94) (M' := mt_V_pageAt) dc_C_takeStep_94 mo_V_pageAt im_V_pageAt se_V_pageAt ln_C_136 hv_4.1 rfl rfl (Nat.le_of_ble_eq_true rfl) (Nat.le_of_ble_eq_true rfl) (am_G.mono (c_V_pageAt (d := d + 6) hv_4 hw__4 hP60 hB_4) ?_)
      intro r h9 hz
      obtain ⟨hz0, hz⟩ := hz
      rw [hz0]
      clear hz0 h9
      have hsn9 : (asC lim K c (gT K.ad k7)).sn = c.sn + 1 := rfl
      have hlt5 : wfK (stK (asK lim K c k7) k7 5) := stK_wf (K := (asK lim K c k7)) (k := k7) (v := 5) (by decide) hw
      have hst5 : (stK (asK lim K c k7) k7 5).st k7 = 5 := upf_s
      cases hpn : nbr (pad P) (gT K.ad k7) with
      | none =>
        rw [hpn] at hz
        rw [hz]
        refine ⟨am_ntn, ?_⟩
        have ht : tak lim P Rs Rt K c k7 = (5, stK (asK lim K c k7) k7 5, (asC lim K c (gT K.ad k7))) := by unfold tak; rw [if_pos hc63, hpn]
        refine g_astore_nN (pc := 97) dc_C_takeStep_97 (by decide) ?_
        show am_G X mt_C_takeStep _ 98 [some (.ref 34), some (.int (nI k7)), some (.null)] [] _ _
        refine g_aload_n (pc := 98) dc_C_takeStep_98 rfl ?_
        refine g_getfield (pc := 99) dc_C_takeStep_99 fl_C_22 hO_4.1 rfl ?_
        refine g_iconst (pc := 102) (v := 0) dc_C_takeStep_102 rfl ?_
        refine q_aaloadI (pc := 103) (k := 40) 0 dc_C_takeStep_103 ga_4.1 (by decide) (by decide) rfl ?_
        refine g_iload_n (pc := 104) dc_C_takeStep_104 rfl ?_
        refine g_iconst (pc := 105) (v := 5) dc_C_takeStep_105 rfl ?_
        obtain ⟨z0, z1, z2, z3, m0x, m1x, m2x, m3x, hmPx⟩ := hK_4
        refine q_iastore (pc := 106) k7 dc_C_takeStep_106 m0x.1 (by omega) (by decide) ?_
        have g5 : fr w4 w4 h4 (h4.set 40 (.inl (1, 250, .inl (upd z0 k7 5)))) [40] := fr.st m0x.1 rfl m0x.2
        have m0y : iA w4 (h4.set 40 (.inl (1, 250, .inl (upd z0 k7 5)))) 40 250 (upd z0 k7 5) := ⟨am_se (am_lt m0x.1), m0x.2⟩
        obtain ⟨w5, hw5⟩ : ∃ w9, w9 = w4 := ⟨_, rfl⟩
        generalize (h4.set 40 (.inl (1, 250, .inl (upd z0 k7 5)))) = h5 at g5 m0y ⊢
        have g5 : fr w4 w5 h4 h5 [40] := by rw [hw5]; exact g5
        have m0y : iA w5 h5 40 250 (upd z0 k7 5) := by rw [hw5]; exact m0y
        have hK_5 : mk4 w5 h5 39 (stK (asK lim K c k7) k7 5) := ⟨_, _, _, _, m0y, m1x.fr g5 (by decide), m2x.fr g5 (by decide), m3x.fr g5 (by decide), stK_mkP hmPx⟩
        have hO_5 := hO_4.fr g5 (by decide)
        have ga_5 := ga_4.fr g5 (by decide)
        have gb_5 := gb_4.fr g5 (by decide)
        have hR_5 := hR_4.fr g5 (by decide) (by decide)
        have hV_5 := hV_4.fr g5 (by decide) (by decide) (by decide) (by decide)
        have hA_5 := hA_4.fr g5 (by decide)
        have hl_5 := hl_4.fr g5 (by decide)
        have hq_5 := hq_4.fr g5 (by decide) (by decide) (by decide)
        have hp_5 := hp_4.fr g5 (by decide) (by decide)
        have hB_5 := hB_4.fr g5 (by decide)
        have hv_5 := hv_4.fr g5 (by decide)
        have hw__5 := hw__4.fr g5 (by decide) (by decide)
        have hr_5 := hr_4.fr g5 (by decide)
        have hS_5 := hS_4.fr g5 (by decide)
        have G5 := G4.tr (g5.mo (by decide : ∀ x, x ∈ [40] → x ∈ [8, 10, 13, 14, 21, 22, 24, 34, 35, 36, 40, 41, 42, 43, 44, 45, 46, 49, 51, 53, 55, 56, 57, 58]))
        have hp_5 : pgK w5 h5 (stK (asK lim K c k7) k7 5) V := pgK_st (K := (asK lim K c k7)) (k := k7) (v := 5) hp_5 (by decide)
        have hR_5 : rE w5 h5 35 36 35 36 (stK (asK lim K c k7) k7 5).ad [] := hR_5
        have hA_5 : aTC w5 h5 (stK (asK lim K c k7) k7 5) := hA_5
        refine g_aload_nN (pc := 107) dc_C_takeStep_107 rfl ?_
        refine g_ifnullN (pc := 108) (tgt := 151) dc_C_takeStep_108 rfl ?_
        refine g_aload_nN (pc := 151) dc_C_takeStep_151 rfl ?_
        refine g_ifnullN (pc := 152) (tgt := 210) dc_C_takeStep_152 rfl ?_
        have hk9 : k7 < (stK (asK lim K c k7) k7 5).ad.length := hk1
        refine am_wk (am_le_s (am_le_s (am_le_n am_le_0))) ?_
        have hC9 : cqC w5 h5 st9 lim (stK (asK lim K c k7) k7 5) (asC lim K c (gT K.ad k7)) V := ⟨hO_5, ⟨ga_5, gb_5⟩, hR_5, hK_5, hV_5, hA_5, hl_5, hq_5, hp_5⟩
        refine am_G.mono (t210_C_takeStep (d := d + 7) hC9 hlt5 hk9 hl3 (by rw [hsn9]; have := hwc.2.2.2.2.2.2; omega) rfl) (fun r h9 hz9 => ?_)
        obtain ⟨y1, w9, y2, y3⟩ := hz9
        have F9 := G5.tr (y2.mo (by decide : ∀ x, x ∈ [34, 55, 56, 57, 58] → x ∈ TS))
        have hB9 : eB w9 h9 51 51 := ⟨_, hB_5.fr y2 (by decide)⟩
        have hS9 := hS_5.fr y2 (by decide)
        rw [ht]
        refine ⟨by rw [y1, hst5], w9, F9, ?_, hB9, hS9⟩
        by_cases hif : lim 3 ≤ (asC lim K c (gT K.ad k7)).sn
        · rw [if_pos hif, if_pos hif] at y3
          rw [if_pos hif]
          exact y3
        · rw [if_neg hif, if_neg hif] at y3
          rw [if_neg hif]
          exact y3
      | some j =>
        rw [hpn] at hz
        obtain ⟨pg, hz1, hz2⟩ := hz
        rw [hz1]
        refine ⟨am_ntr _, ?_⟩
        have hj9 : j < P.length := by have := (nbr_s hpn).1; rw [pad_len] at this; exact this
        have haj : (gP P j).1 = (gT K.ad k7) := (pad_g hj9).symm.trans (nbr_s hpn).2
        obtain ⟨p1, p2, p3, p4⟩ := hP.2 j hj9
        have hz5 : gG w4 h4 pg ((gT K.ad k7), (gP P j).2.1, (gP P j).2.2) := by rw [← haj]; exact hz2
        clear hz2 hz1
        refine g_astore_n (pc := 97) dc_C_takeStep_97 (by decide) ?_
        show am_G X mt_C_takeStep _ 98 [some (.ref 34), some (.int (nI k7)), some (.ref pg)] [] _ _
        refine g_aload_n (pc := 98) dc_C_takeStep_98 rfl ?_
        refine g_getfield (pc := 99) dc_C_takeStep_99 fl_C_22 hO_4.1 rfl ?_
        refine g_iconst (pc := 102) (v := 0) dc_C_takeStep_102 rfl ?_
        refine q_aaloadI (pc := 103) (k := 40) 0 dc_C_takeStep_103 ga_4.1 (by decide) (by decide) rfl ?_
        refine g_iload_n (pc := 104) dc_C_takeStep_104 rfl ?_
        refine g_iconst (pc := 105) (v := 5) dc_C_takeStep_105 rfl ?_
        have hg_4 := hz5
        obtain ⟨z0, z1, z2, z3, m0x, m1x, m2x, m3x, hmPx⟩ := hK_4
        refine q_iastore (pc := 106) k7 dc_C_takeStep_106 m0x.1 (by omega) (by decide) ?_
        have g5 : fr w4 w4 h4 (h4.set 40 (.inl (1, 250, .inl (upd z0 k7 5)))) [40] := fr.st m0x.1 rfl m0x.2
        have m0y : iA w4 (h4.set 40 (.inl (1, 250, .inl (upd z0 k7 5)))) 40 250 (upd z0 k7 5) := ⟨am_se (am_lt m0x.1), m0x.2⟩
        obtain ⟨w5, hw5⟩ : ∃ w9, w9 = w4 := ⟨_, rfl⟩
        generalize (h4.set 40 (.inl (1, 250, .inl (upd z0 k7 5)))) = h5 at g5 m0y ⊢
        have g5 : fr w4 w5 h4 h5 [40] := by rw [hw5]; exact g5
        have m0y : iA w5 h5 40 250 (upd z0 k7 5) := by rw [hw5]; exact m0y
        have hK_5 : mk4 w5 h5 39 (stK (asK lim K c k7) k7 5) := ⟨_, _, _, _, m0y, m1x.fr g5 (by decide), m2x.fr g5 (by decide), m3x.fr g5 (by decide), stK_mkP hmPx⟩
        have hO_5 := hO_4.fr g5 (by decide)
        have ga_5 := ga_4.fr g5 (by decide)
        have gb_5 := gb_4.fr g5 (by decide)
        have hR_5 := hR_4.fr g5 (by decide) (by decide)
        have hV_5 := hV_4.fr g5 (by decide) (by decide) (by decide) (by decide)
        have hA_5 := hA_4.fr g5 (by decide)
        have hl_5 := hl_4.fr g5 (by decide)
        have hq_5 := hq_4.fr g5 (by decide) (by decide) (by decide)
        have hp_5 := hp_4.fr g5 (by decide) (by decide)
        have hB_5 := hB_4.fr g5 (by decide)
        have hv_5 := hv_4.fr g5 (by decide)
        have hw__5 := hw__4.fr g5 (by decide) (by decide)
        have hr_5 := hr_4.fr g5 (by decide)
        have hS_5 := hS_4.fr g5 (by decide)
        have hg_5 := hg_4.fr g5 (by decide)
        have G5 := G4.tr (g5.mo (by decide : ∀ x, x ∈ [40] → x ∈ [8, 10, 13, 14, 21, 22, 24, 34, 35, 36, 40, 41, 42, 43, 44, 45, 46, 49, 51, 53, 55, 56, 57, 58]))
        have hp_5 : pgK w5 h5 (stK (asK lim K c k7) k7 5) V := pgK_st (K := (asK lim K c k7)) (k := k7) (v := 5) hp_5 (by decide)
        have hR_5 : rE w5 h5 35 36 35 36 (stK (asK lim K c k7) k7 5).ad [] := hR_5
        have hA_5 : aTC w5 h5 (stK (asK lim K c k7) k7 5) := hA_5
        have hg5 := hg_5
        obtain ⟨pa1, pa2, pq1, pq2, pq3⟩ := hg5
        have pq3x := pq3
        obtain ⟨pg3, pe1, pe2, pe3, pe4⟩ := pq3
        refine g_aload_n (pc := 107) dc_C_takeStep_107 rfl ?_
        refine g_ifnull (pc := 108) dc_C_takeStep_108 ?_
        refine g_aload_n (pc := 111) dc_C_takeStep_111 rfl ?_
        refine g_getfield (pc := 112) dc_C_takeStep_112 fl_C_140 pq1.1 rfl ?_
        refine g_sipush (pc := 115) (v := 200) dc_C_takeStep_115 rfl ?_
        refine q_icmp_ne (pc := 118) (tgt := 151) ((gP P j).2.1) 200 dc_C_takeStep_118 (by omega) (by omega) rfl (fun hc118 => ?_) (fun hc118 => ?_)
        · refine g_aload_n (pc := 151) dc_C_takeStep_151 rfl ?_
          refine g_ifnull (pc := 152) dc_C_takeStep_152 ?_
          refine g_aload_n (pc := 155) dc_C_takeStep_155 rfl ?_
          refine g_iload_n (pc := 156) dc_C_takeStep_156 rfl ?_
          refine g_aload_n (pc := 157) dc_C_takeStep_157 rfl ?_
          refine g_v2 (pc := 158) (M' := mt_C_mayLeadOn) dc_C_takeStep_158 mo_C_mayLeadOn im_C_mayLeadOn se_C_mayLeadOn ln_C_156 hO_5.1 rfl rfl (Nat.le_of_ble_eq_true rfl) (Nat.le_of_ble_eq_true rfl) (am_G.mono (c_C_mayLeadOn (d := d + 9) hO_5 ga_5 hK_5 hl_5 hg_5 p4 hlt5 hk1 hl1) ?_)
          intro r h1 hq
          rw [hq.1, hq.2]
          clear hq h1 r
          refine ⟨am_nti _, ?_⟩
          refine q_ifb_eq (pc := 161) (tgt := 210) dc_C_takeStep_161 rfl (fun hc161 => ?_) (fun hc161 => ?_)
          · have ht : tak lim P Rs Rt K c k7 = (5, stK (asK lim K c k7) k7 5, (asC lim K c (gT K.ad k7))) := by unfold tak; rw [if_pos hc63, hpn]; dsimp only; rw [if_neg hc118, if_neg (show ¬ (300 ≤ (gP P j).2.1 ∧ (gP P j).2.1 < 400 ∧ K.ch k7 < lim 1) from of_decide_eq_false hc161)]
            have hk9 : k7 < (stK (asK lim K c k7) k7 5).ad.length := hk1
            refine am_wk (am_le_s (am_le_s (am_le_n am_le_0))) ?_
            have hC9 : cqC w5 h5 st9 lim (stK (asK lim K c k7) k7 5) (asC lim K c (gT K.ad k7)) V := ⟨hO_5, ⟨ga_5, gb_5⟩, hR_5, hK_5, hV_5, hA_5, hl_5, hq_5, hp_5⟩
            refine am_G.mono (t210_C_takeStep (d := d + 7) hC9 hlt5 hk9 hl3 (by rw [hsn9]; have := hwc.2.2.2.2.2.2; omega) rfl) (fun r h9 hz9 => ?_)
            obtain ⟨y1, w9, y2, y3⟩ := hz9
            have F9 := G5.tr (y2.mo (by decide : ∀ x, x ∈ [34, 55, 56, 57, 58] → x ∈ TS))
            have hB9 : eB w9 h9 51 51 := ⟨_, hB_5.fr y2 (by decide)⟩
            have hS9 := hS_5.fr y2 (by decide)
            rw [ht]
            refine ⟨by rw [y1, hst5], w9, F9, ?_, hB9, hS9⟩
            by_cases hif : lim 3 ≤ (asC lim K c (gT K.ad k7)).sn
            · rw [if_pos hif, if_pos hif] at y3
              rw [if_pos hif]
              exact y3
            · rw [if_neg hif, if_neg hif] at y3
              rw [if_neg hif]
              exact y3
          · refine g_aload_n (pc := 164) dc_C_takeStep_164 rfl ?_
            refine g_getfield (pc := 165) dc_C_takeStep_165 fl_C_60 hO_5.1 rfl ?_
            refine g_aload_n (pc := 168) dc_C_takeStep_168 rfl ?_
            refine g_getfield (pc := 169) dc_C_takeStep_169 fl_C_143 pq1.1 rfl ?_
            refine g_iconst (pc := 172) (v := 0) dc_C_takeStep_172 rfl ?_
            refine g_aload_n (pc := 173) dc_C_takeStep_173 rfl ?_
            refine g_getfield (pc := 174) dc_C_takeStep_174 fl_C_143 pq1.1 rfl ?_
            refine g_bipush (pc := 177) (v := 10) dc_C_takeStep_177 rfl ?_
            refine g_iconst (pc := 179) (v := 0) dc_C_takeStep_179 rfl ?_
            refine g_aload_n (pc := 180) dc_C_takeStep_180 rfl ?_
            refine g_getfield (pc := 181) dc_C_takeStep_181 fl_C_143 pq1.1 rfl ?_
            refine g_alen (pc := 184) dc_C_takeStep_184 pe1.1 (by decide) ?_
            refine g_s4 (pc := 185) (M' := mt_W_indexOf) dc_C_takeStep_185 mo_W_indexOf st_W_indexOf ln_C_160 (Nat.le_of_ble_eq_true rfl) (Nat.le_of_ble_eq_true rfl) (am_G.mono (t0_W_indexOf (v := 10) (f := 0) (t := (gP P j).2.2.length) pq3x.tO.1.tt (Nat.zero_le _) (Nat.le_refl _)) ?_)
            intro r h1 hq
            rw [hq.1, hq.2]
            clear hq h1 r
            refine ⟨am_nti _, ?_⟩
            have hfb := fw_bd (p := nev 10) (L := (gP P j).2.2) (f := 0) (t := (gP P j).2.2.length) (by omega)
            refine g_aload_n (pc := 188) dc_C_takeStep_188 rfl ?_
            refine g_getfield (pc := 189) dc_C_takeStep_189 fl_C_46 hO_5.1 rfl ?_
            obtain ⟨Lsx, hSx⟩ := hS_5
            obtain ⟨R0x, hR0x⟩ := hSx.2.2.2.1
            refine g_v4 (pc := 192) (M' := mt_A_resolve) dc_C_takeStep_192 mo_A_resolve im_A_resolve se_A_resolve ln_C_164 hSx.2.1.1.1 rfl rfl (Nat.le_of_ble_eq_true rfl) (Nat.le_of_ble_eq_true rfl) (am_G.mono (wD_A_resolve0 (d := d + 2) (L := (gP P j).2.2) (D := (gT K.ad k7)) (f := 0) (t := fw (nev 10) (gP P j).2.2 0 (gP P j).2.2.length) (j := 51) (bb := 51) (q := 99) (c := pa2) hSx.2.1 hR0x hB_5 (by decide) ho pq3x.tO (by decide) (by omega) (by omega) (by omega)) ?_)
            intro r h6 hz
            obtain ⟨w6, g6, hz2, hz3⟩ := hz
            have hld0 : mrr (gP P j).2.2 0 (fw (nev 10) (gP P j).2.2 0 (gP P j).2.2.length) (some (gT K.ad k7)) = ldl (gP P j).2.2 (gT K.ad k7) := rfl
            rw [hld0] at hz3
            have hO_6 := hO_5.fr g6 (by decide)
            have ga_6 := ga_5.fr g6 (by decide)
            have gb_6 := gb_5.fr g6 (by decide)
            have hR_6 := hR_5.fr g6 (by decide) (by decide)
            have hK_6 := hK_5.fr g6 (by decide) (by decide) (by decide) (by decide)
            have hV_6 := hV_5.fr g6 (by decide) (by decide) (by decide) (by decide)
            have hA_6 := hA_5.fr g6 (by decide)
            have hl_6 := hl_5.fr g6 (by decide)
            have hq_6 := hq_5.fr g6 (by decide) (by decide) (by decide)
            have hp_6 := hp_5.fr g6 (by decide) (by decide)
            have hB_6 := hB_5.fr g6 (by decide)
            have hv_6 := hv_5.fr g6 (by decide)
            have hw__6 := hw__5.fr g6 (by decide) (by decide)
            have hr_6 := hr_5.fr g6 (by decide)
            have hg_6 := hg_5.fr g6 (by decide)
            have G6 := G5.tr (g6.mo (by decide : ∀ x, x ∈ [8, 10] → x ∈ [8, 10, 13, 14, 21, 22, 24, 34, 35, 36, 40, 41, 42, 43, 44, 45, 46, 49, 51, 53, 55, 56, 57, 58]))
            have hSp : eS w6 h6 ∧ eB w6 h6 22 22 ∧ eB w6 h6 24 24 ∧ rE w6 h6 13 14 13 14 Lsx [] ∧ pR w6 h6 := ⟨hSx.2.2.1.fr g6 (by decide), hSx.2.2.2.2.1.fr g6 (by decide), hSx.2.2.2.2.2.1.fr g6 (by decide), hSx.2.2.2.2.2.2.fr g6 (by decide) (by decide), cO.fr hSx.1 g6 (by decide)⟩
            cases hldn : ldl (gP P j).2.2 (gT K.ad k7) with
            | none =>
              rw [hldn] at hz3
              rw [hz3.1]
              refine ⟨am_nti _, ?_⟩
              have hS_6 : rdC w6 h6 := ⟨Lsx, hSp.2.2.2.2, hz2, hSp.1, ⟨_, hz3.2⟩, hSp.2.1, hSp.2.2.1, hSp.2.2.2.1⟩
              refine g_if_eq (pc := 195) (tgt := 210) dc_C_takeStep_195 rfl (fun _ => ?_) (fun hc => absurd hc (by decide))
              have ht : tak lim P Rs Rt K c k7 = (5, stK (asK lim K c k7) k7 5, (asC lim K c (gT K.ad k7))) := by unfold tak; rw [if_pos hc63, hpn]; dsimp only; rw [if_neg hc118, if_pos (show 300 ≤ (gP P j).2.1 ∧ (gP P j).2.1 < 400 ∧ K.ch k7 < lim 1 from of_decide_eq_true hc161), hldn]
              have hk9 : k7 < (stK (asK lim K c k7) k7 5).ad.length := hk1
              refine am_wk (am_le_s (am_le_s (am_le_n am_le_0))) ?_
              have hC9 : cqC w6 h6 st9 lim (stK (asK lim K c k7) k7 5) (asC lim K c (gT K.ad k7)) V := ⟨hO_6, ⟨ga_6, gb_6⟩, hR_6, hK_6, hV_6, hA_6, hl_6, hq_6, hp_6⟩
              refine am_G.mono (t210_C_takeStep (d := d + 7) hC9 hlt5 hk9 hl3 (by rw [hsn9]; have := hwc.2.2.2.2.2.2; omega) rfl) (fun r h9 hz9 => ?_)
              obtain ⟨y1, w9, y2, y3⟩ := hz9
              have F9 := G6.tr (y2.mo (by decide : ∀ x, x ∈ [34, 55, 56, 57, 58] → x ∈ TS))
              have hB9 : eB w9 h9 51 51 := ⟨_, hB_6.fr y2 (by decide)⟩
              have hS9 := hS_6.fr y2 (by decide)
              rw [ht]
              refine ⟨by rw [y1, hst5], w9, F9, ?_, hB9, hS9⟩
              by_cases hif : lim 3 ≤ (asC lim K c (gT K.ad k7)).sn
              · rw [if_pos hif, if_pos hif] at y3
                rw [if_pos hif]
                exact y3
              · rw [if_neg hif, if_neg hif] at y3
                rw [if_neg hif]
                exact y3
            | some E =>
              rw [hldn] at hz3
              rw [hz3.1]
              refine ⟨am_nti _, ?_⟩
              have hS_6 : rdC w6 h6 := ⟨Lsx, hSp.2.2.2.2, hz2, hSp.1, ⟨_, hz3.2⟩, hSp.2.1, hSp.2.2.1, hSp.2.2.2.1⟩
              have hoE : okD E := ldl_ok p2 ho hldn
              have hch : K.ch k7 < lim 1 := (of_decide_eq_true hc161).2.2
              have h7h := hz2.1.1
              have hz8 := hz3.2
              refine g_if_eq (pc := 195) (tgt := 210) dc_C_takeStep_195 rfl (fun hc => absurd hc (by decide)) (fun _ => ?_)
              refine g_aload_n (pc := 198) dc_C_takeStep_198 rfl ?_
              refine g_iload_n (pc := 199) dc_C_takeStep_199 rfl ?_
              refine g_aload_n (pc := 200) dc_C_takeStep_200 rfl ?_
              refine g_getfield (pc := 201) dc_C_takeStep_201 fl_C_60 hO_6.1 rfl ?_
              refine g_getfield (pc := 204) dc_C_takeStep_204 fl_C_170 h7h rfl ?_
              refine g_v2 (pc := 207) (M' := mt_C_leadOn) dc_C_takeStep_207 mo_C_leadOn im_C_leadOn se_C_leadOn ln_C_173 hO_6.1 rfl rfl (Nat.le_of_ble_eq_true rfl) (Nat.le_of_ble_eq_true rfl) (am_G.mono (w_C_leadOn (d := d + 4) hl0 hl1 hO_6 ga_6 hR_6 hK_6 hA_6 hl_6 hz8 hoE hlt5 hli hwl hk1 hch) ?_)
              intro r h7 hz
              obtain ⟨hz1, w7, g7, hR_7, hK_7, hA_7, hwg, hlg, hwlg⟩ := hz
              rw [hz1]
              have hO_7 := hO_6.fr g7 (by decide)
              have ga_7 := ga_6.fr g7 (by decide)
              have gb_7 := gb_6.fr g7 (by decide)
              have hV_7 := hV_6.fr g7 (by decide) (by decide) (by decide) (by decide)
              have hl_7 := hl_6.fr g7 (by decide)
              have hq_7 := hq_6.fr g7 (by decide) (by decide) (by decide)
              have hp_7 := hp_6.fr g7 (by decide) (by decide)
              have hB_7 := hB_6.fr g7 (by decide)
              have hv_7 := hv_6.fr g7 (by decide)
              have hw__7 := hw__6.fr g7 (by decide) (by decide)
              have hr_7 := hr_6.fr g7 (by decide)
              have hS_7 := hS_6.fr g7 (by decide)
              have hg_7 := hg_6.fr g7 (by decide)
              have G7 := G6.tr (g7.mo (by decide : ∀ x, x ∈ [35, 36, 40, 41, 42, 43, 53] → x ∈ [8, 10, 13, 14, 21, 22, 24, 34, 35, 36, 40, 41, 42, 43, 44, 45, 46, 49, 51, 53, 55, 56, 57, 58]))
              clear hz1 r
              refine ⟨am_nt0, ?_⟩
              have ek : (mee lim E (K.dp k7) (K.ch k7 + 1) (ldK (stK (asK lim K c k7) k7 5) k7 E)) = mee lim E (K.dp k7) (K.ch k7 + 1) (ldK (asK lim K c k7) k7 E) := by show mee lim E (K.dp k7) (K.ch k7 + 1) (K.ad, upf (upf K.st k7 5) k7 3, K.dp, K.ch, upf K.ld k7 (some E), K.tx, (asK lim K c k7).at) = mee lim E (K.dp k7) (K.ch k7 + 1) (K.ad, upf K.st k7 3, K.dp, K.ch, upf K.ld k7 (some E), K.tx, (asK lim K c k7).at); rw [upf_up]
              have hmk := mee_k (lim := lim) (D := E) (dp := K.dp k7) (ch := K.ch k7 + 1) (k := k7) (K := ldK (stK (asK lim K c k7) k7 5) k7 E) hk1 (by show ¬ upf (upf K.st k7 5) k7 3 k7 = 1; rw [upf_s]; decide)
              have hst3 : (mee lim E (K.dp k7) (K.ch k7 + 1) (ldK (stK (asK lim K c k7) k7 5) k7 E)).st k7 = 3 := hmk.2.1.trans (by show upf (upf K.st k7 5) k7 3 k7 = 3; rw [upf_s])
              have hk9 : k7 < (mee lim E (K.dp k7) (K.ch k7 + 1) (ldK (stK (asK lim K c k7) k7 5) k7 E)).ad.length := hmk.1
              have hp_7 : pgK w7 h7 (mee lim E (K.dp k7) (K.ch k7 + 1) (ldK (stK (asK lim K c k7) k7 5) k7 E)) V := pgK_met (pgK_ldk (K := stK (asK lim K c k7) k7 5) hp_7)
              have ht : tak lim P Rs Rt K c k7 = (3, (mee lim E (K.dp k7) (K.ch k7 + 1) (ldK (stK (asK lim K c k7) k7 5) k7 E)), (asC lim K c (gT K.ad k7))) := by rw [ek]; unfold tak; rw [if_pos hc63, hpn]; dsimp only; rw [if_neg hc118, if_pos (show 300 ≤ (gP P j).2.1 ∧ (gP P j).2.1 < 400 ∧ K.ch k7 < lim 1 from of_decide_eq_true hc161), hldn]
              refine am_wk (am_le_s (am_le_s (am_le_n am_le_0))) ?_
              have hC9 : cqC w7 h7 st9 lim (mee lim E (K.dp k7) (K.ch k7 + 1) (ldK (stK (asK lim K c k7) k7 5) k7 E)) (asC lim K c (gT K.ad k7)) V := ⟨hO_7, ⟨ga_7, gb_7⟩, hR_7, hK_7, hV_7, hA_7, hl_7, hq_7, hp_7⟩
              refine am_G.mono (t210_C_takeStep (d := d + 7) hC9 hwg hk9 hl3 (by rw [hsn9]; have := hwc.2.2.2.2.2.2; omega) rfl) (fun r h9 hz9 => ?_)
              obtain ⟨y1, w9, y2, y3⟩ := hz9
              have F9 := G7.tr (y2.mo (by decide : ∀ x, x ∈ [34, 55, 56, 57, 58] → x ∈ TS))
              have hB9 : eB w9 h9 51 51 := ⟨_, hB_7.fr y2 (by decide)⟩
              have hS9 := hS_7.fr y2 (by decide)
              rw [ht]
              refine ⟨by rw [y1, hst3], w9, F9, ?_, hB9, hS9⟩
              by_cases hif : lim 3 ≤ (asC lim K c (gT K.ad k7)).sn
              · rw [if_pos hif, if_pos hif] at y3
                rw [if_pos hif]
                exact y3
              · rw [if_neg hif, if_neg hif] at y3
                rw [if_neg hif]
                exact y3
        · refine g_aload_n (pc := 121) dc_C_takeStep_121 rfl ?_
          refine g_getfield (pc := 122) dc_C_takeStep_122 fl_C_64 hO_5.1 rfl ?_
          refine g_aload_n (pc := 125) dc_C_takeStep_125 rfl ?_
          refine g_getfield (pc := 126) dc_C_takeStep_126 fl_C_143 pq1.1 rfl ?_
          refine g_iconst (pc := 129) (v := 0) dc_C_takeStep_129 rfl ?_
          refine g_aload_n (pc := 130) dc_C_takeStep_130 rfl ?_
          refine g_getfield (pc := 131) dc_C_takeStep_131 fl_C_143 pq1.1 rfl ?_
          refine g_alen (pc := 134) dc_C_takeStep_134 pe1.1 (by decide) ?_
          refine g_aload_n (pc := 135) dc_C_takeStep_135 rfl ?_
          refine g_getfield (pc := 136) dc_C_takeStep_136 fl_C_46 hO_5.1 rfl ?_
          obtain ⟨Lsx, hSx⟩ := hS_5
          refine g_v4 (pc := 139) (M' := mt_P_readLinks) dc_C_takeStep_139 mo_P_readLinks im_P_readLinks se_P_readLinks ln_C_146 hSx.1.1 rfl rfl (Nat.le_of_ble_eq_true rfl) (Nat.le_of_ble_eq_true rfl) (am_G.mono (w_P_readLinks0 (d := d) (L := (gP P j).2.2) (D := (gT K.ad k7)) (c := pa2) (q := 99) (ja := 51) (aa := 51) (by decide) (by decide) ho p3 hSx pq3x.tO hB_5) ?_)
          intro r h6 hz
          obtain ⟨hz1, w6, g6, hS_6⟩ := hz
          rw [hz1]
          have hO_6 := hO_5.fr g6 (by decide)
          have ga_6 := ga_5.fr g6 (by decide)
          have gb_6 := gb_5.fr g6 (by decide)
          have hR_6 := hR_5.fr g6 (by decide) (by decide)
          have hK_6 := hK_5.fr g6 (by decide) (by decide) (by decide) (by decide)
          have hV_6 := hV_5.fr g6 (by decide) (by decide) (by decide) (by decide)
          have hA_6 := hA_5.fr g6 (by decide)
          have hl_6 := hl_5.fr g6 (by decide)
          have hq_6 := hq_5.fr g6 (by decide) (by decide) (by decide)
          have hp_6 := hp_5.fr g6 (by decide) (by decide)
          have hB_6 := hB_5.fr g6 (by decide)
          have hv_6 := hv_5.fr g6 (by decide)
          have hw__6 := hw__5.fr g6 (by decide) (by decide)
          have hr_6 := hr_5.fr g6 (by decide)
          have hg_6 := hg_5.fr g6 (by decide)
          have G6 := G5.tr (g6.mo (by decide : ∀ x, x ∈ [8, 10, 13, 14, 21, 22, 24] → x ∈ [8, 10, 13, 14, 21, 22, 24, 34, 35, 36, 40, 41, 42, 43, 44, 45, 46, 49, 51, 53, 55, 56, 57, 58]))
          clear hz1 r
          have hS_6x := hS_6
          have hS_6 : rdC w6 h6 := ⟨_, hS_6x⟩
          refine ⟨am_nt0, ?_⟩
          refine g_aload_n (pc := 142) dc_C_takeStep_142 rfl ?_
          refine g_iload_n (pc := 143) dc_C_takeStep_143 rfl ?_
          refine g_aload_n (pc := 144) dc_C_takeStep_144 rfl ?_
          have hVk : k7 < V.ad.length → ¬ V.st k7 = 2 := fun h9 h8 => by have := hsv.2 k7 h9 (by rw [h8]; decide); rw [hk2, h8] at this; cases this
          refine g_v2 (pc := 145) (M' := mt_C_keepPage) dc_C_takeStep_145 mo_C_keepPage im_C_keepPage se_C_keepPage ln_C_152 hO_6.1 rfl rfl (Nat.le_of_ble_eq_true rfl) (Nat.le_of_ble_eq_true rfl) (am_G.mono (w_C_keepPage (d := d + 4) (V := V) (L := (gP P j).2.2) (pgL_ok p2 ho) lkf_len hl0 hl1 hO_6 ga_6 hR_6 hK_6 hA_6 hl_6 hS_6x.2.2.2.2.2.2 hS_6x.1 hp_6 (by have := hg_6; rw [hc118] at this; exact this) hlt5 hli hwl hk1 hVk) ?_)
          intro r h7 hz
          obtain ⟨hz1, w7, g7, hR_7, hK_7, hA_7, hp_7, hwg, hlg, hwlg⟩ := hz
          rw [hz1]
          have hO_7 := hO_6.fr g7 (by decide)
          have ga_7 := ga_6.fr g7 (by decide)
          have gb_7 := gb_6.fr g7 (by decide)
          have hV_7 := hV_6.fr g7 (by decide) (by decide) (by decide) (by decide)
          have hl_7 := hl_6.fr g7 (by decide)
          have hq_7 := hq_6.fr g7 (by decide) (by decide) (by decide)
          have hB_7 := hB_6.fr g7 (by decide)
          have hv_7 := hv_6.fr g7 (by decide)
          have hw__7 := hw__6.fr g7 (by decide) (by decide)
          have hr_7 := hr_6.fr g7 (by decide)
          have hS_7 := hS_6.fr g7 (by decide)
          have hg_7 := hg_6.fr g7 (by decide)
          have G7 := G6.tr (g7.mo (by decide : ∀ x, x ∈ [35, 36, 40, 41, 42, 43, 44, 53] → x ∈ [8, 10, 13, 14, 21, 22, 24, 34, 35, 36, 40, 41, 42, 43, 44, 45, 46, 49, 51, 53, 55, 56, 57, 58]))
          clear hz1 r
          refine ⟨am_nt0, ?_⟩
          refine g_goto (pc := 148) (tgt := 210) dc_C_takeStep_148 rfl ?_
          have ek : (lkf lim (K.dp k7 + 1) (pgL (gP P j).2.2 (gT K.ad k7)) (txK (stK (asK lim K c k7) k7 5) k7 (gP P j).2.2)) = lkf lim (K.dp k7 + 1) (pgL (gP P j).2.2 (gT K.ad k7)) (txK (asK lim K c k7) k7 (gP P j).2.2) := by show lkf lim (K.dp k7 + 1) (pgL (gP P j).2.2 (gT K.ad k7)) (K.ad, upf (upf K.st k7 5) k7 2, K.dp, K.ch, K.ld, upf K.tx k7 (gP P j).2.2, (asK lim K c k7).at) = lkf lim (K.dp k7 + 1) (pgL (gP P j).2.2 (gT K.ad k7)) (K.ad, upf K.st k7 2, K.dp, K.ch, K.ld, upf K.tx k7 (gP P j).2.2, (asK lim K c k7).at); rw [upf_up]
          have hR_7 := hR_7
          have hlk := lkf_k (lim := lim) (dp := K.dp k7 + 1) (k := k7) (pgL (gP P j).2.2 (gT K.ad k7)) (txK (stK (asK lim K c k7) k7 5) k7 (gP P j).2.2) hk1 (by show ¬ upf (upf K.st k7 5) k7 2 k7 = 1; rw [upf_s]; decide)
          have hst2 : (lkf lim (K.dp k7 + 1) (pgL (gP P j).2.2 (gT K.ad k7)) (txK (stK (asK lim K c k7) k7 5) k7 (gP P j).2.2)).st k7 = 2 := hlk.2.trans (by show upf (upf K.st k7 5) k7 2 k7 = 2; rw [upf_s])
          have hk9 : k7 < (lkf lim (K.dp k7 + 1) (pgL (gP P j).2.2 (gT K.ad k7)) (txK (stK (asK lim K c k7) k7 5) k7 (gP P j).2.2)).ad.length := hlk.1
          have ht : tak lim P Rs Rt K c k7 = (2, (lkf lim (K.dp k7 + 1) (pgL (gP P j).2.2 (gT K.ad k7)) (txK (stK (asK lim K c k7) k7 5) k7 (gP P j).2.2)), (asC lim K c (gT K.ad k7))) := by rw [ek]; unfold tak; rw [if_pos hc63, hpn]; dsimp only; rw [if_pos hc118]
          refine am_wk (am_le_s (am_le_s (am_le_n am_le_0))) ?_
          have hC9 : cqC w7 h7 st9 lim (lkf lim (K.dp k7 + 1) (pgL (gP P j).2.2 (gT K.ad k7)) (txK (stK (asK lim K c k7) k7 5) k7 (gP P j).2.2)) (asC lim K c (gT K.ad k7)) V := ⟨hO_7, ⟨ga_7, gb_7⟩, hR_7, hK_7, hV_7, hA_7, hl_7, hq_7, hp_7⟩
          refine am_G.mono (t210_C_takeStep (d := d + 7) hC9 hwg hk9 hl3 (by rw [hsn9]; have := hwc.2.2.2.2.2.2; omega) rfl) (fun r h9 hz9 => ?_)
          obtain ⟨y1, w9, y2, y3⟩ := hz9
          have F9 := G7.tr (y2.mo (by decide : ∀ x, x ∈ [34, 55, 56, 57, 58] → x ∈ TS))
          have hB9 : eB w9 h9 51 51 := ⟨_, hB_7.fr y2 (by decide)⟩
          have hS9 := hS_7.fr y2 (by decide)
          rw [ht]
          refine ⟨by rw [y1, hst2], w9, F9, ?_, hB9, hS9⟩
          by_cases hif : lim 3 ≤ (asC lim K c (gT K.ad k7)).sn
          · rw [if_pos hif, if_pos hif] at y3
            rw [if_pos hif]
            exact y3
          · rw [if_neg hif, if_neg hif] at y3
            rw [if_neg hif]
            exact y3
    · refine g_aload_n (pc := 66) dc_C_takeStep_66 rfl ?_
      refine g_getfield (pc := 67) dc_C_takeStep_67 fl_C_22 hO_2.1 rfl ?_
      refine g_iconst (pc := 70) (v := 0) dc_C_takeStep_70 rfl ?_
      refine q_aaloadI (pc := 71) (k := 40) 0 dc_C_takeStep_71 ga_2.1 (by decide) (by decide) rfl ?_
      refine g_iload_n (pc := 72) dc_C_takeStep_72 rfl ?_
      refine g_iconst (pc := 73) (v := 4) dc_C_takeStep_73 rfl ?_
      obtain ⟨z0, z1, z2, z3, m0x, m1x, m2x, m3x, hmPx⟩ := hK_2
      refine q_iastore (pc := 74) k7 dc_C_takeStep_74 m0x.1 (by omega) (by decide) ?_
      have g3 : fr w2 w2 h2 (h2.set 40 (.inl (1, 250, .inl (upd z0 k7 4)))) [40] := fr.st m0x.1 rfl m0x.2
      have m0y : iA w2 (h2.set 40 (.inl (1, 250, .inl (upd z0 k7 4)))) 40 250 (upd z0 k7 4) := ⟨am_se (am_lt m0x.1), m0x.2⟩
      obtain ⟨w3, hw3⟩ : ∃ w9, w9 = w2 := ⟨_, rfl⟩
      generalize (h2.set 40 (.inl (1, 250, .inl (upd z0 k7 4)))) = h3 at g3 m0y ⊢
      have g3 : fr w2 w3 h2 h3 [40] := by rw [hw3]; exact g3
      have m0y : iA w3 h3 40 250 (upd z0 k7 4) := by rw [hw3]; exact m0y
      have hK_3 : mk4 w3 h3 39 (stK K k7 4) := ⟨_, _, _, _, m0y, m1x.fr g3 (by decide), m2x.fr g3 (by decide), m3x.fr g3 (by decide), stK_mkP hmPx⟩
      have hO_3 := hO_2.fr g3 (by decide)
      have ga_3 := ga_2.fr g3 (by decide)
      have gb_3 := gb_2.fr g3 (by decide)
      have hR_3 := hR_2.fr g3 (by decide) (by decide)
      have hV_3 := hV_2.fr g3 (by decide) (by decide) (by decide) (by decide)
      have hA_3 := hA_2.fr g3 (by decide)
      have hl_3 := hl_2.fr g3 (by decide)
      have hq_3 := hq_2.fr g3 (by decide) (by decide) (by decide)
      have hp_3 := hp_2.fr g3 (by decide) (by decide)
      have hB_3 := hB_2.fr g3 (by decide)
      have hv_3 := hv_2.fr g3 (by decide)
      have hw__3 := hw__2.fr g3 (by decide) (by decide)
      have hr_3 := hr_2.fr g3 (by decide)
      have hS_3 := hS_2.fr g3 (by decide)
      have G3 := G2.tr (g3.mo (by decide : ∀ x, x ∈ [40] → x ∈ [8, 10, 13, 14, 21, 22, 24, 34, 35, 36, 40, 41, 42, 43, 44, 45, 46, 49, 51, 53, 55, 56, 57, 58]))
      refine g_iconst (pc := 75) (v := 4) dc_C_takeStep_75 rfl ?_
      have ht : tak lim P Rs Rt K c k7 = (4, stK K k7 4, c) := by unfold tak; rw [if_neg (by rw [hc63]; decide)]
      rw [ht, if_neg (show ¬ lim 3 ≤ c.sn by omega)]
      exact g_ireturn dc_C_takeStep_76 rfl ⟨rfl, w3, G3, ⟨hO_3, ⟨ga_3, gb_3⟩, hR_3, hK_3, hV_3, hA_3, hl_3, hq_3, pgK_st hp_3 (by decide)⟩, ⟨_, hB_3⟩, hS_3⟩
  · rw [hc7]
    refine g_iconst (pc := 10) (v := (-1)) dc_C_takeStep_10 rfl ?_
    have hst : (stp lim P Rs Rt (K, c, V)) = none := by unfold stp; dsimp only; rw [← hoo, hc7]
    rw [hst]
    exact g_ireturn dc_C_takeStep_11 rfl ⟨rfl, rfl⟩
end D7S
