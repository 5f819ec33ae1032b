/-! ===== the class finds documents ===== -/
abbrev TF : List Nat := [8, 10, 13, 14, 21, 22, 24, 59, 60, 61, 62, 63, 64, 65, 66, 67, 68, 71, 73, 74, 75, 76, 77]
def lA (w : Gw) (h : List va_E) (i n : Nat) (g : Nat → Int64) : Prop := cO w h i i (.inl (2, n, .inr (.inl g)))
def aO (w : Gw) (h : List va_E) (n : Nat) : Prop := cO w h 77 77 (.inr (9, [.int (nI n), .ref 78, .ref 79, .ref 80]))
/-- the documents found last, out of what was known then, with that many rounds -/
def dcX (w : Gw) (h : List va_E) (K : Kn) (p : Nat) : Prop := dO w h (dcs K).length ∧ dpC w h K (dcs K) ∧ (∃ gn, iA w h 61 250 gn ∧ arN gn (dcs K)) ∧ (∃ gr, iA w h 62 250 gr ∧ ∀ e, e < (dcs K).length → gr e = nI (rkS (ldd K) (dcs K).length p e)) ∧ lsP w h (dcs K).length (dcs K).length (ldd K) ∧ (∃ gc, iA w h 65 250 gc ∧ ∀ j, j < (dcs K).length → gc j = nI (cnL K (srtK K K.ad.length) (K.tx (gN (dcs K) j)) - 1)) ∧ ixW w h K (dcs K)
/-- what else the object of documents has -/
def dcR (w : Gw) (h : List va_E) : Prop := eB w h 71 71 ∧ (∃ g, iA w h 74 250 g) ∧ (∃ g, iA w h 75 250 g) ∧ ∃ g, iA w h 76 250 g
/-- the hits: documents and scores -/
def anC (w : Gw) (h : List va_E) (H : List (Nat × Nat)) : Prop := aO w h H.length ∧ (∃ gh, iA w h 78 250 gh ∧ ∀ j, j < H.length → gh j = nI (H.getD j (0, 0)).1) ∧ (∃ gs, lA w h 79 250 gs ∧ ∀ j, j < H.length → gs j = lN (H.getD j (0, 0)).2) ∧ ∃ T, rE w h 80 81 80 81 T []
/-- how many rounds, if it may find -/
def fnd (st9 : Bool) (K : Kn) (p : Int32) : Option Nat := if st9 = true ∧ nxw K = none then ixo p 51 else none
section G5S
variable {X : am_X} {d n k j pn : Nat} {w w1 : Gw} {h h1 : List va_E} {I : List Nat} {K V K0 : Kn} {p : Int32} {st9 : Bool} {c : Cw} {lim : Nat → Nat} {go : Nat → Int32} {H : List (Nat × Nat)} {Q : Option Value → List va_E → Prop}
theorem lA.fr {i : Nat} {g : Nat → Int64} (z : lA w h i n g) (f : fr w w1 h h1 I) (hi : ¬ i ∈ I) : lA w1 h1 i n g := cO.fr z f hi
theorem aO.fr (z : aO w h n) (f : fr w w1 h h1 I) (hi : ¬ 77 ∈ I) : aO w1 h1 n := cO.fr z f hi
theorem dcX.fr (z : dcX w h K pn) (f : fr w w1 h h1 I) (hi : ∀ x, x ∈ [59, 60, 61, 62, 63, 64, 65, 66, 67, 68, 73, 99] → ¬ x ∈ I) : dcX w1 h1 K pn := by
  obtain ⟨a1, a2, ⟨gn, a3, a3x⟩, ⟨gr, a4, a4x⟩, a5, ⟨gc, a6, a6x⟩, a7⟩ := z
  exact ⟨a1.fr f (hi 59 (by decide)), a2.fr f (hi 60 (by decide)) (hi 99 (by decide)), ⟨gn, a3.fr f (hi 61 (by decide)), a3x⟩, ⟨gr, a4.fr f (hi 62 (by decide)), a4x⟩, a5.fr f (hi 63 (by decide)) (hi 73 (by decide)) (hi 64 (by decide)), ⟨gc, a6.fr f (hi 65 (by decide)), a6x⟩, a7.fr f (hi 67 (by decide)) (hi 68 (by decide)) (hi 66 (by decide))⟩
theorem dcR.fr (z : dcR w h) (f : fr w w1 h h1 I) (hi : ∀ x, x ∈ [71, 74, 75, 76] → ¬ x ∈ I) : dcR w1 h1 := by
  obtain ⟨a1, ⟨g2, a2⟩, ⟨g3, a3⟩, g4, a4⟩ := z
  exact ⟨a1.fr f (hi 71 (by decide)), ⟨g2, a2.fr f (hi 74 (by decide))⟩, ⟨g3, a3.fr f (hi 75 (by decide))⟩, g4, a4.fr f (hi 76 (by decide))⟩
theorem anC.fr (z : anC w h H) (f : fr w w1 h h1 I) (hi : ∀ x, x ∈ [77, 78, 79, 80, 81] → ¬ x ∈ I) : anC w1 h1 H := by
  obtain ⟨a1, ⟨g2, a2, a2x⟩, ⟨g3, a3, a3x⟩, T, a4⟩ := z
  exact ⟨a1.fr f (hi 77 (by decide)), ⟨g2, a2.fr f (hi 78 (by decide)), a2x⟩, ⟨g3, a3.fr f (hi 79 (by decide)), a3x⟩, T, a4.fr f (hi 80 (by decide)) (hi 81 (by decide))⟩
theorem lsP_C (hw : wfK K) (z : lsP w h (dcs K).length (dcs K).length (ldd K)) : lsC w h (dcs K).length (ldd K) := by
  obtain ⟨gt, gl, gb, a1, a2, a3, a4⟩ := z
  exact ⟨gt, gl, a1, a2, fun dd hdd => ⟨(a4.1 dd hdd).1, (a4.1 dd hdd).2, (ldd_inv hw).2.2, (ldd_inv hw).1, fun x hx => ((ldd_inv hw).2.1 x hx).1⟩⟩
theorem nwx (hn : nxw K = none) : wtc K.st K.ad.length = 0 := (wtc_nx K.ad.length).mpr hn
theorem w_N_clear {w0 : Gw} {h0 : List va_E} (hz : anC w0 h0 H) : am_C X mt_N_clear d [.ref 77] h0 (fun r h1 => r = none ∧ ∃ w1, fr w0 w1 h0 h1 [77] ∧ anC w1 h1 []) := by
  show am_G X mt_N_clear d 0 [some (.ref 77)] [] h0 _
  obtain ⟨hO_0, ⟨gh, hh_0, hhP⟩, ⟨gs, hs_0, hsP⟩, T, hR_0⟩ := hz
  have G0 : fr w0 w0 h0 h0 [77] := fr.rf
  refine g_aload_n (pc := 0) dc_N_clear_0 rfl ?_
  refine g_iconst (pc := 1) (v := 0) dc_N_clear_1 rfl ?_
  refine g_putfield (pc := 2) dc_N_clear_2 fp_N_clear_28 hO_0.1 (Nat.le_of_ble_eq_true rfl) rfl rfl ?_
  show am_G X mt_N_clear _ 5 _ _ (h0.set 77 (.inr (9, [.int (nI 0), .ref 78, .ref 79, .ref 80]))) _
  have g1 : fr w0 w0 h0 (h0.set 77 (.inr (9, [.int (nI 0), .ref 78, .ref 79, .ref 80]))) [77] := fr.st hO_0.1 rfl hO_0.2
  have hO_1 : cO w0 (h0.set 77 (.inr (9, [.int (nI 0), .ref 78, .ref 79, .ref 80]))) 77 77 (.inr (9, [.int (nI 0), .ref 78, .ref 79, .ref 80])) := ⟨am_se (am_lt hO_0.1), hO_0.2⟩
  obtain ⟨w1, hw1⟩ : ∃ w9, w9 = w0 := ⟨_, rfl⟩
  generalize (h0.set 77 (.inr (9, [.int (nI 0), .ref 78, .ref 79, .ref 80]))) = h1 at g1 hO_1 ⊢
  have g1 : fr w0 w1 h0 h1 [77] := by rw [hw1]; exact g1
  have hO_1 : cO w1 h1 77 77 (.inr (9, [.int (nI 0), .ref 78, .ref 79, .ref 80])) := by rw [hw1]; exact hO_1
  have hh_1 := hh_0.fr g1 (by decide)
  have hs_1 := hs_0.fr g1 (by decide)
  have hR_1 := hR_0.fr g1 (by decide) (by decide)
  have G1 := G0.tr (g1.mo (by decide : ∀ x, x ∈ [77] → x ∈ [77]))
  exact g_return dc_N_clear_5 rfl ⟨rfl, w1, G1, hO_1, ⟨gh, hh_1, fun j hj => absurd hj (Nat.not_lt_zero j)⟩, ⟨gs, hs_1, fun j hj => absurd hj (Nat.not_lt_zero j)⟩, T, hR_1⟩
theorem n_W_find (hW : wO w h) (hC : cqC w h st9 lim K c V) (hw : wfK K) (hn : fnd st9 K p = none) : am_C X mt_W_find (d + 11) [.ref 0, .int p] h (fun r h1 => r = some (.int (-1)) ∧ h1 = h) := by
  show am_G X mt_W_find (d + 11) 0 [some (.ref 0), some (.int p), none] [] h _
  have h250 := hw.1
  have hC4 := hC.2.2.2.1
  obtain ⟨z0, z1, z2, z3, m0, m1, m2, m3, hmP⟩ := hC4
  have hwl := wtc_le (st := K.st) K.ad.length
  refine g_aload_n (pc := 0) dc_W_find_0 rfl ?_
  refine g_getfield (pc := 1) dc_W_find_1 fl_W_65 hW.1 rfl ?_
  refine g_getfield (pc := 4) dc_W_find_4 fl_W_183 hC.1.1 rfl ?_
  refine q_ifb_eq (pc := 7) (tgt := 30) dc_W_find_7 rfl (fun hc7 => ?_) (fun hc7 => ?_)
  · refine g_iconst (pc := 30) (v := (-1)) dc_W_find_30 rfl ?_
    exact g_ireturn dc_W_find_31 rfl ⟨rfl, rfl⟩
  · refine g_aload_n (pc := 10) dc_W_find_10 rfl ?_
    refine g_getfield (pc := 11) dc_W_find_11 fl_W_65 hW.1 rfl ?_
    refine g_v0 (pc := 14) (M' := mt_C_waiting) dc_W_find_14 mo_C_waiting im_C_waiting se_C_waiting ln_W_202 hC.1.1 rfl rfl (Nat.le_of_ble_eq_true rfl) (Nat.le_of_ble_eq_true rfl) (am_G.mono (c_C_waiting (d := d + 9) hC.1 hC.2.1.1 m0 m1 m2 hmP hC.2.2.1 hw) ?_)
    intro r h1 hq
    rw [hq.1, hq.2]
    clear hq h1 r
    refine ⟨am_nti _, ?_⟩
    refine q_if_gt (pc := 17) (tgt := 30) (wtc K.st K.ad.length) dc_W_find_17 (by omega) rfl (fun hc17 => ?_) (fun hc17 => ?_)
    · refine g_iconst (pc := 30) (v := (-1)) dc_W_find_30 rfl ?_
      exact g_ireturn dc_W_find_31 rfl ⟨rfl, rfl⟩
    · refine g_iload_n (pc := 20) dc_W_find_20 rfl ?_
      refine g_if_lt (pc := 21) (tgt := 30) dc_W_find_21 rfl (fun hc21 => ?_) (fun hc21 => ?_)
      · have hi21 : (p).toInt < (0 : Int) := Int32.lt_iff_toInt_lt.mp hc21
        refine g_iconst (pc := 30) (v := (-1)) dc_W_find_30 rfl ?_
        exact g_ireturn dc_W_find_31 rfl ⟨rfl, rfl⟩
      · have hi21 : ¬ ((p).toInt < (0 : Int)) := fun h9 => hc21 (Int32.lt_iff_toInt_lt.mpr h9)
        refine g_iload_n (pc := 24) dc_W_find_24 rfl ?_
        refine g_bipush (pc := 25) (v := 50) dc_W_find_25 rfl ?_
        refine g_icmp_le (pc := 27) (tgt := 32) dc_W_find_27 rfl (fun hc27 => ?_) (fun hc27 => ?_)
        · have hi27 : (p).toInt ≤ (50 : Int) := Int32.le_iff_toInt_le.mp hc27
          exact absurd hn (by have hx : nxw K = none := (wtc_nx K.ad.length).mp (by omega); unfold fnd; rw [if_pos ⟨hc7, hx⟩]; intro h9; have := ixo_t h9; omega)
        · have hi27 : ¬ ((p).toInt ≤ (50 : Int)) := fun h9 => hc27 (Int32.le_iff_toInt_le.mpr h9)
          refine g_iconst (pc := 30) (v := (-1)) dc_W_find_30 rfl ?_
          exact g_ireturn dc_W_find_31 rfl ⟨rfl, rfl⟩
theorem l45_W_find (hw : wfK K) (hT8 : ∀ i, i ∈ dcs K → (K.tx i).length ≤ 7999) (hoN : ∀ i, i ∈ srtK K K.ad.length → go i = er (nbr (txs K (dcs K)) (K.tx i))) : ∀ (n9 j : Nat) (w0 : Gw) (h0 : List va_E), j + n9 = (dcs K).length → wO w0 h0 → cqC w0 h0 st9 lim K c V → dO w0 h0 (dcs K).length → dpC w0 h0 K (dcs K) → iA w0 h0 75 250 go → eB w0 h0 71 71 → rdC w0 h0 → lsP w0 h0 (dcs K).length j (ldd K) → (∀ w1 h1, fr w0 w1 h0 h1 [8, 10, 13, 14, 21, 22, 24, 63, 64, 71, 73] → lsP w1 h1 (dcs K).length (dcs K).length (ldd K) → eB w1 h1 71 71 → rdC w1 h1 → am_G X mt_W_find (d + 11) 74 [some (.ref 0), some (.int p), none] [] h1 Q) → am_G X mt_W_find (d + 11) 45 [some (.ref 0), some (.int p), some (.int (nI j))] [] h0 Q
  | 0, j, w0, h0, e9, hW, hC, hD, hP, ho, hB, hS, hs, hQ => by
    have h250 := dcs_250 hw
    rw [show j = (dcs K).length by omega] at hs
    refine g_iload_n (pc := 45) dc_W_find_45 rfl ?_
    refine g_aload_n (pc := 46) dc_W_find_46 rfl ?_
    refine g_getfield (pc := 47) dc_W_find_47 fl_W_74 hW.1 rfl ?_
    refine g_getfield (pc := 50) dc_W_find_50 fl_W_226 hD.1 rfl ?_
    refine q_icmp_ge (pc := 53) (tgt := 74) j ((dcs K).length) dc_W_find_53 (by omega) (by omega) rfl (fun hc53 => ?_) (fun hc => absurd hc (by omega))
    refine am_wk (am_le_s (am_le_s (am_le_n am_le_0))) ?_
    exact hQ w0 h0 fr.rf hs hB hS
  | n9 + 1, j, w0, h0, e9, hW, hC, hD, hP, ho, hB, hS, hs, hQ => by
    have h250 := dcs_250 hw
    have hj : j < (dcs K).length := by omega
    refine g_iload_n (pc := 45) dc_W_find_45 rfl ?_
    refine g_aload_n (pc := 46) dc_W_find_46 rfl ?_
    refine g_getfield (pc := 47) dc_W_find_47 fl_W_74 hW.1 rfl ?_
    refine g_getfield (pc := 50) dc_W_find_50 fl_W_226 hD.1 rfl ?_
    refine q_icmp_ge (pc := 53) (tgt := 74) j ((dcs K).length) dc_W_find_53 (by omega) (by omega) rfl (fun hc => absurd hc (by omega)) (fun hc53 => ?_)
    refine g_aload_n (pc := 56) dc_W_find_56 rfl ?_
    refine g_getfield (pc := 57) dc_W_find_57 fl_W_74 hW.1 rfl ?_
    refine g_aload_n (pc := 60) dc_W_find_60 rfl ?_
    refine g_getfield (pc := 61) dc_W_find_61 fl_W_65 hW.1 rfl ?_
    refine g_iload_n (pc := 64) dc_W_find_64 rfl ?_
    refine g_v2 (pc := 65) (M' := mt_D_followLinks) dc_W_find_65 mo_D_followLinks im_D_followLinks se_D_followLinks ln_W_227 hD.1 rfl rfl (Nat.le_of_ble_eq_true rfl) (Nat.le_of_ble_eq_true rfl) (am_G.mono (w_D_followLinks (d := d) hw hj (hT8 _ (gN_mem hj)) hoN hD hC hP ho hB hS hs) ?_)
    intro r h1 hz
    obtain ⟨y1, w1, g1, hs1, hB1, hS1⟩ := hz
    rw [y1]
    clear y1 r
    refine ⟨am_nt0, ?_⟩
    refine g_iinc (pc := 68) (v := (nI (j + 1))) dc_W_find_68 rfl (nI_add j 1) (by decide) ?_
    show am_G X mt_W_find _ 71 [some (.ref 0), some (.int p), some (.int (nI (j + 1)))] [] _ _
    refine g_goto (pc := 71) (tgt := 45) dc_W_find_71 rfl ?_
    exact l45_W_find hw hT8 hoN n9 (j + 1) w1 h1 (by omega) (hW.fr g1 (by decide)) (hC.fr g1 (by decide)) (hD.fr g1 (by decide)) (hP.fr g1 (by decide) (by decide)) (ho.fr g1 (by decide)) hB1 hS1 hs1 (fun w2 h2 g2 => hQ w2 h2 (g1.tr g2))
theorem w_W_find {w0 : Gw} {h0 : List va_E} (hW : wO w0 h0) (hC : cqC w0 h0 st9 lim K c V) (hw : wfK K) (hT8 : ∀ i, i ∈ dcs K → (K.tx i).length ≤ 7999) (hY : (txs K (dcs K)).flatten.length ≤ 19000) (hX : dcX w0 h0 K0 pn) (hXR : dcR w0 h0) (hN0 : anC w0 h0 H) (hS : rdC w0 h0) (hn : fnd st9 K p = some k) : am_C X mt_W_find (d + 11) [.ref 0, .int p] h0 (fun r h1 => r = some (.int (nI (dcs K).length)) ∧ ∃ w1, fr w0 w1 h0 h1 TF ∧ dcX w1 h1 K k ∧ dcR w1 h1 ∧ anC w1 h1 [] ∧ rdC w1 h1) := by
  show am_G X mt_W_find (d + 11) 0 [some (.ref 0), some (.int p), none] [] h0 _
  have h250 := hw.1
  have hC4 := hC.2.2.2.1
  obtain ⟨z0, z1, z2, z3, m0, m1, m2, m3, hmP⟩ := hC4
  have hwl := wtc_le (st := K.st) K.ad.length
  have h25 := dcs_250 hw
  have hst : st9 = true ∧ nxw K = none := by
    refine Classical.byContradiction (fun h9 => ?_)
    unfold fnd at hn
    rw [if_neg h9] at hn
    cases hn
  have hix : ixo p 51 = some k := by unfold fnd at hn; rw [if_pos hst] at hn; exact hn
  obtain ⟨hk51, rfl⟩ := ixo_s hix
  have hwx := nwx hst.2
  obtain ⟨hD, hP, ⟨gn0, hn61, -⟩, ⟨gr0, hn62, -⟩, ⟨gt0, gl0, gb0, hn63, hn73, hn64, -⟩, ⟨gc0, hn65, -⟩, hwr, gf0, hn66, -⟩ := hX
  obtain ⟨gp0, hn60, -⟩ := hP
  obtain ⟨hB71, ⟨g74, hn74⟩, ⟨g75, hn75⟩, g76, hn76⟩ := hXR
  refine g_aload_n (pc := 0) dc_W_find_0 rfl ?_
  refine g_getfield (pc := 1) dc_W_find_1 fl_W_65 hW.1 rfl ?_
  refine g_getfield (pc := 4) dc_W_find_4 fl_W_183 hC.1.1 rfl ?_
  refine q_ifb_eq (pc := 7) (tgt := 30) dc_W_find_7 rfl (fun hc => absurd hc (by rw [hst.1]; decide)) (fun hc7 => ?_)
  refine g_aload_n (pc := 10) dc_W_find_10 rfl ?_
  refine g_getfield (pc := 11) dc_W_find_11 fl_W_65 hW.1 rfl ?_
  refine g_v0 (pc := 14) (M' := mt_C_waiting) dc_W_find_14 mo_C_waiting im_C_waiting se_C_waiting ln_W_202 hC.1.1 rfl rfl (Nat.le_of_ble_eq_true rfl) (Nat.le_of_ble_eq_true rfl) (am_G.mono (c_C_waiting (d := d + 9) hC.1 hC.2.1.1 m0 m1 m2 hmP hC.2.2.1 hw) ?_)
  intro r h1 hq
  rw [hq.1, hq.2]
  clear hq h1 r
  refine ⟨am_nti _, ?_⟩
  refine q_if_gt (pc := 17) (tgt := 30) (wtc K.st K.ad.length) dc_W_find_17 (by omega) rfl (fun hc => absurd hc (by omega)) (fun hc17 => ?_)
  refine g_iload_n (pc := 20) dc_W_find_20 rfl ?_
  refine q_if_lt (pc := 21) (tgt := 30) k dc_W_find_21 (by omega) rfl ?_
  refine g_iload_n (pc := 24) dc_W_find_24 rfl ?_
  refine g_bipush (pc := 25) (v := 50) dc_W_find_25 rfl ?_
  refine q_icmp_le (pc := 27) (tgt := 32) k 50 dc_W_find_27 (by omega) (by omega) rfl (fun hc27 => ?_) (fun hc => absurd hc (by omega))
  refine g_aload_n (pc := 32) dc_W_find_32 rfl ?_
  refine g_getfield (pc := 33) dc_W_find_33 fl_W_74 hW.1 rfl ?_
  refine g_aload_n (pc := 36) dc_W_find_36 rfl ?_
  refine g_getfield (pc := 37) dc_W_find_37 fl_W_65 hW.1 rfl ?_
  refine g_v1 (pc := 40) (M' := mt_D_foldCopies) dc_W_find_40 mo_D_foldCopies im_D_foldCopies se_D_foldCopies ln_W_222 hD.1 rfl rfl (Nat.le_of_ble_eq_true rfl) (Nat.le_of_ble_eq_true rfl) (am_G.mono (w_D_foldCopies (d := d + 7) hw hD hC ⟨_, hn76⟩ ⟨_, hn60⟩ ⟨_, hn61⟩ ⟨_, hn64⟩ ⟨_, hn65⟩ ⟨_, hn75⟩) ?_)
  intro r h1 hz
  obtain ⟨y1, w1, g1, hf, g76x, hn76x⟩ := hz
  rw [y1]
  clear y1 r
  obtain ⟨hD1, hP1, hN1, hc1, ⟨gb1, hb1, hb1x⟩, go, ho1, hoN⟩ := hf
  have hD1 : dO w1 h1 (dcs K).length := hD1
  have hP1 : dpC w1 h1 K (dcs K) := hP1
  have hs1 : lsP w1 h1 (dcs K).length 0 (ldd K) := ⟨gt0, gl0, gb1, hn63.fr g1 (by decide), hn73.fr g1 (by decide), hb1, fun a ha => absurd ha (Nat.not_lt_zero a), hb1x⟩
  refine ⟨am_nt0, ?_⟩
  refine g_iconst (pc := 43) (v := 0) dc_W_find_43 rfl ?_
  refine g_istore_n (pc := 44) dc_W_find_44 (by decide) ?_
  show am_G X mt_W_find _ 45 [some (.ref 0), some (.int (nI k)), some (.int 0)] [] _ _
  refine l45_W_find (d := d) (go := go) hw hT8 hoN (dcs K).length 0 w1 h1 (Nat.zero_add _) (hW.fr g1 (by decide)) (hC.fr g1 (by decide)) hD1 hP1 ho1 (hB71.fr g1 (by decide)) (hS.fr g1 (by decide)) hs1 (fun w2 h2 g2 hs2 hB2 hS2 => ?_)
  have hW2 := (hW.fr g1 (by decide)).fr g2 (by decide)
  have hD2 := hD1.fr g2 (by decide)
  have hP2 := hP1.fr g2 (by decide) (by decide)
  refine g_aload_n (pc := 74) dc_W_find_74 rfl ?_
  refine g_getfield (pc := 75) dc_W_find_75 fl_W_74 hW2.1 rfl ?_
  refine g_iload_n (pc := 78) dc_W_find_78 rfl ?_
  refine g_v1 (pc := 79) (M' := mt_D_rank) dc_W_find_79 mo_D_rank im_D_rank se_D_rank ln_W_231 hD2.1 rfl rfl (Nat.le_of_ble_eq_true rfl) (Nat.le_of_ble_eq_true rfl) (am_G.mono (w_D_rank (d := d + 9) (p := k) h25 (by omega) hD2 (lsP_C hw hs2) ⟨_, (hn62.fr g1 (by decide)).fr g2 (by decide)⟩ ⟨_, (hn74.fr g1 (by decide)).fr g2 (by decide)⟩) ?_)
  intro r h3 hz
  obtain ⟨y1, w3, g3, gr, hr3, hr3x, g749, h749⟩ := hz
  rw [y1]
  clear y1 r
  have hD3 := hD2.fr g3 (by decide)
  have hP3 := hP2.fr g3 (by decide) (by decide)
  have hS3 := hS2.fr g3 (by decide)
  have hW3 := hW2.fr g3 (by decide)
  refine ⟨am_nt0, ?_⟩
  refine g_aload_n (pc := 82) dc_W_find_82 rfl ?_
  refine g_getfield (pc := 83) dc_W_find_83 fl_W_74 hW3.1 rfl ?_
  refine g_v0 (pc := 86) (M' := mt_D_indexWords) dc_W_find_86 mo_D_indexWords im_D_indexWords se_D_indexWords ln_W_234 hD3.1 rfl rfl (Nat.le_of_ble_eq_true rfl) (Nat.le_of_ble_eq_true rfl) (am_G.mono (w_D_indexWords (d := d) (l := dcs K) h25 hT8 hY hD3 hP3 hS3 (((hwr.fr g1 (by decide) (by decide)).fr g2 (by decide) (by decide)).fr g3 (by decide) (by decide)) ⟨_, ((hn66.fr g1 (by decide)).fr g2 (by decide)).fr g3 (by decide)⟩) ?_)
  intro r h4 hz
  obtain ⟨y1, w4, g4, hi4, hS4⟩ := hz
  rw [y1]
  clear y1 r
  have hW4 := hW3.fr g4 (by decide)
  have hN4 := (((hN0.fr g1 (by decide)).fr g2 (by decide)).fr g3 (by decide)).fr g4 (by decide)
  have hN := hN4.1
  refine ⟨am_nt0, ?_⟩
  refine g_aload_n (pc := 89) dc_W_find_89 rfl ?_
  refine g_getfield (pc := 90) dc_W_find_90 fl_W_81 hW4.1 rfl ?_
  refine g_v0 (pc := 93) (M' := mt_N_clear) dc_W_find_93 mo_N_clear im_N_clear se_N_clear ln_W_237 hN.1 rfl rfl (Nat.le_of_ble_eq_true rfl) (Nat.le_of_ble_eq_true rfl) (am_G.mono (w_N_clear (d := d + 10) hN4) ?_)
  intro r h5 hz
  obtain ⟨y1, w5, g5, hN5⟩ := hz
  rw [y1]
  clear y1 r
  have hW5 := hW4.fr g5 (by decide)
  have hD5 := (hD3.fr g4 (by decide)).fr g5 (by decide)
  have G5 : fr w0 w5 h0 h5 TF := ((((g1.mo (by decide)).tr (g2.mo (by decide))).tr (g3.mo (by decide))).tr (g4.mo (by decide))).tr (g5.mo (by decide))
  refine ⟨am_nt0, ?_⟩
  refine g_aload_n (pc := 96) dc_W_find_96 rfl ?_
  refine g_getfield (pc := 97) dc_W_find_97 fl_W_74 hW5.1 rfl ?_
  refine g_getfield (pc := 100) dc_W_find_100 fl_W_226 hD5.1 rfl ?_
  obtain ⟨gn, hn1, hnx⟩ := hN1
  obtain ⟨gc, hcc, hcx⟩ := hc1
  exact g_ireturn dc_W_find_103 rfl ⟨rfl, w5, G5, ⟨hD5, ((hP3.fr g4 (by decide) (by decide)).fr g5 (by decide) (by decide)), ⟨gn, ((((hn1.fr g2 (by decide)).fr g3 (by decide)).fr g4 (by decide)).fr g5 (by decide)), hnx⟩, ⟨gr, ((hr3.fr g4 (by decide)).fr g5 (by decide)), hr3x⟩, (((hs2.fr g3 (by decide) (by decide) (by decide)).fr g4 (by decide) (by decide) (by decide)).fr g5 (by decide) (by decide) (by decide)), ⟨gc, ((((hcc.fr g2 (by decide)).fr g3 (by decide)).fr g4 (by decide)).fr g5 (by decide)), hcx⟩, (hi4.fr g5 (by decide) (by decide) (by decide))⟩, ⟨(((hB2.fr g3 (by decide)).fr g4 (by decide)).fr g5 (by decide)), ⟨_, ((h749.fr g4 (by decide)).fr g5 (by decide))⟩, ⟨_, ((((ho1.fr g2 (by decide)).fr g3 (by decide)).fr g4 (by decide)).fr g5 (by decide))⟩, _, ((((hn76x.fr g2 (by decide)).fr g3 (by decide)).fr g4 (by decide)).fr g5 (by decide))⟩, hN5, (hS4.fr g5 (by decide))⟩
end G5S
