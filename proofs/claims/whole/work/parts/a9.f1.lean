/-! ===== the class orders what was got ===== -/
def dO (w : Gw) (h : List va_E) (n : Nat) : Prop := cO w h 59 59 (.inr (8, [.int (nI n), .ref 60, .ref 61, .ref 62, .ref 63, .ref 64, .ref 65, .ref 66, .ref 67, .ref 12, .ref 71, .ref 73, .ref 74, .ref 75, .ref 76]))
/-- numbers in an array -/
def arN (g : Nat → Int32) (l : List Nat) : Prop := ∀ j, j < l.length → g j = nI (gN l j)
/-- with a gap at p -/
def shf (g : Nat → Int32) (l : List Nat) (p : Nat) : Prop := (∀ j, j < p → g j = nI (gN l j)) ∧ ∀ j, p < j → j ≤ l.length → g j = nI (gN l (j - 1))
section F1S
variable {X : am_X} {d i k n x p : Nat} {w w0 w1 : Gw} {h h0 h1 : List va_E} {I : List Nat} {K V : Kn} {c : Cw} {st9 : Bool} {lim : Nat → Nat} {l : List Nat} {g : Nat → Int32} {ck an sv sn : Nat} {cr : Option Nat}
theorem dO.fr (z : dO w h n) (f : fr w w1 h h1 I) (hi : ¬ 59 ∈ I) : dO w1 h1 n := cO.fr z f hi
theorem shf_0 (z : arN g l) : shf g l l.length := ⟨z, fun j h1 h2 => absurd h1 (by omega)⟩
theorem shf_s (z : shf g l (p + 1)) (hp : p < l.length) : shf (upd g (p + 1) (nI (gN l p))) l p := by
  refine ⟨fun j hj => ?_, fun j h1 h2 => ?_⟩
  · rw [upd_n (by omega)]; exact z.1 j (by omega)
  · by_cases e : j = p + 1
    · rw [e, upd_s]; rfl
    · rw [upd_n e]; exact z.2 j (by omega) h2
theorem gN_ins {j : Nat} (hp : p ≤ l.length) : gN (l.take p ++ x :: l.drop p) j = if j < p then gN l j else if j = p then x else gN l (j - 1) := by
  have hl : (l.take p).length = p := by rw [List.length_take]; omega
  unfold gN
  rw [List.getD_eq_getElem?_getD]
  by_cases h1 : j < p
  · rw [if_pos h1, List.getElem?_append_left (by omega), List.getElem?_take_of_lt h1, List.getD_eq_getElem?_getD]
  · rw [if_neg h1, List.getElem?_append_right (by omega), hl]
    by_cases h2 : j = p
    · rw [if_pos h2, h2, Nat.sub_self]; rfl
    · rw [if_neg h2, show j - p = (j - p - 1) + 1 by omega, List.getElem?_cons_succ, List.getElem?_drop, show p + (j - p - 1) = j - 1 by omega, List.getD_eq_getElem?_getD]
theorem shf_e (z : shf g l p) (hp : p ≤ l.length) : arN (upd g p (nI x)) (l.take p ++ x :: l.drop p) := by
  intro j hj
  have hl : (l.take p ++ x :: l.drop p).length = l.length + 1 := by rw [List.length_append, List.length_cons, List.length_take, List.length_drop]; omega
  rw [gN_ins hp]
  by_cases h1 : j < p
  · rw [if_pos h1, upd_n (by omega)]; exact z.1 j h1
  · rw [if_neg h1]
    by_cases h2 : j = p
    · rw [if_pos h2, h2, upd_s]
    · rw [if_neg h2, upd_n h2]; exact z.2 j (by omega) (by omega)
theorem l30_D_orderGot {Q : Option Value → List va_E → Prop} (hi : i < K.ad.length) (h250 : K.ad.length ≤ 250) (hl : l.length < 250) (hlm : ∀ e, e ∈ l → e < K.ad.length) : ∀ (p : Nat) (w : Gw) (h : List va_E) (g : Nat → Int32), p ≤ l.length → dO w h n → cO w h 34 34 (cr7 st9 ck an sv sn cr) → rE w h 35 36 35 36 K.ad [] → iA w h 76 250 g → shf g l p → (∀ j, p ≤ j → j < l.length → bfi K i (gN l j) = true) → (∀ w1 h1 g1 p1, fr w w1 h h1 [76] → iA w1 h1 76 250 g1 → shf g1 l p1 → p1 ≤ l.length → (∀ j, p1 ≤ j → j < l.length → bfi K i (gN l j) = true) → (p1 = 0 ∨ bfi K i (gN l (p1 - 1)) = false) → am_G X mt_D_orderGot (d + 2) 77 [some (.ref 59), some (.ref 34), some (.int (nI l.length)), some (.int (nI i)), some (.int (nI p1))] [] h1 Q) → am_G X mt_D_orderGot (d + 2) 30 [some (.ref 59), some (.ref 34), some (.int (nI l.length)), some (.int (nI i)), some (.int (nI p))] [] h Q
  | 0, w, h, g, hp, hD, hO, hR, hg, hs, hb, KK => by
    refine g_iload (pc := 30) dc_D_orderGot_30 rfl ?_
    refine q_if_le (pc := 32) (tgt := 77) 0 dc_D_orderGot_32 (by omega) rfl (fun hc32 => ?_) (fun hc => absurd hc (by omega))
    exact KK w h g 0 fr.rf hg hs hp hb (Or.inl rfl)
  | p + 1, w, h, g, hp, hD, hO, hR, hg, hs, hb, KK => by
    have hR0 := hR
    obtain ⟨bR, eR, hRr⟩ := hR
    have hpl : p < l.length := by omega
    have hgp : g p = nI (gN l p) := hs.1 p (by omega)
    have hlp := hlm _ (gN_mem hpl)
    refine g_iload (pc := 30) dc_D_orderGot_30 rfl ?_
    refine q_if_le (pc := 32) (tgt := 77) (p + 1) dc_D_orderGot_32 (by omega) rfl (fun hc => absurd hc (by omega)) (fun hc32 => ?_)
    refine g_aload_n (pc := 35) dc_D_orderGot_35 rfl ?_
    refine g_getfield (pc := 36) dc_D_orderGot_36 fl_D_70 hO.1 rfl ?_
    refine g_iload_n (pc := 39) dc_D_orderGot_39 rfl ?_
    refine g_aload_n (pc := 40) dc_D_orderGot_40 rfl ?_
    refine g_getfield (pc := 41) dc_D_orderGot_41 fl_D_63 hD.1 rfl ?_
    refine g_iload (pc := 44) dc_D_orderGot_44 rfl ?_
    refine g_iconst (pc := 46) (v := 1) dc_D_orderGot_46 rfl ?_
    refine g_isub (pc := 47) (v := (nI p)) dc_D_orderGot_47 (q_sub (a := p + 1) (b := 1) (by omega)) ?_
    refine q_ialoadV (pc := 48) p dc_D_orderGot_48 hg.1 (by omega) (by decide) (v := nI (gN l p)) hgp ?_
    refine g_v2 (pc := 49) (M' := mt_R_isBefore) dc_D_orderGot_49 mo_R_isBefore im_R_isBefore se_R_isBefore ln_D_83 hRr.1.1 rfl rfl (Nat.le_of_ble_eq_true rfl) (Nat.le_of_ble_eq_true rfl) (am_G.mono (c_R_isBefore (d := d) hRr.1 hi hlp) ?_)
    intro r h1 hq
    rw [hq.1, hq.2]
    clear hq h1 r
    refine ⟨am_nti _, ?_⟩
    refine q_ifb_eq (pc := 52) (tgt := 77) dc_D_orderGot_52 rfl (fun hc52 => ?_) (fun hc52 => ?_)
    · exact KK w h g (p + 1) fr.rf hg hs hp hb (Or.inr hc52)
    · refine g_aload_n (pc := 55) dc_D_orderGot_55 rfl ?_
      refine g_getfield (pc := 56) dc_D_orderGot_56 fl_D_63 hD.1 rfl ?_
      refine g_iload (pc := 59) dc_D_orderGot_59 rfl ?_
      refine g_aload_n (pc := 61) dc_D_orderGot_61 rfl ?_
      refine g_getfield (pc := 62) dc_D_orderGot_62 fl_D_63 hD.1 rfl ?_
      refine g_iload (pc := 65) dc_D_orderGot_65 rfl ?_
      refine g_iconst (pc := 67) (v := 1) dc_D_orderGot_67 rfl ?_
      refine g_isub (pc := 68) (v := (nI p)) dc_D_orderGot_68 (q_sub (a := p + 1) (b := 1) (by omega)) ?_
      refine q_ialoadV (pc := 69) p dc_D_orderGot_69 hg.1 (by omega) (by decide) (v := nI (gN l p)) hgp ?_
      refine q_iastore (pc := 70) (p + 1) dc_D_orderGot_70 hg.1 (by omega) (by decide) ?_
      have g1 : fr w w h (h.set 76 (.inl (1, 250, .inl (upd g (p + 1) (nI (gN l p)))))) [76] := fr.st hg.1 rfl hg.2
      have hg1 : iA w (h.set 76 (.inl (1, 250, .inl (upd g (p + 1) (nI (gN l p)))))) 76 250 (upd g (p + 1) (nI (gN l p))) := ⟨am_se (am_lt hg.1), hg.2⟩
      generalize (h.set 76 (.inl (1, 250, .inl (upd g (p + 1) (nI (gN l p)))))) = h1 at g1 hg1 ⊢
      refine g_iinc (pc := 71) (v := (nI p)) dc_D_orderGot_71 rfl (q_m1 (x := p + 1) (by omega)) (by decide) ?_
      show am_G X mt_D_orderGot _ 74 [some (.ref 59), some (.ref 34), some (.int (nI l.length)), some (.int (nI i)), some (.int (nI p))] [] _ _
      refine g_goto (pc := 74) (tgt := 30) dc_D_orderGot_74 rfl ?_
      refine l30_D_orderGot hi h250 hl hlm p w h1 _ (by omega) (hD.fr g1 (by decide)) (hO.fr g1 (by decide)) (hR0.fr g1 (by decide) (by decide)) hg1 (shf_s hs hpl) (fun j h1 h2 => ?_) (fun w2 h2 g2 p2 f1 f2 f3 f4 f5 f6 => KK w2 h2 g2 p2 (g1.tr f1) f2 f3 f4 f5 f6)
      by_cases e : j = p
      · rw [e]; exact hc52
      · exact hb j (by omega) h2
theorem pl_no (hs : srd K l) (hp : p ≤ l.length) (h9 : p = 0 ∨ bfi K i (gN l (p - 1)) = false) : ∀ j, j < p → bfi K i (gN l j) = false := fun j hj => by
  rcases h9 with e | e
  · omega
  · cases e2 : bfi K i (gN l j) with
    | false => rfl
    | true =>
      by_cases q : j = p - 1
      · rw [q, e] at e2; cases e2
      · rw [show bfi K i (gN l (p - 1)) = true from bef_tr e2 (srd_lt hs (by omega) (by omega))] at e; cases e
theorem l4_D_orderGot (hw : wfK K) : ∀ (m i : Nat) (w : Gw) (h : List va_E), i + m = K.ad.length → dO w h n → cO w h 34 34 (cr7 st9 ck an sv sn cr) → gr4 w h 39 → mk4 w h 39 K → rE w h 35 36 35 36 K.ad [] → (∃ g, iA w h 76 250 g ∧ arN g (srtK K i)) → am_G X mt_D_orderGot (d + 2) 4 [some (.ref 59), some (.ref 34), some (.int (nI (srtK K i).length)), some (.int (nI i)), none] [] h (fun r h1 => r = some (.int (nI (srtK K K.ad.length).length)) ∧ ∃ w1, fr w w1 h h1 [76] ∧ ∃ g, iA w1 h1 76 250 g ∧ arN g (srtK K K.ad.length))
  | 0, i, w, h, e, hD, hO, hG, hK, hR, hg => by
    have h250 := hw.1
    have hR0 := hR
    obtain ⟨bR, eR, hRr⟩ := hR
    have hsl := srtK_len (K := K) i
    have ei : i = K.ad.length := by omega
    rw [ei] at hg
    refine g_iload_n (pc := 4) dc_D_orderGot_4 rfl ?_
    refine g_aload_n (pc := 5) dc_D_orderGot_5 rfl ?_
    refine g_getfield (pc := 6) dc_D_orderGot_6 fl_D_70 hO.1 rfl ?_
    refine g_getfield (pc := 9) dc_D_orderGot_9 fl_D_75 hRr.1.1 rfl ?_
    refine q_icmp_ge (pc := 12) (tgt := 94) i K.ad.length dc_D_orderGot_12 (by omega) (by omega) rfl (fun hc12 => ?_) (fun hc => absurd hc (by omega))
    refine g_iload_n (pc := 94) dc_D_orderGot_94 rfl ?_
    exact g_ireturn dc_D_orderGot_95 rfl ⟨by rw [ei], w, fr.rf, hg⟩
  | m + 1, i, w, h, e, hD, hO, hG, hK, hR, hg => by
    have h250 := hw.1
    have hR0 := hR
    obtain ⟨bR, eR, hRr⟩ := hR
    have hsl := srtK_len (K := K) i
    have hi : i < K.ad.length := by omega
    have hK0 := hK
    obtain ⟨z0, z1, z2, z3, m0, m1, m2, m3, hmP⟩ := hK
    obtain ⟨g, hga, hgn⟩ := hg
    have hst5 := (hw.2.2.2 i hi).2.1
    refine g_iload_n (pc := 4) dc_D_orderGot_4 rfl ?_
    refine g_aload_n (pc := 5) dc_D_orderGot_5 rfl ?_
    refine g_getfield (pc := 6) dc_D_orderGot_6 fl_D_70 hO.1 rfl ?_
    refine g_getfield (pc := 9) dc_D_orderGot_9 fl_D_75 hRr.1.1 rfl ?_
    refine q_icmp_ge (pc := 12) (tgt := 94) i K.ad.length dc_D_orderGot_12 (by omega) (by omega) rfl (fun hc => absurd hc (by omega)) (fun hc12 => ?_)
    refine g_aload_n (pc := 15) dc_D_orderGot_15 rfl ?_
    refine g_getfield (pc := 16) dc_D_orderGot_16 fl_D_79 hO.1 rfl ?_
    refine g_iconst (pc := 19) (v := 0) dc_D_orderGot_19 rfl ?_
    refine q_aaloadI (pc := 20) (k := 40) 0 dc_D_orderGot_20 hG.1 (by decide) (by decide) rfl ?_
    refine g_iload_n (pc := 21) dc_D_orderGot_21 rfl ?_
    refine q_ialoadV (pc := 22) i dc_D_orderGot_22 m0.1 (by omega) (by decide) (v := nI (K.st i)) (hmP i hi).1 ?_
    refine g_iconst (pc := 23) (v := 2) dc_D_orderGot_23 rfl ?_
    refine q_icmp_ne (pc := 24) (tgt := 88) (K.st i) 2 dc_D_orderGot_24 (by omega) (by omega) rfl (fun hc24 => ?_) (fun hc24 => ?_)
    · refine g_iinc (pc := 88) (v := (nI (i + 1))) dc_D_orderGot_88 rfl (nI_add i 1) (by decide) ?_
      show am_G X mt_D_orderGot _ 91 [some (.ref 59), some (.ref 34), some (.int (nI ((srtK K i).length))), some (.int (nI (i + 1))), none] [] _ _
      refine g_goto (pc := 91) (tgt := 4) dc_D_orderGot_91 rfl ?_
      have es : srtK K (i + 1) = srtK K i := by show (if K.st i = 2 then _ else _) = _; rw [if_neg hc24]
      have h9 := l4_D_orderGot hw m (i + 1) w h (by omega) hD hO hG hK0 hR0 ⟨g, hga, by rw [es]; exact hgn⟩
      rw [es] at h9
      exact h9
    · refine g_iload_n (pc := 27) dc_D_orderGot_27 rfl ?_
      refine g_istore (pc := 28) dc_D_orderGot_28 (by decide) ?_
      show am_G X mt_D_orderGot _ 30 [some (.ref 59), some (.ref 34), some (.int (nI ((srtK K i).length))), some (.int (nI i)), some (.int (nI ((srtK K i).length)))] [] _ _
      have es : srtK K (i + 1) = insK K i (srtK K i) := by show (if K.st i = 2 then _ else _) = _; rw [if_pos hc24]
      have hml : ∀ e, e ∈ srtK K i → e < K.ad.length := fun e he => by have := ((srtK_mem i).mp he).1; omega
      refine l30_D_orderGot hi h250 (by omega) hml (srtK K i).length w h g (Nat.le_refl _) hD hO hR0 hga (shf_0 hgn) (fun j h1 h2 => absurd h1 (by omega)) (fun w1 h1 g1 p1 f1 f2 f3 f4 f5 f6 => ?_)
      have hia : insK K i (srtK K i) = (srtK K i).take p1 ++ i :: (srtK K i).drop p1 := insK_at f4 f5 (pl_no (srtK_srd hw i (by omega)) f4 f6)
      have hel : (srtK K (i + 1)).length = (srtK K i).length + 1 := by rw [es, insK_len]
      have hD1 := hD.fr f1 (by decide)
      refine g_aload_n (pc := 77) dc_D_orderGot_77 rfl ?_
      refine g_getfield (pc := 78) dc_D_orderGot_78 fl_D_63 hD1.1 rfl ?_
      refine g_iload (pc := 81) dc_D_orderGot_81 rfl ?_
      refine g_iload_n (pc := 83) dc_D_orderGot_83 rfl ?_
      refine q_iastore (pc := 84) p1 dc_D_orderGot_84 f2.1 (by omega) (by decide) ?_
      have g9 : fr w1 w1 h1 (h1.set 76 (.inl (1, 250, .inl (upd g1 p1 (nI i))))) [76] := fr.st f2.1 rfl f2.2
      have hg9 : iA w1 (h1.set 76 (.inl (1, 250, .inl (upd g1 p1 (nI i))))) 76 250 (upd g1 p1 (nI i)) := ⟨am_se (am_lt f2.1), f2.2⟩
      generalize (h1.set 76 (.inl (1, 250, .inl (upd g1 p1 (nI i))))) = h2 at g9 hg9 ⊢
      have G9 := f1.tr g9
      refine g_iinc (pc := 85) (v := (nI ((srtK K i).length + 1))) dc_D_orderGot_85 rfl (nI_add ((srtK K i).length) 1) (by decide) ?_
      show am_G X mt_D_orderGot _ 88 [some (.ref 59), some (.ref 34), some (.int (nI ((srtK K i).length + 1))), some (.int (nI i)), some (.int (nI p1))] [] _ _
      refine g_iinc (pc := 88) (v := (nI (i + 1))) dc_D_orderGot_88 rfl (nI_add i 1) (by decide) ?_
      show am_G X mt_D_orderGot _ 91 [some (.ref 59), some (.ref 34), some (.int (nI ((srtK K i).length + 1))), some (.int (nI (i + 1))), some (.int (nI p1))] [] _ _
      refine g_goto (pc := 91) (tgt := 4) dc_D_orderGot_91 rfl ?_
      refine am_wk (am_le_s (am_le_s (am_le_s (am_le_s (am_le_n am_le_0))))) ?_
      have h9 := l4_D_orderGot hw m (i + 1) w1 h2 (by omega) (hD.fr G9 (by decide)) (hO.fr G9 (by decide)) (hG.fr G9 (by decide)) (hK0.fr G9 (by decide) (by decide) (by decide) (by decide)) (hR0.fr G9 (by decide) (by decide)) ⟨_, hg9, by rw [es, hia]; exact shf_e f3 f4⟩
      rw [hel] at h9
      refine am_G.mono h9 (fun r h4 hz => ?_)
      obtain ⟨y1, w4, y2, y3⟩ := hz
      exact ⟨y1, w4, G9.tr y2, y3⟩
theorem w_D_orderGot (hw : wfK K) (hD : dO w h n) (hC : cqC w h st9 lim K c V) (hg : ∃ g, iA w h 76 250 g) : am_C X mt_D_orderGot (d + 2) [.ref 59, .ref 34] h (fun r h1 => r = some (.int (nI (srtK K K.ad.length).length)) ∧ ∃ w1, fr w w1 h h1 [76] ∧ ∃ g, iA w1 h1 76 250 g ∧ arN g (srtK K K.ad.length)) := by
  show am_G X mt_D_orderGot (d + 2) 0 [some (.ref 59), some (.ref 34), none, none, none] [] h _
  obtain ⟨g, hg⟩ := hg
  refine g_iconst (pc := 0) (v := 0) dc_D_orderGot_0 rfl ?_
  refine g_istore_n (pc := 1) dc_D_orderGot_1 (by decide) ?_
  show am_G X mt_D_orderGot _ 2 [some (.ref 59), some (.ref 34), some (.int 0), none, none] [] _ _
  refine g_iconst (pc := 2) (v := 0) dc_D_orderGot_2 rfl ?_
  refine g_istore_n (pc := 3) dc_D_orderGot_3 (by decide) ?_
  show am_G X mt_D_orderGot _ 4 [some (.ref 59), some (.ref 34), some (.int 0), some (.int 0), none] [] _ _
  exact l4_D_orderGot hw K.ad.length 0 w h (Nat.zero_add _) hD hC.1 hC.2.1.1 hC.2.2.2.1 hC.2.2.1 ⟨g, hg, fun j hj => absurd hj (Nat.not_lt_zero j)⟩
end F1S
