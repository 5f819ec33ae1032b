/-! ===== the class: pages are told, dropped, found ===== -/
section C2S
variable {X : am_X} {d i c pg a b tp tb f t cap cap2 n m k s : Nat} {w w1 : Gw} {h h1 : List va_E} {L D : List Int32} {x y : Pg} {I : List Nat} {P : List Pg} {g g2 : Nat → Int32} {gp : Nat → Option Nat}
theorem gin_k (hp : pg < h.length) (hk : k < h.length) (hne : ¬ k = pg) : (ginH h pg s g g2 m f t)[k]? = h[k]? := by
  unfold ginH
  rw [List.getElem?_set_ne (fun e => hne e.symm), List.getElem?_append_left (by rw [List.length_set, List.length_append]; omega), List.getElem?_set_ne (fun e => hne e.symm), List.getElem?_append_left hk]
theorem gin_p (hp : pg < h.length) : (ginH h pg s g g2 m f t)[pg]? = some (.inr (10, [.ref h.length, .int (nI s), .ref (h.length + 1)])) := by
  unfold ginH
  exact List.getElem?_set_self (by rw [List.length_append, List.length_set, List.length_append]; omega)
theorem gin_a (hp : pg < h.length) : (ginH h pg s g g2 m f t)[h.length]? = some (.inl (0, m, .inl (va_cpy g (fun _ => 0) 0 0 m))) := by
  unfold ginH
  rw [List.getElem?_set_ne (by omega), List.getElem?_append_left (by rw [List.length_set, List.length_append]; show _ < _ + 1; omega), List.getElem?_set_ne (by omega), List.getElem?_append_right (Nat.le_refl _), Nat.sub_self]
  rfl
theorem gin_t (hp : pg < h.length) : (ginH h pg s g g2 m f t)[h.length + 1]? = some (.inl (0, t - f, .inl (va_cpy g2 (fun _ => 0) f 0 (t - f)))) := by
  unfold ginH
  have hl : ((h ++ ([.inl (0, m, .inl (va_cpy g (fun _ => 0) 0 0 m))] : List va_E)).set pg (.inr (10, [.ref h.length, .int (nI s), .null]))).length = h.length + 1 := by rw [List.length_set, List.length_append]; rfl
  rw [List.getElem?_set_ne (by omega), List.getElem?_append_right (by omega), hl, Nat.sub_self]
  rfl
theorem gin_len : (ginH h pg s g g2 m f t).length = h.length + 2 := by
  unfold ginH
  rw [List.length_set, List.length_append, List.length_set, List.length_append]
  rfl
theorem gin_sl (hp : h[pg]? = some (.inr (10, [.null, .int 0, .null]))) : am_sl (ginH h pg s g g2 m f t) = am_sl h + m + (t - f) := by
  unfold ginH
  have h1 := am_lt hp
  have e1 : ((h ++ ([.inl (0, m, .inl (va_cpy g (fun _ => 0) 0 0 m))] : List va_E)))[pg]? = some (.inr (10, [.null, .int 0, .null])) := am_ap hp
  have e2 : ((h ++ ([.inl (0, m, .inl (va_cpy g (fun _ => 0) 0 0 m))] : List va_E)).set pg (.inr (10, [.ref h.length, .int (nI s), .null])) ++ ([.inl (0, t - f, .inl (va_cpy g2 (fun _ => 0) f 0 (t - f)))] : List va_E))[pg]? = some (.inr (10, [.ref h.length, .int (nI s), .null])) := am_ap (am_se (am_lt e1))
  rw [am_sl_set _ _ (.inr (10, [.ref h.length, .int (nI s), .ref (h.length + 1)])) _ e2 rfl, am_sl_app, am_sl_set _ _ (.inr (10, [.ref h.length, .int (nI s), .null])) _ e1 rfl, am_sl_app]
  show am_sl h + (m + 0) + (t - f + 0) = _
  omega
/-- the page's tail: it is made and put at place i -/
theorem t46_V_tellPage {q : Nat} (hV : vO w h n q) (hA : pA w h 27 60 gp) (hi : i < 60) (hn : n ≤ 60) (hD : bE w h 8 8 D) (hc8 : 512 ≤ w.2 8) (hD2 : D.length ≤ 200) (hL : bE w h 1 1 L) (hf : 1 ≤ f ∧ f ≤ L.length) : am_G X mt_V_tellPage (d + 4) 46 [some (.ref 26), some (.ref 8), some (.int (nI s)), some (.ref 1), some (.int (nI f)), some (.int (nI i))] [] h (fun r h1 => r = some (.int (nI n)) ∧ ∃ w1 pg, fr w w1 h h1 [27] ∧ pA w1 h1 27 60 (va_up gp i (some pg)) ∧ gG w1 h1 pg (D, s, sub L f L.length) ∧ w1.2 27 = w.2 27 + (48 + D.length + L.length)) := by
  obtain ⟨bD, d1, d2, d3, d4⟩ := hD
  obtain ⟨bL, l1, l2, l3, l4⟩ := hL
  obtain ⟨gD, d5, d6, d7, d8, d9, d10⟩ := d1
  obtain ⟨gL, l5, l6, l7, l8, l9, l10⟩ := l1
  have h26 := am_lt hV.1
  have h27 := am_lt hA.1
  have ho26 : w.1 26 = 26 := hV.2
  have ho27 : w.1 27 = 27 := hA.2
  have el : ∀ {e : va_E} {z : Nat}, h[z]? = some e → z ≠ h.length := fun hz => by have := am_lt hz; omega
  have kb8 : kb 8 = 40016 := by decide
  have kb1 : kb 1 = 40016 := by decide
  refine g_aload_n (pc := 46) dc_V_tellPage_46 rfl ?_
  refine g_getfield (pc := 47) dc_V_tellPage_47 fl_V_11 hV.1 rfl ?_
  refine g_iload (pc := 50) dc_V_tellPage_50 rfl ?_
  refine g_new (pc := 52) dc_V_tellPage_52 mk_V_9 ?_
  refine g_dup (pc := 55) dc_V_tellPage_55 rfl ?_
  refine g_aload_n (pc := 56) dc_V_tellPage_56 rfl ?_
  refine g_iload_n (pc := 57) dc_V_tellPage_57 rfl ?_
  refine g_aload_n (pc := 58) dc_V_tellPage_58 rfl ?_
  refine g_iload (pc := 59) dc_V_tellPage_59 rfl ?_
  have hpn : (h ++ ([.inr (10, [.null, .int 0, .null])] : List va_E))[h.length]? = some (.inr (10, [.null, .int 0, .null]) : va_E) := am_an
  have hpl : h.length < (h ++ ([.inr (10, [.null, .int 0, .null])] : List va_E)).length := am_lt hpn
  refine g_i4 (pc := 61) (M' := mt_G_init) dc_V_tellPage_61 mo_G_init im_G_init rfl rfl ln_V_35 (Nat.le_of_ble_eq_true rfl) (Nat.le_of_ble_eq_true rfl) (am_G.mono (c_G_init (d := d) (pg := h.length) (a := 8) (tp := 1) (s := s) (f := f) (t := L.length) (m := D.length) hpn (am_ap d5) (am_ap d6) (am_ap l5) (am_ap l6) (by omega) (by omega) (by omega) ⟨hf.1, hf.2, by omega⟩ d10 l10) ?_)
  intro r h1 hq
  rw [hq.1, hq.2]
  clear hq h1 r
  refine ⟨am_nt0, ?_⟩
  refine q_aastore4 (pc := 64) i dc_V_tellPage_64 ((gin_k hpl (by omega) (by omega)).trans (am_ap hA.1)) hi (by omega) (gin_p hpl) ?_
  refine g_aload_n (pc := 65) dc_V_tellPage_65 rfl ?_
  refine g_getfield (pc := 66) dc_V_tellPage_66 fl_V_23 (am_sn (by decide : (27 : Nat) ≠ 26) ((gin_k hpl (by omega) (by omega)).trans (am_ap hV.1))) rfl ?_
  refine g_ireturn dc_V_tellPage_69 rfl ⟨rfl, ?_⟩
  have hgl : (ginH (h ++ ([.inr (10, [.null, .int 0, .null])] : List va_E)) h.length s gD gL D.length f L.length).length = h.length + 3 := by rw [gin_len, List.length_append]; rfl
  have hgs : am_sl (ginH (h ++ ([.inr (10, [.null, .int 0, .null])] : List va_E)) h.length s gD gL D.length f L.length) = am_sl h + 3 + D.length + (L.length - f) := by rw [gin_sl hpn, am_sl_app]; show am_sl h + (3 + 0) + _ + _ = _; omega
  have hH27 : (ginH (h ++ ([.inr (10, [.null, .int 0, .null])] : List va_E)) h.length s gD gL D.length f L.length)[27]? = some (.inl (4, 60, .inr (.inr (.inr (.inr gp))))) := (gin_k hpl (by omega) (by omega)).trans (am_ap hA.1)
  have hl1 : (h ++ ([.inr (10, [.null, .int 0, .null])] : List va_E)).length = h.length + 1 := by rw [List.length_append]; rfl
  have t27 := tos_up (c := w.2) (i := 27) (v := w.2 27 + (48 + D.length + L.length)) 400 (by decide)
  refine ⟨(fun k => if h.length ≤ k then 99 else w.1 k, up1 w.2 27 (w.2 27 + (48 + D.length + L.length))), h.length, ⟨⟨?_, fun k hk => ⟨if_neg (by omega), fun h9 => ?_⟩⟩, fun j hj => up1_n (fun e => hj (by rw [e]; exact List.mem_singleton_self _)), ?_, ?_, fun j hj => Or.inl (up1_n hj)⟩, ⟨?_, ?_⟩, ⟨h.length + 1, h.length + 2, ⟨?_, ?_⟩, ⟨va_cpy gD (fun _ => 0) 0 0 D.length, ⟨?_, ?_⟩, ?_, bt_cpy d10 (fun _ => bt_0), ?_⟩, ⟨va_cpy gL (fun _ => 0) f 0 (L.length - f), ⟨?_, ?_⟩, ?_, bt_cpy l10 (fun _ => bt_0), ?_⟩⟩, ?_⟩
  · rw [List.length_set, hgl]; omega
  · have hk27 : ¬ k = 27 := fun e => h9 (by rw [e, ho27]; exact List.mem_singleton_self _)
    rw [List.getElem?_set_ne (fun e => hk27 e.symm), gin_k hpl (by omega) (by omega), List.getElem?_append_left hk]
  · show am_sl (List.set _ _ _) + 2 * tos w.2 400 ≤ am_sl h + 2 * tos (up1 w.2 27 _) 400
    rw [am_sl_set _ _ (.inl (4, 60, .inr (.inr (.inr (.inr (va_up gp i (some h.length))))))) _ hH27 rfl, hgs]
    omega
  · show 16 * (List.set _ _ _).length + tos w.2 400 ≤ 16 * h.length + tos (up1 w.2 27 _) 400
    rw [List.length_set, hgl]
    omega
  · exact am_se (am_lt hH27)
  · show (if h.length ≤ 27 then 99 else w.1 27) = 27
    rw [if_neg (by omega)]; exact ho27
  · have e9 := gin_p (s := s) (g := gD) (g2 := gL) (m := D.length) (f := f) (t := L.length) hpl
    rw [hl1] at e9
    exact am_sn (by omega) e9
  · show (if h.length ≤ h.length then 99 else w.1 h.length) = 99
    rw [if_pos (Nat.le_refl _)]
  · have e9 := gin_a (s := s) (g := gD) (g2 := gL) (m := D.length) (f := f) (t := L.length) hpl
    rw [hl1] at e9
    exact am_sn (by omega) e9
  · show (if h.length ≤ h.length + 1 then 99 else _) = 99
    rw [if_pos (by omega)]
  · have e9 := cpy_tx (f := 0) (t := D.length) (tx_of_sl D 0 d7) (Nat.zero_le _) (Nat.le_refl _)
    rw [Nat.sub_zero, sub_all rfl] at e9
    exact e9
  · show D.length ≤ _; omega
  · have e9 := gin_t (s := s) (g := gD) (g2 := gL) (m := D.length) (f := f) (t := L.length) hpl
    rw [hl1] at e9
    show (List.set _ _ _)[h.length + 2]? = some (Sum.inl (0, (sub L f L.length).length, _))
    rw [sub_len (Nat.le_refl _)]
    exact am_sn (by omega) e9
  · show (if h.length ≤ h.length + 2 then 99 else _) = 99
    rw [if_pos (by omega)]
  · exact cpy_tx (tx_of_sl L 0 l7) hf.2 (Nat.le_refl _)
  · show (sub L f L.length).length ≤ _
    rw [sub_len (Nat.le_refl _)]; omega
  · show up1 w.2 27 (w.2 27 + (48 + D.length + L.length)) 27 = _
    exact up1_s

theorem w_V_tellPage (hV : vO w h P.length n) (hP : pgC w h P) (h60 : P.length ≤ 60) (hD : bE w h 8 8 D) (hc8 : 512 ≤ w.2 8) (hD2 : D.length ≤ 200) (hL : bE w h 1 1 L) (hf : 1 ≤ f ∧ f ≤ L.length) : am_C X mt_V_tellPage (d + 4) [.ref 26, .ref 8, .int (nI s), .ref 1, .int (nI f)] h (fun r h1 => match pgx P (D, s, sub L f L.length) with | none => r = some (.int (-1)) ∧ h1 = h | some P1 => r = some (.int (nI P1.length)) ∧ ∃ w1, fr w w1 h h1 [26, 27] ∧ vO w1 h1 P1.length n ∧ pgC w1 h1 P1 ∧ w1.2 27 = w.2 27 + (48 + D.length + L.length)) := by
  show am_G X mt_V_tellPage (d + 4) 0 [some (.ref 26), some (.ref 8), some (.int (nI s)), some (.ref 1), some (.int (nI f)), none] [] h _
  have hnp : ∀ j, nbr (pad P) D = some j → j < 2 ^ 31 := fun j hj => by have := (nbr_s hj).1; rw [pad_len] at this; omega
  obtain ⟨gp, hA, hgp⟩ := hP
  have h26 := am_lt hV.1
  refine g_aload_n (pc := 0) dc_V_tellPage_0 rfl ?_
  refine g_aload_n (pc := 1) dc_V_tellPage_1 rfl ?_
  refine g_v1 (pc := 2) (M' := mt_V_pageNumber) dc_V_tellPage_2 mo_V_pageNumber im_V_pageNumber se_V_pageNumber ln_V_31 hV.1 rfl rfl (Nat.le_of_ble_eq_true rfl) (Nat.le_of_ble_eq_true rfl) (am_G.mono (c_V_pageNumber (d := d + 1) hV ⟨gp, hA, hgp⟩ h60 hD) ?_)
  intro r h1 hq
  rw [hq.1, hq.2]
  clear hq h1 r
  obtain ⟨oo, hoo⟩ : ∃ oo, oo = nbr (pad P) D := ⟨_, rfl⟩
  rw [← hoo]
  have hnp2 : ∀ j, oo = some j → j < 2 ^ 31 := fun j hj => hnp j (hoo.symm.trans hj)
  refine ⟨am_nti _, ?_⟩
  refine g_istore (pc := 5) dc_V_tellPage_5 (by decide) ?_
  show am_G X mt_V_tellPage _ 7 [some (.ref 26), some (.ref 8), some (.int (nI s)), some (.ref 1), some (.int (nI f)), some (.int (er oo))] [] _ _
  refine g_iload (pc := 7) dc_V_tellPage_7 rfl ?_
  refine g_iconst (pc := 9) (v := (-1)) dc_V_tellPage_9 rfl ?_
  refine q_o_ne (pc := 10) (tgt := 24) dc_V_tellPage_10 hnp2 rfl (fun k10 hc10 => ?_) (fun hc10 => ?_)
  · rw [hc10]
    rw [show er (some k10) = nI k10 from rfl]
    have hk10 := hnp2 k10 hc10
    refine g_iload (pc := 24) dc_V_tellPage_24 rfl ?_
    refine g_iconst (pc := 26) (v := (-1)) dc_V_tellPage_26 rfl ?_
    refine g_icmp_ne (pc := 27) (tgt := 46) dc_V_tellPage_27 rfl (fun _ => ?_) (fun hc => absurd hc (q_nem1 (by omega)))
    have hjk : k10 < P.length := by have := (nbr_s (hoo.symm.trans hc10)).1; rw [pad_len] at this; exact this
    refine am_G.mono (t46_V_tellPage (D := D) (L := L) hV hA (by omega) (by omega) hD hc8 hD2 hL hf) (fun r h1 hz => ?_)
    obtain ⟨y1, w1, pg, y2, y3, y4, y5⟩ := hz
    have hlen : (P.set k10 ((D, s, sub L f L.length) : Pg)).length = P.length := List.length_set ..
    have e5 : pgx P (D, s, sub L f L.length) = some (P.set k10 (D, s, sub L f L.length)) := by unfold pgx; dsimp only; rw [← hoo, hc10]
    rw [e5]
    refine ⟨by rw [hlen]; exact y1, w1, y2.mo (by decide), by rw [hlen]; exact hV.fr y2 (by decide), ⟨_, y3, fun q hq => ?_⟩, y5⟩
    rw [hlen] at hq
    rw [gP_set hjk]
    by_cases e9 : q = k10
    · rw [e9, vau_s, if_pos rfl]; exact ⟨pg, rfl, y4⟩
    · rw [vau_n e9, if_neg e9]
      obtain ⟨pg2, q1, q2⟩ := hgp q (by omega)
      exact ⟨pg2, q1, q2.fr y2 (by decide)⟩
  · rw [hc10]
    refine g_aload_n (pc := 13) dc_V_tellPage_13 rfl ?_
    refine g_getfield (pc := 14) dc_V_tellPage_14 fl_V_23 hV.1 rfl ?_
    refine g_bipush (pc := 17) (v := 60) dc_V_tellPage_17 rfl ?_
    refine q_icmp_ne (pc := 19) (tgt := 24) P.length 60 dc_V_tellPage_19 (by omega) (by omega) rfl (fun hc19 => ?_) (fun hc19 => ?_)
    · refine g_iload (pc := 24) dc_V_tellPage_24 rfl ?_
      refine g_iconst (pc := 26) (v := (-1)) dc_V_tellPage_26 rfl ?_
      refine g_icmp_ne (pc := 27) (tgt := 46) dc_V_tellPage_27 rfl (fun hc => absurd hc (by decide)) (fun _ => ?_)
      refine g_aload_n (pc := 30) dc_V_tellPage_30 rfl ?_
      refine g_getfield (pc := 31) dc_V_tellPage_31 fl_V_23 hV.1 rfl ?_
      refine g_istore (pc := 34) dc_V_tellPage_34 (by decide) ?_
      show am_G X mt_V_tellPage _ 36 [some (.ref 26), some (.ref 8), some (.int (nI s)), some (.ref 1), some (.int (nI f)), some (.int (nI P.length))] [] _ _
      refine g_aload_n (pc := 36) dc_V_tellPage_36 rfl ?_
      refine g_dup (pc := 37) dc_V_tellPage_37 rfl ?_
      refine g_getfield (pc := 38) dc_V_tellPage_38 fl_V_23 hV.1 rfl ?_
      refine g_iconst (pc := 41) (v := 1) dc_V_tellPage_41 rfl ?_
      refine g_iadd (pc := 42) (v := (nI (P.length + 1))) dc_V_tellPage_42 (nI_add P.length 1) ?_
      refine g_putfield (pc := 43) dc_V_tellPage_43 fp_V_tellPage_23 hV.1 (Nat.le_of_ble_eq_true rfl) rfl rfl ?_
      show am_G X mt_V_tellPage _ 46 _ _ (h.set 26 (.inr (6, [.int (nI (P.length + 1)), .ref 27, .ref 28, .int (nI n)]))) _
      have f1 : fr w w h (h.set 26 (.inr (6, [.int (nI (P.length + 1)), .ref 27, .ref 28, .int (nI n)]))) [26] := fr.st hV.1 rfl hV.2
      have hV1 : vO w (h.set 26 (.inr (6, [.int (nI (P.length + 1)), .ref 27, .ref 28, .int (nI n)]))) (P.length + 1) n := ⟨am_se h26, hV.2⟩
      generalize (h.set 26 (.inr (6, [.int (nI (P.length + 1)), .ref 27, .ref 28, .int (nI n)]))) = h2 at f1 hV1 ⊢
      have hnb := nbr_n (hoo.symm.trans hc10)
      refine am_G.mono (t46_V_tellPage (D := D) (L := L) hV1 (cO.fr hA f1 (by decide)) (by omega) (by omega) (hD.fr f1 (by decide)) hc8 hD2 (hL.fr f1 (by decide)) hf) (fun r h1 hz => ?_)
      obtain ⟨y1, w1, pg, y2, y3, y4, y5⟩ := hz
      have hlen : (P ++ [((D, s, sub L f L.length) : Pg)]).length = P.length + 1 := by rw [List.length_append]; rfl
      have e5 : pgx P (D, s, sub L f L.length) = some (P ++ [(D, s, sub L f L.length)]) := by unfold pgx; dsimp only; rw [← hoo, hc10]; exact if_neg hc19
      rw [e5]
      refine ⟨by rw [hlen]; exact y1, w1, (f1.mo (by decide)).tr (y2.mo (by decide)), by rw [hlen]; exact hV1.fr y2 (by decide), ⟨_, y3, fun k hk => ?_⟩, y5⟩
      by_cases e9 : k = P.length
      · rw [e9, vau_s, gP_new]; exact ⟨pg, rfl, y4⟩
      · rw [vau_n e9, gP_app (by omega)]
        obtain ⟨pg2, q1, q2⟩ := hgp k (by omega)
        exact ⟨pg2, q1, (q2.fr f1 (by decide)).fr y2 (by decide)⟩
    · refine g_iconst (pc := 22) (v := (-1)) dc_V_tellPage_22 rfl ?_
      have e5 : pgx P (D, s, sub L f L.length) = none := by unfold pgx; dsimp only; rw [← hoo, hc10]; exact if_pos hc19
      rw [e5]
      exact g_ireturn dc_V_tellPage_23 rfl ⟨rfl, rfl⟩
/-- a page is dropped -/
def drx (P : List Pg) (D : List Int32) : Option (List Pg) := match nbr (pad P) D with
  | none => none
  | some j => some ((P.set j (gP P (P.length - 1))).take (P.length - 1))
theorem w_V_dropPage (hV : vO w h P.length n) (hP : pgC w h P) (h60 : P.length ≤ 60) (hD : bE w h 8 8 D) : am_C X mt_V_dropPage (d + 4) [.ref 26, .ref 8] h (fun r h1 => match drx P D with | none => r = some (.int 0) ∧ h1 = h | some P1 => r = some (.int 1) ∧ ∃ w1, fr w w1 h h1 [26, 27] ∧ vO w1 h1 P1.length n ∧ pgC w1 h1 P1 ∧ w1.2 = w.2) := by
  show am_G X mt_V_dropPage (d + 4) 0 [some (.ref 26), some (.ref 8), none] [] h _
  have hnp : ∀ j, nbr (pad P) D = some j → j < 2 ^ 31 := fun j hj => by have := (nbr_s hj).1; rw [pad_len] at this; omega
  obtain ⟨gp, hA, hgp⟩ := hP
  have h26 := am_lt hV.1
  have h27 := am_lt hA.1
  refine g_aload_n (pc := 0) dc_V_dropPage_0 rfl ?_
  refine g_aload_n (pc := 1) dc_V_dropPage_1 rfl ?_
  refine g_v1 (pc := 2) (M' := mt_V_pageNumber) dc_V_dropPage_2 mo_V_pageNumber im_V_pageNumber se_V_pageNumber ln_V_31 hV.1 rfl rfl (Nat.le_of_ble_eq_true rfl) (Nat.le_of_ble_eq_true rfl) (am_G.mono (c_V_pageNumber (d := d + 1) hV ⟨gp, hA, hgp⟩ h60 hD) ?_)
  intro r h1 hq
  rw [hq.1, hq.2]
  clear hq h1 r
  obtain ⟨oo, hoo⟩ : ∃ oo, oo = nbr (pad P) D := ⟨_, rfl⟩
  rw [← hoo]
  have hnp2 : ∀ j, oo = some j → j < 2 ^ 31 := fun j hj => hnp j (hoo.symm.trans hj)
  refine ⟨am_nti _, ?_⟩
  refine g_istore_n (pc := 5) dc_V_dropPage_5 (by decide) ?_
  show am_G X mt_V_dropPage _ 6 [some (.ref 26), some (.ref 8), some (.int (er oo))] [] _ _
  refine g_iload_n (pc := 6) dc_V_dropPage_6 rfl ?_
  refine g_iconst (pc := 7) (v := (-1)) dc_V_dropPage_7 rfl ?_
  refine q_o_ne (pc := 8) (tgt := 13) dc_V_dropPage_8 hnp2 rfl (fun k8 hc8 => ?_) (fun hc8 => ?_)
  · rw [hc8]
    rw [show er (some k8) = nI k8 from rfl]
    have hk8 := hnp2 k8 hc8
    refine g_aload_n (pc := 13) dc_V_dropPage_13 rfl ?_
    refine g_dup (pc := 14) dc_V_dropPage_14 rfl ?_
    refine g_getfield (pc := 15) dc_V_dropPage_15 fl_V_23 hV.1 rfl ?_
    refine g_iconst (pc := 18) (v := 1) dc_V_dropPage_18 rfl ?_
    have hjk : k8 < P.length := by have := (nbr_s (hoo.symm.trans hc8)).1; rw [pad_len] at this; exact this
    refine g_isub (pc := 19) (v := (nI (P.length - 1))) dc_V_dropPage_19 (q_sub (a := P.length) (b := 1) (by omega)) ?_
    obtain ⟨pg, q1, q2⟩ := hgp (P.length - 1) (by omega)
    have hpo : ∃ fs, h[pg]? = some (.inr (10, fs)) := by obtain ⟨a1, a2, z1, -⟩ := q2; exact ⟨_, z1.1⟩
    obtain ⟨fs, hpo⟩ := hpo
    have np26 : 26 ≠ pg := fun e => by rw [← e, hV.1] at hpo; cases hpo
    have np27 : 27 ≠ pg := fun e => by rw [← e, hA.1] at hpo; cases hpo
    refine g_putfield (pc := 20) dc_V_dropPage_20 fp_V_dropPage_23 hV.1 (Nat.le_of_ble_eq_true rfl) rfl rfl ?_
    show am_G X mt_V_dropPage _ 23 _ _ (h.set 26 (.inr (6, [.int (nI (P.length - 1)), .ref 27, .ref 28, .int (nI n)]))) _
    refine g_aload_n (pc := 23) dc_V_dropPage_23 rfl ?_
    refine g_getfield (pc := 24) dc_V_dropPage_24 fl_V_11 (am_se h26) rfl ?_
    refine g_iload_n (pc := 27) dc_V_dropPage_27 rfl ?_
    refine g_aload_n (pc := 28) dc_V_dropPage_28 rfl ?_
    refine g_getfield (pc := 29) dc_V_dropPage_29 fl_V_11 (am_se h26) rfl ?_
    refine g_aload_n (pc := 32) dc_V_dropPage_32 rfl ?_
    refine g_getfield (pc := 33) dc_V_dropPage_33 fl_V_23 (am_se h26) rfl ?_
    refine q_aaload4 (pc := 36) (P.length - 1) dc_V_dropPage_36 (am_sn (by decide) hA.1) (by omega) (by omega) q1 ?_
    refine q_aastore4 (pc := 37) k8 dc_V_dropPage_37 (am_sn (by decide) hA.1) (by omega) (by omega) (am_sn np26 hpo) ?_
    refine g_aload_n (pc := 38) dc_V_dropPage_38 rfl ?_
    refine g_getfield (pc := 39) dc_V_dropPage_39 fl_V_11 (am_sn (by decide : (27 : Nat) ≠ 26) (am_se h26)) rfl ?_
    refine g_aload_n (pc := 42) dc_V_dropPage_42 rfl ?_
    refine g_getfield (pc := 43) dc_V_dropPage_43 fl_V_23 (am_sn (by decide : (27 : Nat) ≠ 26) (am_se h26)) rfl ?_
    refine g_null (pc := 46) dc_V_dropPage_46 ?_
    refine q_aastore4N (pc := 47) (P.length - 1) dc_V_dropPage_47 (am_se (by rw [List.length_set]; exact h27)) (by omega) (by omega) ?_
    rw [List.set_set]
    refine g_iconst (pc := 48) (v := 1) dc_V_dropPage_48 rfl ?_
    refine g_zreturn dc_V_dropPage_49 rfl rfl ?_
    have f1 : fr w w h (h.set 26 (.inr (6, [.int (nI (P.length - 1)), .ref 27, .ref 28, .int (nI n)]))) [26] := fr.st hV.1 rfl hV.2
    have f2 : fr w w (h.set 26 (.inr (6, [.int (nI (P.length - 1)), .ref 27, .ref 28, .int (nI n)]))) ((h.set 26 (.inr (6, [.int (nI (P.length - 1)), .ref 27, .ref 28, .int (nI n)]))).set 27 (.inl (4, 60, .inr (.inr (.inr (.inr (va_up (va_up gp k8 (some pg)) (P.length - 1) none))))))) [27] := fr.st (am_sn (by decide) hA.1) rfl hA.2
    have f3 : fr w w h ((h.set 26 (.inr (6, [.int (nI (P.length - 1)), .ref 27, .ref 28, .int (nI n)]))).set 27 (.inl (4, 60, .inr (.inr (.inr (.inr (va_up (va_up gp k8 (some pg)) (P.length - 1) none))))))) [26, 27] := (f1.mo (by decide)).tr (f2.mo (by decide))
    have e5 : drx P D = some ((P.set k8 (gP P (P.length - 1))).take (P.length - 1)) := by unfold drx; rw [← hoo, hc8]
    rw [e5]
    have hl : ((P.set k8 (gP P (P.length - 1))).take (P.length - 1)).length = P.length - 1 := by rw [List.length_take, List.length_set]; omega
    refine ⟨rfl, w, f3, by rw [hl]; exact ⟨am_sn (by decide) (am_se h26), hV.2⟩, ⟨_, ⟨am_se (by rw [List.length_set]; exact h27), hA.2⟩, fun k hk => ?_⟩, rfl⟩
    rw [hl] at hk
    rw [gP_take hk, gP_set hjk, vau_n (by omega)]
    by_cases e9 : k = k8
    · rw [e9, vau_s, if_pos rfl]; exact ⟨pg, rfl, q2.fr f3 (by decide)⟩
    · rw [vau_n e9, if_neg e9]
      obtain ⟨pg2, z1, z2⟩ := hgp k (by omega)
      exact ⟨pg2, z1, z2.fr f3 (by decide)⟩
  · rw [hc8]
    refine g_iconst (pc := 11) (v := 0) dc_V_dropPage_11 rfl ?_
    have e5 : drx P D = none := by unfold drx; rw [← hoo, hc8]
    rw [e5]
    exact g_zreturn dc_V_dropPage_12 rfl rfl ⟨rfl, rfl⟩
theorem c_V_pageAt (hV : vO w h P.length n) (hP : pgC w h P) (h60 : P.length ≤ 60) (hD : bE w h i a D) : am_C X mt_V_pageAt (d + 3) [.ref 26, .ref a] h (fun r h1 => h1 = h ∧ match nbr (pad P) D with | none => r = some .null | some j => ∃ pg, r = some (.ref pg) ∧ gG w h pg (gP P j)) := by
  show am_G X mt_V_pageAt (d + 3) 0 [some (.ref 26), some (.ref a), none] [] h _
  have hnp : ∀ j, nbr (pad P) D = some j → j < 2 ^ 31 := fun j hj => by have := (nbr_s hj).1; rw [pad_len] at this; omega
  obtain ⟨gp, hA, hgp⟩ := hP
  refine g_aload_n (pc := 0) dc_V_pageAt_0 rfl ?_
  refine g_aload_n (pc := 1) dc_V_pageAt_1 rfl ?_
  refine g_v1 (pc := 2) (M' := mt_V_pageNumber) dc_V_pageAt_2 mo_V_pageNumber im_V_pageNumber se_V_pageNumber ln_V_31 hV.1 rfl rfl (Nat.le_of_ble_eq_true rfl) (Nat.le_of_ble_eq_true rfl) (am_G.mono (c_V_pageNumber (d := d) hV ⟨gp, hA, hgp⟩ h60 hD) ?_)
  intro r h1 hq
  rw [hq.1, hq.2]
  clear hq h1 r
  obtain ⟨oo, hoo⟩ : ∃ oo, oo = nbr (pad P) D := ⟨_, rfl⟩
  rw [← hoo]
  have hnp2 : ∀ j, oo = some j → j < 2 ^ 31 := fun j hj => hnp j (hoo.symm.trans hj)
  refine ⟨am_nti _, ?_⟩
  refine g_istore_n (pc := 5) dc_V_pageAt_5 (by decide) ?_
  show am_G X mt_V_pageAt _ 6 [some (.ref 26), some (.ref a), some (.int (er oo))] [] _ _
  refine g_iload_n (pc := 6) dc_V_pageAt_6 rfl ?_
  refine g_iconst (pc := 7) (v := (-1)) dc_V_pageAt_7 rfl ?_
  refine q_o_ne (pc := 8) (tgt := 15) dc_V_pageAt_8 hnp2 rfl (fun k8 hc8 => ?_) (fun hc8 => ?_)
  · rw [hc8]
    rw [show er (some k8) = nI k8 from rfl]
    have hk8 := hnp2 k8 hc8
    refine g_aload_n (pc := 15) dc_V_pageAt_15 rfl ?_
    refine g_getfield (pc := 16) dc_V_pageAt_16 fl_V_11 hV.1 rfl ?_
    refine g_iload_n (pc := 19) dc_V_pageAt_19 rfl ?_
    have hjk : k8 < P.length := by have := (nbr_s (hoo.symm.trans hc8)).1; rw [pad_len] at this; exact this
    obtain ⟨pg, q1, q2⟩ := hgp k8 hjk
    refine q_aaload4 (pc := 20) k8 dc_V_pageAt_20 hA.1 (by omega) (by omega) q1 ?_
    exact g_areturn dc_V_pageAt_21 rfl (Or.inl ⟨_, rfl⟩) ⟨rfl, pg, rfl, q2⟩
  · rw [hc8]
    refine g_null (pc := 11) dc_V_pageAt_11 ?_
    refine g_goto (pc := 12) (tgt := 21) dc_V_pageAt_12 rfl ?_
    exact g_areturnN dc_V_pageAt_21 rfl (Or.inl ⟨_, rfl⟩) ⟨rfl, rfl⟩
end C2S
