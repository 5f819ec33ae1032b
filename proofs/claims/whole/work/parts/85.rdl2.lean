/-! ===== the class reads a page's links: the second time through, and all of it; its words ===== -/
/-- the reader of pages, with the links that it found -/
def pgS (w : Gw) (h : List va_E) (Ls : List (List Int32)) : Prop := pR w h ∧ aR w h ∧ eS w h ∧ eB w h 8 8 ∧ eB w h 22 22 ∧ eB w h 24 24 ∧ rE w h 13 14 13 14 Ls []
theorem spl_fl (M : List Int32) : (spl M 0).flatten.length ≤ M.length := by
  have h := spl_len (M := M) M.length 0 (by omega) (by omega)
  cases e : spl M 0 with
  | nil => exact Nat.zero_le _
  | cons x r =>
    rw [e, List.length_cons] at h
    omega
theorem lnk_n {Bs M : List Int32} {Ls : List (List Int32)} (h : mrr M 0 M.length (some Bs) = none) : lnk Bs Ls M = Ls := by
  unfold lnk
  rw [h]
  exact ite_self _
theorem lnk_s {Bs M E : List Int32} {Ls : List (List Int32)} (hl : Ls.length < 60) (h : mrr M 0 M.length (some Bs) = some E) : lnk Bs Ls M = if E ∈ Ls then Ls else Ls ++ [E] := by
  unfold lnk
  rw [if_pos hl, h]
theorem lnk_ok {Bs M : List Int32} {Ls : List (List Int32)} (hb : btg M) (ho : okD Bs) (h : ∀ x, x ∈ Ls → okD x) : ∀ x, x ∈ lnk Bs Ls M → okD x := by
  unfold lnk
  by_cases h1 : Ls.length < 60
  · rw [if_pos h1]
    cases hm : mrr M 0 M.length (some Bs) with
    | none => exact h
    | some E =>
      show ∀ x, x ∈ (if E ∈ Ls then Ls else Ls ++ [E]) → okD x
      by_cases h2 : E ∈ Ls
      · rw [if_pos h2]; exact h
      · rw [if_neg h2]
        intro x hx
        rcases List.mem_append.mp hx with q | q
        · exact h x q
        · rw [List.mem_singleton.mp q]
          exact mrr_ok (Nat.zero_le _) (Nat.le_refl _) hb (fun D1 h9 => by cases h9; exact ho) hm
  · rw [if_neg h1]; exact h
theorem ok_fl : ∀ Ls : List (List Int32), (∀ x, x ∈ Ls → okD x) → Ls.flatten.length ≤ 200 * Ls.length
  | [], _ => Nat.le_refl _
  | x :: r, h => by
    have h1 := ok_fl r (fun y hy => h y (List.mem_cons_of_mem _ hy))
    have h2 := (h x (List.mem_cons_self ..)).2.2.2.2.1
    rw [List.flatten_cons, List.length_append, List.length_cons]
    omega
theorem bsO_ok {L D : List Int32} (hb : btg L) (ho : okD D) : ∀ (l : List Nat) (bo : Option (List Int32)), (∀ x, bo = some x → okD x) → ∀ x, l.foldl (bsO L D) bo = some x → okD x
  | [], _, h => h
  | p :: l, bo, h => by
    rw [List.foldl_cons]
    refine bsO_ok hb ho l _ (fun x hx => ?_)
    unfold bsO at hx
    cases bo with
    | some b => exact h x hx
    | none =>
      cases hw : nxW 22 L p with
      | none => rw [hw] at hx; cases hx
      | some q =>
        rw [hw] at hx
        exact mrr_ok (Nat.zero_le _) (Nat.le_refl _) (btg_dcd hb (q.2 - q.1) q.1 (Nat.le_refl _)) (fun D1 h9 => by cases h9; exact ho) hx
theorem pgB_ok {L D : List Int32} (hb : btg L) (ho : okD D) (l : List Nat) : okD ((l.foldl (bsO L D) none).getD D) := by
  cases e : l.foldl (bsO L D) none with
  | none => exact ho
  | some x => exact bsO_ok hb ho l none (fun x h9 => by cases h9) x e
section RDM
variable {X : am_X} {d c s q ja aa : Nat} {L D Bs : List Int32}
theorem l2_P_readLinks {wa : Gw} {ha : List va_E} (hq : ¬ q ∈ [8, 10, 13, 14, 21, 22, 24]) (ho : okD Bs) (hL8 : L.length ≤ 7999) : ∀ (n p : Nat) (w0 : Gw) (h0 : List va_E) (x0 : va_E) (Ls : List (List Int32)), n ≤ L.length → p ≤ L.length → Ls.length ≤ 60 → (∀ x, x ∈ Ls → okD x) → fr wa w0 ha h0 [8, 10, 13, 14, 21, 22, 24] → scR L s p c x0 → pR w0 h0 → aR w0 h0 → cO w0 h0 21 21 x0 → eB w0 h0 8 8 → bE w0 h0 22 22 Bs → eB w0 h0 24 24 → rE w0 h0 13 14 13 14 Ls [] → tO w0 h0 q c s L → am_G X mt_P_readLinks (d + 9) 142 [some (.ref 12), some (.ref c), some (.int (nI s)), some (.int (nI (s + L.length))), some (.ref aa), some (.int (nI n))] [] h0 (fun r h1 => r = none ∧ ∃ w1, fr wa w1 ha h1 [8, 10, 13, 14, 21, 22, 24] ∧ pgS w1 h1 (((its L n p).flatMap (pvl L)).foldl (lnk Bs) Ls))
  | 0, p, w0, h0, x0, Ls, hn, hp, hl6, hlo, G0, hN0, hP0, hA0, hS0, hR0, hB0, hPl0, hLk0, hx0 => by
    refine g_iload (pc := 142) dc_P_readLinks_142 rfl ?_
    refine q_if_le (pc := 144) (tgt := 246) 0 dc_P_readLinks_144 (by omega) rfl (fun hc144 => ?_) (fun hc => absurd hc (by omega))
    exact g_return dc_P_readLinks_246 rfl ⟨rfl, w0, G0, hP0, hA0, ⟨_, hS0, hN0.any⟩, hR0, ⟨_, hB0⟩, hPl0, hLk0⟩
  | n + 1, p, w0, h0, x0, Ls, hn, hp, hl6, hlo, G0, hN0, hP0, hA0, hS0, hR0, hB0, hPl0, hLk0, hx0 => by
    have hsl : s + L.length ≤ 33554432 := by obtain ⟨cap, g, z1, z2, z3, z4, -⟩ := hx0.1; omega
    have hfl := ok_fl Ls hlo
    by_cases hpl : p < L.length
    · have hnb := nxT_bd hpl
      have hnk := nxK_b L p
      rw [its_s hpl, List.flatMap_cons, List.foldl_append]
      cases hw : nxW 28 L p with
      | none =>
        rw [pvl_n hw, List.foldl_nil]
        refine g_iload (pc := 142) dc_P_readLinks_142 rfl ?_
        refine q_if_le (pc := 144) (tgt := 246) (n + 1) dc_P_readLinks_144 (by omega) rfl (fun hc => absurd hc (by omega)) (fun hc144 => ?_)
        refine g_aload_n (pc := 147) dc_P_readLinks_147 rfl ?_
        refine g_getfield (pc := 148) dc_P_readLinks_148 fl_P_26 hP0.1 rfl ?_
        refine g_v0 (pc := 151) (M' := mt_S_next) dc_P_readLinks_151 mo_S_next im_S_next se_S_next ln_P_54 (scC hS0 hN0.any) rfl rfl (Nat.le_of_ble_eq_true rfl) (Nat.le_of_ble_eq_true rfl) (am_G.mono (w_S_next (d := d) hS0 hN0 hx0 hpl) ?_)
        intro r h1 hz
        obtain ⟨hz1, w1, g1, x1, hS1, hN1⟩ := hz
        rw [hz1]
        have hP1 := hP0.fr g1 (by decide)
        have hA1 := hA0.fr g1 (by decide) (by decide) (by decide)
        have hR1 := hR0.fr g1 (by decide)
        have hB1 := hB0.fr g1 (by decide)
        have hPl1 := hPl0.fr g1 (by decide)
        have hLk1 := hLk0.fr g1 (by decide) (by decide)
        have hx1 := hx0.fr g1 (fun h9 => hq ((by decide : ∀ x, x ∈ [21] → x ∈ [8, 10, 13, 14, 21, 22, 24]) _ h9))
        have G1 := G0.tr (g1.mo (by decide : ∀ x, x ∈ [21] → x ∈ [8, 10, 13, 14, 21, 22, 24]))
        clear hz1 r
        refine ⟨am_nti _, ?_⟩
        refine q_if_eq (pc := 154) (tgt := 246) (nxK L p) dc_P_readLinks_154 (by omega) rfl (fun hc => absurd hc (by omega)) (fun hc154 => ?_)
        refine g_aload_n (pc := 157) dc_P_readLinks_157 rfl ?_
        refine g_getfield (pc := 158) dc_P_readLinks_158 fl_P_14 hP1.1 rfl ?_
        have hq13 := hLk1
        obtain ⟨b13, e13, z13⟩ := hq13
        refine g_getfield (pc := 161) dc_P_readLinks_161 fl_P_92 z13.1.1 rfl ?_
        refine g_bipush (pc := 164) (v := 60) dc_P_readLinks_164 rfl ?_
        refine q_icmp_ge (pc := 166) (tgt := 240) Ls.length 60 dc_P_readLinks_166 (by omega) (by omega) rfl (fun hc166 => ?_) (fun hc166 => ?_)
        · refine g_iinc (pc := 240) (v := (nI n)) dc_P_readLinks_240 rfl ((q_m1 (x := n + 1) (by omega)).trans (congrArg nI (by omega))) (by decide) ?_
          show am_G X mt_P_readLinks _ 243 [some (.ref 12), some (.ref c), some (.int (nI s)), some (.int (nI (s + L.length))), some (.ref aa), some (.int (nI n))] [] _ _
          refine g_goto (pc := 243) (tgt := 142) dc_P_readLinks_243 rfl ?_
          show am_G X mt_P_readLinks (d + 9) 142 [some (.ref 12), some (.ref c), some (.int (nI s)), some (.int (nI (s + L.length))), some (.ref aa), some (.int (nI n))] [] h1 _
          exact l2_P_readLinks hq ho hL8 n (nxT L p) w1 h1 _ Ls (by omega) (by omega) hl6 hlo G1 hN1.sR hP1 hA1 hS1 hR1 hB1 hPl1 hLk1 hx1
        · refine g_aload_n (pc := 169) dc_P_readLinks_169 rfl ?_
          refine g_getfield (pc := 170) dc_P_readLinks_170 fl_P_26 hP1.1 rfl ?_
          refine g_ldcS (pc := 173) 28 dc_P_readLinks_173 (by decide) rfl rfl ?_
          refine g_v1 (pc := 175) (M' := mt_S_hasHref) dc_P_readLinks_175 mo_S_hasHref im_S_hasHref se_S_hasHref ln_P_59 (scC hS1 hN1.sR.any) rfl rfl (Nat.le_of_ble_eq_true rfl) (Nat.le_of_ble_eq_true rfl) (am_G.mono (q_S_hasHref (nm := 28) (by decide) hS1.1 hN1 hx1.1.tt) ?_)
          intro r h9 hz
          rw [hz.1, hz.2, hw]
          clear hz r h9
          refine ⟨am_nti _, ?_⟩
          refine g_if_eq (pc := 178) (tgt := 240) dc_P_readLinks_178 rfl (fun _ => ?_) (fun hc => absurd hc (by decide))
          refine g_iinc (pc := 240) (v := (nI n)) dc_P_readLinks_240 rfl ((q_m1 (x := n + 1) (by omega)).trans (congrArg nI (by omega))) (by decide) ?_
          show am_G X mt_P_readLinks _ 243 [some (.ref 12), some (.ref c), some (.int (nI s)), some (.int (nI (s + L.length))), some (.ref aa), some (.int (nI n))] [] _ _
          refine g_goto (pc := 243) (tgt := 142) dc_P_readLinks_243 rfl ?_
          show am_G X mt_P_readLinks (d + 9) 142 [some (.ref 12), some (.ref c), some (.int (nI s)), some (.int (nI (s + L.length))), some (.ref aa), some (.int (nI n))] [] h1 _
          exact l2_P_readLinks hq ho hL8 n (nxT L p) w1 h1 _ Ls (by omega) (by omega) hl6 hlo G1 hN1.sR hP1 hA1 hS1 hR1 hB1 hPl1 hLk1 hx1
      | some z =>
        have hH := nxW_H hw
        have hzb := nxW_len (by decide) hw
        have hdl := dcd_len (L := L) (t := z.2) (z.2 - z.1) z.1 (Nat.le_refl _)
        have hbM := btg_dcd hx0.1.btg (z.2 - z.1) z.1 (Nat.le_refl _)
        rw [show pvl L p = [(dcd L z.1 z.2)] from by unfold pvl; rw [hw], List.foldl_cons, List.foldl_nil]
        refine g_iload (pc := 142) dc_P_readLinks_142 rfl ?_
        refine q_if_le (pc := 144) (tgt := 246) (n + 1) dc_P_readLinks_144 (by omega) rfl (fun hc => absurd hc (by omega)) (fun hc144 => ?_)
        refine g_aload_n (pc := 147) dc_P_readLinks_147 rfl ?_
        refine g_getfield (pc := 148) dc_P_readLinks_148 fl_P_26 hP0.1 rfl ?_
        refine g_v0 (pc := 151) (M' := mt_S_next) dc_P_readLinks_151 mo_S_next im_S_next se_S_next ln_P_54 (scC hS0 hN0.any) rfl rfl (Nat.le_of_ble_eq_true rfl) (Nat.le_of_ble_eq_true rfl) (am_G.mono (w_S_next (d := d) hS0 hN0 hx0 hpl) ?_)
        intro r h1 hz
        obtain ⟨hz1, w1, g1, x1, hS1, hN1⟩ := hz
        rw [hz1]
        have hP1 := hP0.fr g1 (by decide)
        have hA1 := hA0.fr g1 (by decide) (by decide) (by decide)
        have hR1 := hR0.fr g1 (by decide)
        have hB1 := hB0.fr g1 (by decide)
        have hPl1 := hPl0.fr g1 (by decide)
        have hLk1 := hLk0.fr g1 (by decide) (by decide)
        have hx1 := hx0.fr g1 (fun h9 => hq ((by decide : ∀ x, x ∈ [21] → x ∈ [8, 10, 13, 14, 21, 22, 24]) _ h9))
        have G1 := G0.tr (g1.mo (by decide : ∀ x, x ∈ [21] → x ∈ [8, 10, 13, 14, 21, 22, 24]))
        clear hz1 r
        refine ⟨am_nti _, ?_⟩
        refine q_if_eq (pc := 154) (tgt := 246) (nxK L p) dc_P_readLinks_154 (by omega) rfl (fun hc => absurd hc (by omega)) (fun hc154 => ?_)
        refine g_aload_n (pc := 157) dc_P_readLinks_157 rfl ?_
        refine g_getfield (pc := 158) dc_P_readLinks_158 fl_P_14 hP1.1 rfl ?_
        have hq13 := hLk1
        obtain ⟨b13, e13, z13⟩ := hq13
        refine g_getfield (pc := 161) dc_P_readLinks_161 fl_P_92 z13.1.1 rfl ?_
        refine g_bipush (pc := 164) (v := 60) dc_P_readLinks_164 rfl ?_
        refine q_icmp_ge (pc := 166) (tgt := 240) Ls.length 60 dc_P_readLinks_166 (by omega) (by omega) rfl (fun hc166 => ?_) (fun hc166 => ?_)
        · refine g_iinc (pc := 240) (v := (nI n)) dc_P_readLinks_240 rfl ((q_m1 (x := n + 1) (by omega)).trans (congrArg nI (by omega))) (by decide) ?_
          show am_G X mt_P_readLinks _ 243 [some (.ref 12), some (.ref c), some (.int (nI s)), some (.int (nI (s + L.length))), some (.ref aa), some (.int (nI n))] [] _ _
          refine g_goto (pc := 243) (tgt := 142) dc_P_readLinks_243 rfl ?_
          rw [show lnk Bs Ls (dcd L z.1 z.2) = Ls from if_neg (by omega)]
          show am_G X mt_P_readLinks (d + 9) 142 [some (.ref 12), some (.ref c), some (.int (nI s)), some (.int (nI (s + L.length))), some (.ref aa), some (.int (nI n))] [] h1 _
          exact l2_P_readLinks hq ho hL8 n (nxT L p) w1 h1 _ Ls (by omega) (by omega) hl6 hlo G1 hN1.sR hP1 hA1 hS1 hR1 hB1 hPl1 hLk1 hx1
        · refine g_aload_n (pc := 169) dc_P_readLinks_169 rfl ?_
          refine g_getfield (pc := 170) dc_P_readLinks_170 fl_P_26 hP1.1 rfl ?_
          refine g_ldcS (pc := 173) 28 dc_P_readLinks_173 (by decide) rfl rfl ?_
          refine g_v1 (pc := 175) (M' := mt_S_hasHref) dc_P_readLinks_175 mo_S_hasHref im_S_hasHref se_S_hasHref ln_P_59 (scC hS1 hN1.sR.any) rfl rfl (Nat.le_of_ble_eq_true rfl) (Nat.le_of_ble_eq_true rfl) (am_G.mono (q_S_hasHref (nm := 28) (by decide) hS1.1 hN1 hx1.1.tt) ?_)
          intro r h9 hz
          rw [hz.1, hz.2, hw]
          rw [show b1 (some z).isSome = 1 from rfl]
          clear hz r h9
          refine ⟨am_nti _, ?_⟩
          refine g_if_eq (pc := 178) (tgt := 240) dc_P_readLinks_178 rfl (fun hc => absurd hc (by decide)) (fun _ => ?_)
          refine g_aload_n (pc := 181) dc_P_readLinks_181 rfl ?_
          refine g_aload_n (pc := 182) dc_P_readLinks_182 rfl ?_
          refine g_aload_n (pc := 183) dc_P_readLinks_183 rfl ?_
          refine g_getfield (pc := 184) dc_P_readLinks_184 fl_P_26 hP1.1 rfl ?_
          obtain ⟨w6, w7, w8, e21⟩ := hN1.hr hH
          have hS21 := hS1.1
          rw [e21] at hS21
          refine g_getfield (pc := 187) dc_P_readLinks_187 fl_P_63 hS21 rfl ?_
          refine g_aload_n (pc := 190) dc_P_readLinks_190 rfl ?_
          refine g_getfield (pc := 191) dc_P_readLinks_191 fl_P_26 hP1.1 rfl ?_
          refine g_getfield (pc := 194) dc_P_readLinks_194 fl_P_67 hS21 rfl ?_
          obtain ⟨P9, hp9⟩ := hPl1
          refine g_v3 (pc := 197) (M' := mt_P_decode) dc_P_readLinks_197 mo_P_decode im_P_decode se_P_decode ln_P_70 hP1.1 rfl rfl (Nat.le_of_ble_eq_true rfl) (Nat.le_of_ble_eq_true rfl) (am_G.mono (w_P_decode (d := d + 2) (f := z.1) (t := z.2) hP1 hp9 hx1 (fun e => hq (by rw [e]; decide)) (by omega) (by omega) (by omega)) ?_)
          intro r h2 hz
          obtain ⟨hz1, w2, g2, hPl2⟩ := hz
          rw [hz1]
          have hP2 := hP1.fr g2 (by decide)
          have hA2 := hA1.fr g2 (by decide) (by decide) (by decide)
          have hS2 := hS1.fr g2 (by decide)
          have hR2 := hR1.fr g2 (by decide)
          have hB2 := hB1.fr g2 (by decide)
          have hLk2 := hLk1.fr g2 (by decide) (by decide)
          have hx2 := hx1.fr g2 (fun h9 => hq ((by decide : ∀ x, x ∈ [24] → x ∈ [8, 10, 13, 14, 21, 22, 24]) _ h9))
          have G2 := G1.tr (g2.mo (by decide : ∀ x, x ∈ [24] → x ∈ [8, 10, 13, 14, 21, 22, 24]))
          clear hz1 r
          refine ⟨am_nt0, ?_⟩
          refine g_aload_n (pc := 200) dc_P_readLinks_200 rfl ?_
          refine g_getfield (pc := 201) dc_P_readLinks_201 fl_P_42 hP2.1 rfl ?_
          refine g_aload_n (pc := 204) dc_P_readLinks_204 rfl ?_
          have hq24 := hPl2
          obtain ⟨b24, hz24⟩ := hq24
          refine g_getfield (pc := 205) dc_P_readLinks_205 fl_P_39 hP2.1 rfl ?_
          refine g_getfield (pc := 208) dc_P_readLinks_208 fl_P_73 hz24.1.ha rfl ?_
          refine g_iconst (pc := 211) (v := 0) dc_P_readLinks_211 rfl ?_
          refine g_aload_n (pc := 212) dc_P_readLinks_212 rfl ?_
          refine g_getfield (pc := 213) dc_P_readLinks_213 fl_P_39 hP2.1 rfl ?_
          refine g_getfield (pc := 216) dc_P_readLinks_216 fl_P_77 hz24.1.ha rfl ?_
          refine g_aload_n (pc := 219) dc_P_readLinks_219 rfl ?_
          refine g_getfield (pc := 220) dc_P_readLinks_220 fl_P_35 hP2.1 rfl ?_
          obtain ⟨R9, hr9⟩ := hR2
          have hrs := wD_A_resolve (X := X) (d := d + 1) (f := 0) (t := (dcd L z.1 z.2).length) hA2 hr9 hB2 (by decide) ho hz24.tO (by decide) (Nat.zero_le _) (Nat.le_refl _) (by omega)
          simp only [Nat.zero_add] at hrs
          refine g_v4 (pc := 223) (M' := mt_A_resolve) dc_P_readLinks_223 mo_A_resolve im_A_resolve se_A_resolve ln_P_80 hA2.1.1 rfl rfl (Nat.le_of_ble_eq_true rfl) (Nat.le_of_ble_eq_true rfl) (am_G.mono hrs ?_)
          intro r h3 hz
          obtain ⟨w3, g3, hA3, hz⟩ := hz
          have hP3 := hP2.fr g3 (by decide)
          have hS3 := hS2.fr g3 (by decide)
          have hB3 := hB2.fr g3 (by decide)
          have hPl3 := hPl2.fr g3 (by decide)
          have hLk3 := hLk2.fr g3 (by decide) (by decide)
          have hx3 := hx2.fr g3 (fun h9 => hq ((by decide : ∀ x, x ∈ [8, 10] → x ∈ [8, 10, 13, 14, 21, 22, 24]) _ h9))
          have G3 := G2.tr (g3.mo (by decide : ∀ x, x ∈ [8, 10] → x ∈ [8, 10, 13, 14, 21, 22, 24]))
          have hPl3 : eB w3 h3 24 24 := ⟨_, hPl3⟩
          have hN3 := hN1
          cases hm : mrr (dcd L z.1 z.2) 0 (dcd L z.1 z.2).length (some Bs) with
          | none =>
            rw [hm] at hz
            obtain ⟨hz1, hR3⟩ := hz
            have hR3 : eB w3 h3 8 8 := ⟨_, hR3⟩
            rw [hz1]
            clear hz1 r
            refine ⟨am_nti _, ?_⟩
            refine g_if_eq (pc := 226) (tgt := 240) dc_P_readLinks_226 rfl (fun _ => ?_) (fun hc => absurd hc (by decide))
            refine g_iinc (pc := 240) (v := (nI n)) dc_P_readLinks_240 rfl ((q_m1 (x := n + 1) (by omega)).trans (congrArg nI (by omega))) (by decide) ?_
            show am_G X mt_P_readLinks _ 243 [some (.ref 12), some (.ref c), some (.int (nI s)), some (.int (nI (s + L.length))), some (.ref aa), some (.int (nI n))] [] _ _
            refine g_goto (pc := 243) (tgt := 142) dc_P_readLinks_243 rfl ?_
            rw [lnk_n hm]
            show am_G X mt_P_readLinks (d + 9) 142 [some (.ref 12), some (.ref c), some (.int (nI s)), some (.int (nI (s + L.length))), some (.ref aa), some (.int (nI n))] [] h3 _
            exact l2_P_readLinks hq ho hL8 n (nxT L p) w3 h3 _ Ls (by omega) (by omega) hl6 hlo G3 hN3.sR hP3 hA3 hS3 hR3 hB3 hPl3 hLk3 hx3
          | some E =>
            rw [hm] at hz
            obtain ⟨hz1, hR3⟩ := hz
            rw [hz1]
            clear hz1 r
            have hE : okD E := mrr_ok (Nat.zero_le _) (Nat.le_refl _) hbM (fun D1 h9 => by cases h9; exact ho) hm
            have h60 := lnk_60 (Bs := Bs) (V := (dcd L z.1 z.2)) hl6
            have hlo2 := lnk_ok hbM ho hlo
            rw [lnk_s (by omega) hm] at h60 hlo2 ⊢
            refine ⟨am_nti _, ?_⟩
            refine g_if_eq (pc := 226) (tgt := 240) dc_P_readLinks_226 rfl (fun hc => absurd hc (by decide)) (fun _ => ?_)
            refine g_aload_n (pc := 229) dc_P_readLinks_229 rfl ?_
            refine g_aload_n (pc := 230) dc_P_readLinks_230 rfl ?_
            refine g_getfield (pc := 231) dc_P_readLinks_231 fl_P_42 hP3.1 rfl ?_
            refine g_getfield (pc := 234) dc_P_readLinks_234 fl_P_86 hA3.1.1 rfl ?_
            refine g_v1 (pc := 237) (M' := mt_P_addLink) dc_P_readLinks_237 mo_P_addLink im_P_addLink se_P_addLink ln_P_97 hP3.1 rfl rfl (Nat.le_of_ble_eq_true rfl) (Nat.le_of_ble_eq_true rfl) (am_G.mono (w_P_addLink (d := d + 4) hP3 hLk3 hR3 hE.2.2.2.2.1 (by omega) (by omega)) ?_)
            intro r h4 hz
            obtain ⟨hz1, w4, g4, hLk4⟩ := hz
            rw [hz1]
            have hP4 := hP3.fr g4 (by decide)
            have hA4 := hA3.fr g4 (by decide) (by decide) (by decide)
            have hS4 := hS3.fr g4 (by decide)
            have hR4 := hR3.fr g4 (by decide)
            have hB4 := hB3.fr g4 (by decide)
            have hPl4 := hPl3.fr g4 (by decide)
            have hx4 := hx3.fr g4 (fun h9 => hq ((by decide : ∀ x, x ∈ [13, 14] → x ∈ [8, 10, 13, 14, 21, 22, 24]) _ h9))
            have G4 := G3.tr (g4.mo (by decide : ∀ x, x ∈ [13, 14] → x ∈ [8, 10, 13, 14, 21, 22, 24]))
            clear hz1 r
            refine ⟨am_nt0, ?_⟩
            refine g_iinc (pc := 240) (v := (nI n)) dc_P_readLinks_240 rfl ((q_m1 (x := n + 1) (by omega)).trans (congrArg nI (by omega))) (by decide) ?_
            show am_G X mt_P_readLinks _ 243 [some (.ref 12), some (.ref c), some (.int (nI s)), some (.int (nI (s + L.length))), some (.ref aa), some (.int (nI n))] [] _ _
            refine g_goto (pc := 243) (tgt := 142) dc_P_readLinks_243 rfl ?_
            have hR4 : eB w4 h4 8 8 := ⟨_, hR4⟩
            have hN4 := hN3
            show am_G X mt_P_readLinks (d + 9) 142 [some (.ref 12), some (.ref c), some (.int (nI s)), some (.int (nI (s + L.length))), some (.ref aa), some (.int (nI n))] [] h4 _
            exact l2_P_readLinks hq ho hL8 n (nxT L p) w4 h4 _ _ (by omega) (by omega) h60 hlo2 G4 hN4.sR hP4 hA4 hS4 hR4 hB4 hPl4 hLk4 hx4
    · rw [its_out (by omega)]
      refine g_iload (pc := 142) dc_P_readLinks_142 rfl ?_
      refine q_if_le (pc := 144) (tgt := 246) (n + 1) dc_P_readLinks_144 (by omega) rfl (fun hc => absurd hc (by omega)) (fun hc144 => ?_)
      refine g_aload_n (pc := 147) dc_P_readLinks_147 rfl ?_
      refine g_getfield (pc := 148) dc_P_readLinks_148 fl_P_26 hP0.1 rfl ?_
      refine g_v0 (pc := 151) (M' := mt_S_next) dc_P_readLinks_151 mo_S_next im_S_next se_S_next ln_P_54 (scC hS0 hN0.any) rfl rfl (Nat.le_of_ble_eq_true rfl) (Nat.le_of_ble_eq_true rfl) (am_G.mono (w_S_end hS0 hN0 hx0 (by omega) (by omega)) ?_)
      intro r h1 hz
      obtain ⟨hz1, w1, g1, x1, hS1, hN1⟩ := hz
      rw [hz1]
      have hP1 := hP0.fr g1 (by decide)
      have hA1 := hA0.fr g1 (by decide) (by decide) (by decide)
      have hR1 := hR0.fr g1 (by decide)
      have hB1 := hB0.fr g1 (by decide)
      have hPl1 := hPl0.fr g1 (by decide)
      have hLk1 := hLk0.fr g1 (by decide) (by decide)
      have hx1 := hx0.fr g1 (fun h9 => hq ((by decide : ∀ x, x ∈ [21] → x ∈ [8, 10, 13, 14, 21, 22, 24]) _ h9))
      have G1 := G0.tr (g1.mo (by decide : ∀ x, x ∈ [21] → x ∈ [8, 10, 13, 14, 21, 22, 24]))
      clear hz1 r
      refine ⟨am_nti _, ?_⟩
      refine g_if_eq (pc := 154) (tgt := 246) dc_P_readLinks_154 rfl (fun _ => ?_) (fun hc => absurd hc (by decide))
      exact g_return dc_P_readLinks_246 rfl ⟨rfl, w1, G1, hP1, hA1, ⟨_, hS1, hN1⟩, hR1, ⟨_, hB1⟩, hPl1, hLk1⟩
theorem w_P_readLinks {w0 : Gw} {h0 : List va_E} {Ls : List (List Int32)} (hq : ¬ q ∈ [8, 10, 13, 14, 21, 22, 24]) (hj : ¬ ja ∈ [8, 10, 13, 14, 21, 22, 24]) (ho : okD D) (hL8 : L.length ≤ 7999) (hS : pgS w0 h0 Ls) (hx0 : tO w0 h0 q c s L) (hD0 : bE w0 h0 ja aa D) : am_C X mt_P_readLinks (d + 9) [.ref 12, .ref c, .int (nI s), .int (nI (s + L.length)), .ref aa] h0 (fun r h1 => r = none ∧ ∃ w1, fr w0 w1 h0 h1 [8, 10, 13, 14, 21, 22, 24] ∧ pgS w1 h1 (pgL L D)) := by
  obtain ⟨hP0, hA0, ⟨x0, hS0, hN0⟩, hR0, ⟨B0, hB0⟩, hPl0, hLk0⟩ := hS
  have G0 : fr w0 w0 h0 h0 [8, 10, 13, 14, 21, 22, 24] := fr.rf
  have hsl : s + L.length ≤ 33554432 := by obtain ⟨cap, g, z1, z2, z3, z4, -⟩ := hx0.1; omega
  have h200 := ho.2.2.2.2.1
  obtain ⟨b22, hz22⟩ := hB0
  have hB0 : bE w0 h0 22 22 B0 := ⟨b22, hz22⟩
  show am_G X mt_P_readLinks (d + 9) 0 [some (.ref 12), some (.ref c), some (.int (nI s)), some (.int (nI (s + L.length))), some (.ref aa), none] [] h0 _
  refine g_aload_n (pc := 0) dc_P_readLinks_0 rfl ?_
  refine g_getfield (pc := 1) dc_P_readLinks_1 fl_P_35 hP0.1 rfl ?_
  refine g_aload (pc := 4) dc_P_readLinks_4 rfl ?_
  refine g_v1 (pc := 6) (M' := mt_B_become) dc_P_readLinks_6 mo_B_become im_B_become se_B_become ln_P_46 hz22.1.ha rfl rfl (Nat.le_of_ble_eq_true rfl) (Nat.le_of_ble_eq_true rfl) (am_G.mono (w_B_become (d := d + 5) (by decide) hB0 hD0 (fun e => hj (by rw [e]; decide)) (by show _ ≤ 40016; omega)) ?_)
  intro r h1 hz
  obtain ⟨hz1, w1, g1, hB1⟩ := hz
  rw [hz1]
  have hP1 := hP0.fr g1 (by decide)
  have hA1 := hA0.fr g1 (by decide) (by decide) (by decide)
  have hS1 := hS0.fr g1 (by decide)
  have hR1 := hR0.fr g1 (by decide)
  have hPl1 := hPl0.fr g1 (by decide)
  have hLk1 := hLk0.fr g1 (by decide) (by decide)
  have hx1 := hx0.fr g1 (fun h9 => hq ((by decide : ∀ x, x ∈ [22] → x ∈ [8, 10, 13, 14, 21, 22, 24]) _ h9))
  have hD1 := hD0.fr g1 (fun h9 => hj ((by decide : ∀ x, x ∈ [22] → x ∈ [8, 10, 13, 14, 21, 22, 24]) _ h9))
  have G1 := G0.tr (g1.mo (by decide : ∀ x, x ∈ [22] → x ∈ [8, 10, 13, 14, 21, 22, 24]))
  clear hz1 r
  have hN1 := hN0
  refine ⟨am_nt0, ?_⟩
  refine g_aload_n (pc := 9) dc_P_readLinks_9 rfl ?_
  refine g_getfield (pc := 10) dc_P_readLinks_10 fl_P_26 hP1.1 rfl ?_
  refine g_aload_n (pc := 13) dc_P_readLinks_13 rfl ?_
  refine g_iload_n (pc := 14) dc_P_readLinks_14 rfl ?_
  refine g_iload_n (pc := 15) dc_P_readLinks_15 rfl ?_
  refine g_v3 (pc := 16) (M' := mt_S_open) dc_P_readLinks_16 mo_S_open im_S_open se_S_open ln_P_50 (scC hS1 hN1) rfl rfl (Nat.le_of_ble_eq_true rfl) (Nat.le_of_ble_eq_true rfl) (am_G.mono (w_S_open (c := c) (s := s) (L := L) hS1 hN1) ?_)
  intro r h2 hz
  obtain ⟨hz1, w2, g2, x2, hS2, hN2⟩ := hz
  rw [hz1]
  have hP2 := hP1.fr g2 (by decide)
  have hA2 := hA1.fr g2 (by decide) (by decide) (by decide)
  have hR2 := hR1.fr g2 (by decide)
  have hB2 := hB1.fr g2 (by decide)
  have hPl2 := hPl1.fr g2 (by decide)
  have hLk2 := hLk1.fr g2 (by decide) (by decide)
  have hx2 := hx1.fr g2 (fun h9 => hq ((by decide : ∀ x, x ∈ [21] → x ∈ [8, 10, 13, 14, 21, 22, 24]) _ h9))
  have hD2 := hD1.fr g2 (fun h9 => hj ((by decide : ∀ x, x ∈ [21] → x ∈ [8, 10, 13, 14, 21, 22, 24]) _ h9))
  have G2 := G1.tr (g2.mo (by decide : ∀ x, x ∈ [21] → x ∈ [8, 10, 13, 14, 21, 22, 24]))
  clear hz1 r
  refine ⟨am_nt0, ?_⟩
  refine g_iload_n (pc := 19) dc_P_readLinks_19 rfl ?_
  refine g_iload_n (pc := 20) dc_P_readLinks_20 rfl ?_
  refine g_isub (pc := 21) (v := (nI L.length)) dc_P_readLinks_21 ((q_sub (a := s + L.length) (b := s) (by omega)).trans (congrArg nI (by omega))) ?_
  refine g_istore (pc := 22) dc_P_readLinks_22 (by decide) ?_
  show am_G X mt_P_readLinks _ 24 [some (.ref 12), some (.ref c), some (.int (nI s)), some (.int (nI (s + L.length))), some (.ref aa), some (.int (nI L.length))] [] _ _
  refine l1_P_readLinks (wa := w0) (ha := h0) hq hj ho hL8 L.length 0 w2 h2 _ (Nat.le_refl _) (Nat.zero_le _) G2 hN2 hP2 hA2 hS2 hR2 hB2 hPl2 ⟨_, _, hLk2⟩ hx2 hD2 ?_
  intro w3 h3 G3 hP3 hA3 hS3 hR3 hB3 hPl3 hLk3 hx3 hD3
  obtain ⟨x3, hS3, hN3⟩ := hS3
  obtain ⟨T3, P3, hLk3⟩ := hLk3
  obtain ⟨b13, e13, z13⟩ := hLk3
  have hLk3 : rE w3 h3 13 14 13 14 T3 P3 := ⟨b13, e13, z13⟩
  have hok := pgB_ok hx0.1.btg ho (its L L.length 0)
  refine g_aload_n (pc := 120) dc_P_readLinks_120 rfl ?_
  refine g_getfield (pc := 121) dc_P_readLinks_121 fl_P_14 hP3.1 rfl ?_
  refine g_v0 (pc := 124) (M' := mt_R_clear) dc_P_readLinks_124 mo_R_clear im_R_clear se_R_clear ln_P_89 z13.1.1 rfl rfl (Nat.le_of_ble_eq_true rfl) (Nat.le_of_ble_eq_true rfl) (am_G.mono (w_R_clear (d := d + 6) (by decide) (by decide) (by decide) hLk3) ?_)
  intro r h4 hz
  obtain ⟨hz1, w4, g4, hLk4⟩ := hz
  rw [hz1]
  have hP4 := hP3.fr g4 (by decide)
  have hA4 := hA3.fr g4 (by decide) (by decide) (by decide)
  have hS4 := hS3.fr g4 (by decide)
  have hR4 := hR3.fr g4 (by decide)
  have hB4 := hB3.fr g4 (by decide)
  have hPl4 := hPl3.fr g4 (by decide)
  have hx4 := hx3.fr g4 (fun h9 => hq ((by decide : ∀ x, x ∈ [13, 14] → x ∈ [8, 10, 13, 14, 21, 22, 24]) _ h9))
  have hD4 := hD3.fr g4 (fun h9 => hj ((by decide : ∀ x, x ∈ [13, 14] → x ∈ [8, 10, 13, 14, 21, 22, 24]) _ h9))
  have G4 := G3.tr (g4.mo (by decide : ∀ x, x ∈ [13, 14] → x ∈ [8, 10, 13, 14, 21, 22, 24]))
  clear hz1 r
  have hN4 := hN3
  refine ⟨am_nt0, ?_⟩
  refine g_aload_n (pc := 127) dc_P_readLinks_127 rfl ?_
  refine g_getfield (pc := 128) dc_P_readLinks_128 fl_P_26 hP4.1 rfl ?_
  refine g_aload_n (pc := 131) dc_P_readLinks_131 rfl ?_
  refine g_iload_n (pc := 132) dc_P_readLinks_132 rfl ?_
  refine g_iload_n (pc := 133) dc_P_readLinks_133 rfl ?_
  refine g_v3 (pc := 134) (M' := mt_S_open) dc_P_readLinks_134 mo_S_open im_S_open se_S_open ln_P_50 (scC hS4 hN4) rfl rfl (Nat.le_of_ble_eq_true rfl) (Nat.le_of_ble_eq_true rfl) (am_G.mono (w_S_open (c := c) (s := s) (L := L) hS4 hN4) ?_)
  intro r h5 hz
  obtain ⟨hz1, w5, g5, x5, hS5, hN5⟩ := hz
  rw [hz1]
  have hP5 := hP4.fr g5 (by decide)
  have hA5 := hA4.fr g5 (by decide) (by decide) (by decide)
  have hR5 := hR4.fr g5 (by decide)
  have hB5 := hB4.fr g5 (by decide)
  have hPl5 := hPl4.fr g5 (by decide)
  have hLk5 := hLk4.fr g5 (by decide) (by decide)
  have hx5 := hx4.fr g5 (fun h9 => hq ((by decide : ∀ x, x ∈ [21] → x ∈ [8, 10, 13, 14, 21, 22, 24]) _ h9))
  have hD5 := hD4.fr g5 (fun h9 => hj ((by decide : ∀ x, x ∈ [21] → x ∈ [8, 10, 13, 14, 21, 22, 24]) _ h9))
  have G5 := G4.tr (g5.mo (by decide : ∀ x, x ∈ [21] → x ∈ [8, 10, 13, 14, 21, 22, 24]))
  clear hz1 r
  refine ⟨am_nt0, ?_⟩
  refine g_iload_n (pc := 137) dc_P_readLinks_137 rfl ?_
  refine g_iload_n (pc := 138) dc_P_readLinks_138 rfl ?_
  refine g_isub (pc := 139) (v := (nI L.length)) dc_P_readLinks_139 ((q_sub (a := s + L.length) (b := s) (by omega)).trans (congrArg nI (by omega))) ?_
  refine g_istore (pc := 140) dc_P_readLinks_140 (by decide) ?_
  show am_G X mt_P_readLinks _ 142 [some (.ref 12), some (.ref c), some (.int (nI s)), some (.int (nI (s + L.length))), some (.ref aa), some (.int (nI L.length))] [] _ _
  exact l2_P_readLinks hq hok hL8 L.length 0 w5 h5 _ [] (Nat.le_refl _) (Nat.zero_le _) (Nat.zero_le _) (fun x h9 => absurd h9 List.not_mem_nil) G5 hN5 hP5 hA5 hS5 hR5 hB5 hPl5 hLk5 hx5
theorem l_P_readWords_17 {wa : Gw} {ha : List va_E} (hq : ¬ q ∈ [21, 24, 17, 18]) (hL8 : L.length ≤ 7999) : ∀ (n p : Nat) (w0 : Gw) (h0 : List va_E) (x0 : va_E) (T : List (List Int32)), n ≤ L.length → p ≤ L.length → T.flatten.length + (L.length - p) ≤ 19000 → T.length + (L.length - p) ≤ 19000 → fr wa w0 ha h0 [21, 24, 17, 18] → scR L s p c x0 → pR w0 h0 → cO w0 h0 21 21 x0 → eB w0 h0 24 24 → rE w0 h0 17 18 17 18 T [] → tO w0 h0 q c s L → am_G X mt_P_readWords (d + 9) 15 [some (.ref 12), some (.ref c), some (.int (nI s)), some (.int (nI (s + L.length))), some (.ref 17), some (.int (nI n)), none] [] h0 (fun r h1 => r = none ∧ ∃ w1, fr wa w1 ha h1 [21, 24, 17, 18] ∧ pR w1 h1 ∧ eS w1 h1 ∧ eB w1 h1 24 24 ∧ rE w1 h1 17 18 17 18 (T ++ (its L n p).flatMap (pwd L)) [])
  | 0, p, w0, h0, x0, T, hn, hp, hf1, hf2, G0, hN0, hP0, hS0, hPl0, hRw0, hx0 => by
    rw [show (its L 0 p).flatMap (pwd L) = [] from rfl]
    refine g_iload (pc := 15) dc_P_readWords_15 rfl ?_
    refine q_if_le (pc := 17) (tgt := 75) 0 dc_P_readWords_17 (by omega) rfl (fun hc17 => ?_) (fun hc => absurd hc (by omega))
    exact g_return dc_P_readWords_75 rfl ⟨rfl, w0, G0, hP0, ⟨_, hS0, hN0.any⟩, hPl0, by rw [List.append_nil]; exact hRw0⟩
  | n + 1, p, w0, h0, x0, T, hn, hp, hf1, hf2, G0, hN0, hP0, hS0, hPl0, hRw0, hx0 => by
    have hsl : s + L.length ≤ 33554432 := by obtain ⟨cap, g, z1, z2, z3, z4, -⟩ := hx0.1; omega
    by_cases hpl : p < L.length
    · have hnb := nxT_bd hpl
      have hnk := nxK_b L p
      rw [its_s hpl, List.flatMap_cons, ← List.append_assoc]
      have hkk : nxK L p = 1 ↔ kdA L p = 1 := by
        have h9 := kdA_le L p
        unfold nxK
        by_cases h8 : kdA L p = 2
        · rw [if_pos h8]; split <;> omega
        · rw [if_neg h8]
      have hdl := dcd_len (L := L) (t := nxT L p) (nxT L p - p) p (Nat.le_refl _)
      refine g_iload (pc := 15) dc_P_readWords_15 rfl ?_
      refine q_if_le (pc := 17) (tgt := 75) (n + 1) dc_P_readWords_17 (by omega) rfl (fun hc => absurd hc (by omega)) (fun hc17 => ?_)
      refine g_aload_n (pc := 20) dc_P_readWords_20 rfl ?_
      refine g_getfield (pc := 21) dc_P_readWords_21 fl_P_26 hP0.1 rfl ?_
      refine g_v0 (pc := 24) (M' := mt_S_next) dc_P_readWords_24 mo_S_next im_S_next se_S_next ln_P_54 (scC hS0 hN0.any) rfl rfl (Nat.le_of_ble_eq_true rfl) (Nat.le_of_ble_eq_true rfl) (am_G.mono (w_S_next (d := d) hS0 hN0 hx0 hpl) ?_)
      intro r h1 hz
      obtain ⟨hz1, w1, g1, x1, hS1, hN1⟩ := hz
      rw [hz1]
      have hP1 := hP0.fr g1 (by decide)
      have hPl1 := hPl0.fr g1 (by decide)
      have hRw1 := hRw0.fr g1 (by decide) (by decide)
      have hx1 := hx0.fr g1 (fun h9 => hq ((by decide : ∀ x, x ∈ [21] → x ∈ [21, 24, 17, 18]) _ h9))
      have G1 := G0.tr (g1.mo (by decide : ∀ x, x ∈ [21] → x ∈ [21, 24, 17, 18]))
      clear hz1 r
      refine ⟨am_nti _, ?_⟩
      refine g_istore (pc := 27) dc_P_readWords_27 (by decide) ?_
      show am_G X mt_P_readWords _ 29 [some (.ref 12), some (.ref c), some (.int (nI s)), some (.int (nI (s + L.length))), some (.ref 17), some (.int (nI (n + 1))), some (.int (nI (nxK L p)))] [] _ _
      refine g_iload (pc := 29) dc_P_readWords_29 rfl ?_
      refine q_if_ne (pc := 31) (tgt := 35) (nxK L p) dc_P_readWords_31 (by omega) rfl (fun hc31 => ?_) (fun hc => absurd hc (by omega))
      refine g_iload (pc := 35) dc_P_readWords_35 rfl ?_
      refine g_iconst (pc := 37) (v := 1) dc_P_readWords_37 rfl ?_
      refine q_icmp_ne (pc := 38) (tgt := 69) (nxK L p) 1 dc_P_readWords_38 (by omega) (by omega) rfl (fun hc38 => ?_) (fun hc38 => ?_)
      · refine g_iinc (pc := 69) (v := (nI n)) dc_P_readWords_69 rfl ((q_m1 (x := n + 1) (by omega)).trans (congrArg nI (by omega))) (by decide) ?_
        show am_G X mt_P_readWords _ 72 [some (.ref 12), some (.ref c), some (.int (nI s)), some (.int (nI (s + L.length))), some (.ref 17), some (.int (nI n)), some (.int (nI (nxK L p)))] [] _ _
        refine g_goto (pc := 72) (tgt := 15) dc_P_readWords_72 rfl ?_
        rw [show pwd L p = [] from if_neg (fun h9 => absurd (hkk.mpr h9) (by omega)), List.append_nil]
        refine am_wk (am_le_s (am_le_s (am_le_s (am_le_s (am_le_s (am_le_s (am_le_n am_le_0))))))) ?_
        exact l_P_readWords_17 hq hL8 n (nxT L p) w1 h1 _ T (by omega) (by omega) (by omega) (by omega) G1 hN1.sR hP1 hS1 hPl1 hRw1 hx1
      · refine g_aload_n (pc := 41) dc_P_readWords_41 rfl ?_
        refine g_aload_n (pc := 42) dc_P_readWords_42 rfl ?_
        refine g_aload_n (pc := 43) dc_P_readWords_43 rfl ?_
        refine g_getfield (pc := 44) dc_P_readWords_44 fl_P_26 hP1.1 rfl ?_
        obtain ⟨w1a, w2a, w6, w7, w8, e21⟩ := hN1.fl
        have hS21 := hS1.1
        rw [e21] at hS21
        refine g_getfield (pc := 47) dc_P_readWords_47 fl_P_107 hS21 rfl ?_
        refine g_aload_n (pc := 50) dc_P_readWords_50 rfl ?_
        refine g_getfield (pc := 51) dc_P_readWords_51 fl_P_26 hP1.1 rfl ?_
        refine g_getfield (pc := 54) dc_P_readWords_54 fl_P_110 hS21 rfl ?_
        obtain ⟨P9, hp9⟩ := hPl1
        refine g_v3 (pc := 57) (M' := mt_P_decode) dc_P_readWords_57 mo_P_decode im_P_decode se_P_decode ln_P_70 hP1.1 rfl rfl (Nat.le_of_ble_eq_true rfl) (Nat.le_of_ble_eq_true rfl) (am_G.mono (w_P_decode (d := d + 2) (f := p) (t := nxT L p) hP1 hp9 hx1 (fun e => hq (by rw [e]; decide)) (by omega) (by omega) (by omega)) ?_)
        intro r h2 hz
        obtain ⟨hz1, w2, g2, hPl2⟩ := hz
        rw [hz1]
        have hP2 := hP1.fr g2 (by decide)
        have hS2 := hS1.fr g2 (by decide)
        have hRw2 := hRw1.fr g2 (by decide) (by decide)
        have hx2 := hx1.fr g2 (fun h9 => hq ((by decide : ∀ x, x ∈ [24] → x ∈ [21, 24, 17, 18]) _ h9))
        have G2 := G1.tr (g2.mo (by decide : ∀ x, x ∈ [24] → x ∈ [21, 24, 17, 18]))
        clear hz1 r
        have hN2 := hN1
        refine ⟨am_nt0, ?_⟩
        refine g_aload_n (pc := 60) dc_P_readWords_60 rfl ?_
        refine g_getfield (pc := 61) dc_P_readWords_61 fl_P_39 hP2.1 rfl ?_
        refine g_aload (pc := 64) dc_P_readWords_64 rfl ?_
        refine g_s2 (pc := 66) (M' := mt_P_splitWords) dc_P_readWords_66 mo_P_splitWords st_P_splitWords ln_P_113 (Nat.le_of_ble_eq_true rfl) (Nat.le_of_ble_eq_true rfl) (am_G.mono (w_P_splitWords (d := d + 5) (NB := 19000) (NC := 19000) (by decide) (by decide) (by decide) (by decide) hPl2 hRw2 (by decide) (by decide) (by omega) (by omega)) ?_)
        intro r h3 hz
        obtain ⟨hz1, w3, g3, hRw3⟩ := hz
        rw [hz1]
        have hP3 := hP2.fr g3 (by decide)
        have hS3 := hS2.fr g3 (by decide)
        have hPl3 := hPl2.fr g3 (by decide)
        have hx3 := hx2.fr g3 (fun h9 => hq ((by decide : ∀ x, x ∈ [17, 18] → x ∈ [21, 24, 17, 18]) _ h9))
        have G3 := G2.tr (g3.mo (by decide : ∀ x, x ∈ [17, 18] → x ∈ [21, 24, 17, 18]))
        clear hz1 r
        have hN3 := hN2
        refine ⟨am_nt0, ?_⟩
        refine g_iinc (pc := 69) (v := (nI n)) dc_P_readWords_69 rfl ((q_m1 (x := n + 1) (by omega)).trans (congrArg nI (by omega))) (by decide) ?_
        show am_G X mt_P_readWords _ 72 [some (.ref 12), some (.ref c), some (.int (nI s)), some (.int (nI (s + L.length))), some (.ref 17), some (.int (nI n)), some (.int (nI (nxK L p)))] [] _ _
        refine g_goto (pc := 72) (tgt := 15) dc_P_readWords_72 rfl ?_
        have hk1 := hkk.mp (by omega)
        rw [show pwd L p = spl (dcd L p (nxT L p)) 0 from if_pos hk1]
        have hPl3 : eB w3 h3 24 24 := ⟨_, hPl3⟩
        have hsp := spl_len (M := (dcd L p (nxT L p))) (dcd L p (nxT L p)).length 0 (by omega) (by omega)
        have hsf := spl_fl (dcd L p (nxT L p))
        refine am_wk (am_le_s (am_le_s (am_le_s (am_le_s (am_le_s (am_le_s (am_le_n am_le_0))))))) ?_
        exact l_P_readWords_17 hq hL8 n (nxT L p) w3 h3 _ (T ++ spl (dcd L p (nxT L p)) 0) (by omega) (by omega) (by rw [List.flatten_append, List.length_append]; omega) (by rw [List.length_append]; omega) G3 hN3.sR hP3 hS3 hPl3 hRw3 hx3
    · rw [its_out (by omega), show ([] : List Nat).flatMap (pwd L) = [] from rfl]
      refine g_iload (pc := 15) dc_P_readWords_15 rfl ?_
      refine q_if_le (pc := 17) (tgt := 75) (n + 1) dc_P_readWords_17 (by omega) rfl (fun hc => absurd hc (by omega)) (fun hc17 => ?_)
      refine g_aload_n (pc := 20) dc_P_readWords_20 rfl ?_
      refine g_getfield (pc := 21) dc_P_readWords_21 fl_P_26 hP0.1 rfl ?_
      refine g_v0 (pc := 24) (M' := mt_S_next) dc_P_readWords_24 mo_S_next im_S_next se_S_next ln_P_54 (scC hS0 hN0.any) rfl rfl (Nat.le_of_ble_eq_true rfl) (Nat.le_of_ble_eq_true rfl) (am_G.mono (w_S_end hS0 hN0 hx0 (by omega) (by omega)) ?_)
      intro r h1 hz
      obtain ⟨hz1, w1, g1, x1, hS1, hN1⟩ := hz
      rw [hz1]
      have hP1 := hP0.fr g1 (by decide)
      have hPl1 := hPl0.fr g1 (by decide)
      have hRw1 := hRw0.fr g1 (by decide) (by decide)
      have hx1 := hx0.fr g1 (fun h9 => hq ((by decide : ∀ x, x ∈ [21] → x ∈ [21, 24, 17, 18]) _ h9))
      have G1 := G0.tr (g1.mo (by decide : ∀ x, x ∈ [21] → x ∈ [21, 24, 17, 18]))
      clear hz1 r
      refine ⟨am_nti _, ?_⟩
      refine g_istore (pc := 27) dc_P_readWords_27 (by decide) ?_
      show am_G X mt_P_readWords _ 29 [some (.ref 12), some (.ref c), some (.int (nI s)), some (.int (nI (s + L.length))), some (.ref 17), some (.int (nI (n + 1))), some (.int 0)] [] _ _
      refine g_iload (pc := 29) dc_P_readWords_29 rfl ?_
      refine g_if_ne (pc := 31) (tgt := 35) dc_P_readWords_31 rfl (fun hc => absurd hc (by decide)) (fun _ => ?_)
      exact g_return dc_P_readWords_34 rfl ⟨rfl, w1, G1, hP1, ⟨_, hS1, hN1⟩, hPl1, by rw [List.append_nil]; exact hRw1⟩
theorem w_P_readWords_17 {w0 : Gw} {h0 : List va_E} {T : List (List Int32)} (hq : ¬ q ∈ [21, 24, 17, 18]) (hL8 : L.length ≤ 7999) (hP0 : pR w0 h0) (hS : eS w0 h0) (hPl0 : eB w0 h0 24 24) (hRw0 : rE w0 h0 17 18 17 18 T []) (hx0 : tO w0 h0 q c s L) (hf1 : T.flatten.length + L.length ≤ 19000) (hf2 : T.length + L.length ≤ 19000) : am_C X mt_P_readWords (d + 9) [.ref 12, .ref c, .int (nI s), .int (nI (s + L.length)), .ref 17] h0 (fun r h1 => r = none ∧ ∃ w1, fr w0 w1 h0 h1 [21, 24, 17, 18] ∧ pR w1 h1 ∧ eS w1 h1 ∧ eB w1 h1 24 24 ∧ rE w1 h1 17 18 17 18 (T ++ pgW L) []) := by
  obtain ⟨x0, hS0, hN0⟩ := hS
  have G0 : fr w0 w0 h0 h0 [21, 24, 17, 18] := fr.rf
  have hsl : s + L.length ≤ 33554432 := by obtain ⟨cap, g, z1, z2, z3, z4, -⟩ := hx0.1; omega
  show am_G X mt_P_readWords (d + 9) 0 [some (.ref 12), some (.ref c), some (.int (nI s)), some (.int (nI (s + L.length))), some (.ref 17), none, none] [] h0 _
  refine g_aload_n (pc := 0) dc_P_readWords_0 rfl ?_
  refine g_getfield (pc := 1) dc_P_readWords_1 fl_P_26 hP0.1 rfl ?_
  refine g_aload_n (pc := 4) dc_P_readWords_4 rfl ?_
  refine g_iload_n (pc := 5) dc_P_readWords_5 rfl ?_
  refine g_iload_n (pc := 6) dc_P_readWords_6 rfl ?_
  refine g_v3 (pc := 7) (M' := mt_S_open) dc_P_readWords_7 mo_S_open im_S_open se_S_open ln_P_50 (scC hS0 hN0) rfl rfl (Nat.le_of_ble_eq_true rfl) (Nat.le_of_ble_eq_true rfl) (am_G.mono (w_S_open (c := c) (s := s) (L := L) hS0 hN0) ?_)
  intro r h1 hz
  obtain ⟨hz1, w1, g1, x1, hS1, hN1⟩ := hz
  rw [hz1]
  have hP1 := hP0.fr g1 (by decide)
  have hPl1 := hPl0.fr g1 (by decide)
  have hRw1 := hRw0.fr g1 (by decide) (by decide)
  have hx1 := hx0.fr g1 (fun h9 => hq ((by decide : ∀ x, x ∈ [21] → x ∈ [21, 24, 17, 18]) _ h9))
  have G1 := G0.tr (g1.mo (by decide : ∀ x, x ∈ [21] → x ∈ [21, 24, 17, 18]))
  clear hz1 r
  refine ⟨am_nt0, ?_⟩
  refine g_iload_n (pc := 10) dc_P_readWords_10 rfl ?_
  refine g_iload_n (pc := 11) dc_P_readWords_11 rfl ?_
  refine g_isub (pc := 12) (v := (nI L.length)) dc_P_readWords_12 ((q_sub (a := s + L.length) (b := s) (by omega)).trans (congrArg nI (by omega))) ?_
  refine g_istore (pc := 13) dc_P_readWords_13 (by decide) ?_
  show am_G X mt_P_readWords _ 15 [some (.ref 12), some (.ref c), some (.int (nI s)), some (.int (nI (s + L.length))), some (.ref 17), some (.int (nI L.length)), none] [] _ _
  exact l_P_readWords_17 (wa := w0) (ha := h0) hq hL8 L.length 0 w1 h1 _ T (Nat.le_refl _) (Nat.zero_le _) (by omega) (by omega) G1 hN1 hP1 hS1 hPl1 hRw1 hx1
theorem l_P_readWords_67 {wa : Gw} {ha : List va_E} (hq : ¬ q ∈ [21, 24, 67, 68]) (hL8 : L.length ≤ 7999) : ∀ (n p : Nat) (w0 : Gw) (h0 : List va_E) (x0 : va_E) (T : List (List Int32)), n ≤ L.length → p ≤ L.length → T.flatten.length + (L.length - p) ≤ 19000 → T.length + (L.length - p) ≤ 19000 → fr wa w0 ha h0 [21, 24, 67, 68] → scR L s p c x0 → pR w0 h0 → cO w0 h0 21 21 x0 → eB w0 h0 24 24 → rE w0 h0 67 68 67 68 T [] → tO w0 h0 q c s L → am_G X mt_P_readWords (d + 9) 15 [some (.ref 12), some (.ref c), some (.int (nI s)), some (.int (nI (s + L.length))), some (.ref 67), some (.int (nI n)), none] [] h0 (fun r h1 => r = none ∧ ∃ w1, fr wa w1 ha h1 [21, 24, 67, 68] ∧ pR w1 h1 ∧ eS w1 h1 ∧ eB w1 h1 24 24 ∧ rE w1 h1 67 68 67 68 (T ++ (its L n p).flatMap (pwd L)) [])
  | 0, p, w0, h0, x0, T, hn, hp, hf1, hf2, G0, hN0, hP0, hS0, hPl0, hRw0, hx0 => by
    rw [show (its L 0 p).flatMap (pwd L) = [] from rfl]
    refine g_iload (pc := 15) dc_P_readWords_15 rfl ?_
    refine q_if_le (pc := 17) (tgt := 75) 0 dc_P_readWords_17 (by omega) rfl (fun hc17 => ?_) (fun hc => absurd hc (by omega))
    exact g_return dc_P_readWords_75 rfl ⟨rfl, w0, G0, hP0, ⟨_, hS0, hN0.any⟩, hPl0, by rw [List.append_nil]; exact hRw0⟩
  | n + 1, p, w0, h0, x0, T, hn, hp, hf1, hf2, G0, hN0, hP0, hS0, hPl0, hRw0, hx0 => by
    have hsl : s + L.length ≤ 33554432 := by obtain ⟨cap, g, z1, z2, z3, z4, -⟩ := hx0.1; omega
    by_cases hpl : p < L.length
    · have hnb := nxT_bd hpl
      have hnk := nxK_b L p
      rw [its_s hpl, List.flatMap_cons, ← List.append_assoc]
      have hkk : nxK L p = 1 ↔ kdA L p = 1 := by
        have h9 := kdA_le L p
        unfold nxK
        by_cases h8 : kdA L p = 2
        · rw [if_pos h8]; split <;> omega
        · rw [if_neg h8]
      have hdl := dcd_len (L := L) (t := nxT L p) (nxT L p - p) p (Nat.le_refl _)
      refine g_iload (pc := 15) dc_P_readWords_15 rfl ?_
      refine q_if_le (pc := 17) (tgt := 75) (n + 1) dc_P_readWords_17 (by omega) rfl (fun hc => absurd hc (by omega)) (fun hc17 => ?_)
      refine g_aload_n (pc := 20) dc_P_readWords_20 rfl ?_
      refine g_getfield (pc := 21) dc_P_readWords_21 fl_P_26 hP0.1 rfl ?_
      refine g_v0 (pc := 24) (M' := mt_S_next) dc_P_readWords_24 mo_S_next im_S_next se_S_next ln_P_54 (scC hS0 hN0.any) rfl rfl (Nat.le_of_ble_eq_true rfl) (Nat.le_of_ble_eq_true rfl) (am_G.mono (w_S_next (d := d) hS0 hN0 hx0 hpl) ?_)
      intro r h1 hz
      obtain ⟨hz1, w1, g1, x1, hS1, hN1⟩ := hz
      rw [hz1]
      have hP1 := hP0.fr g1 (by decide)
      have hPl1 := hPl0.fr g1 (by decide)
      have hRw1 := hRw0.fr g1 (by decide) (by decide)
      have hx1 := hx0.fr g1 (fun h9 => hq ((by decide : ∀ x, x ∈ [21] → x ∈ [21, 24, 67, 68]) _ h9))
      have G1 := G0.tr (g1.mo (by decide : ∀ x, x ∈ [21] → x ∈ [21, 24, 67, 68]))
      clear hz1 r
      refine ⟨am_nti _, ?_⟩
      refine g_istore (pc := 27) dc_P_readWords_27 (by decide) ?_
      show am_G X mt_P_readWords _ 29 [some (.ref 12), some (.ref c), some (.int (nI s)), some (.int (nI (s + L.length))), some (.ref 67), some (.int (nI (n + 1))), some (.int (nI (nxK L p)))] [] _ _
      refine g_iload (pc := 29) dc_P_readWords_29 rfl ?_
      refine q_if_ne (pc := 31) (tgt := 35) (nxK L p) dc_P_readWords_31 (by omega) rfl (fun hc31 => ?_) (fun hc => absurd hc (by omega))
      refine g_iload (pc := 35) dc_P_readWords_35 rfl ?_
      refine g_iconst (pc := 37) (v := 1) dc_P_readWords_37 rfl ?_
      refine q_icmp_ne (pc := 38) (tgt := 69) (nxK L p) 1 dc_P_readWords_38 (by omega) (by omega) rfl (fun hc38 => ?_) (fun hc38 => ?_)
      · refine g_iinc (pc := 69) (v := (nI n)) dc_P_readWords_69 rfl ((q_m1 (x := n + 1) (by omega)).trans (congrArg nI (by omega))) (by decide) ?_
        show am_G X mt_P_readWords _ 72 [some (.ref 12), some (.ref c), some (.int (nI s)), some (.int (nI (s + L.length))), some (.ref 67), some (.int (nI n)), some (.int (nI (nxK L p)))] [] _ _
        refine g_goto (pc := 72) (tgt := 15) dc_P_readWords_72 rfl ?_
        rw [show pwd L p = [] from if_neg (fun h9 => absurd (hkk.mpr h9) (by omega)), List.append_nil]
        refine am_wk (am_le_s (am_le_s (am_le_s (am_le_s (am_le_s (am_le_s (am_le_n am_le_0))))))) ?_
        exact l_P_readWords_67 hq hL8 n (nxT L p) w1 h1 _ T (by omega) (by omega) (by omega) (by omega) G1 hN1.sR hP1 hS1 hPl1 hRw1 hx1
      · refine g_aload_n (pc := 41) dc_P_readWords_41 rfl ?_
        refine g_aload_n (pc := 42) dc_P_readWords_42 rfl ?_
        refine g_aload_n (pc := 43) dc_P_readWords_43 rfl ?_
        refine g_getfield (pc := 44) dc_P_readWords_44 fl_P_26 hP1.1 rfl ?_
        obtain ⟨w1a, w2a, w6, w7, w8, e21⟩ := hN1.fl
        have hS21 := hS1.1
        rw [e21] at hS21
        refine g_getfield (pc := 47) dc_P_readWords_47 fl_P_107 hS21 rfl ?_
        refine g_aload_n (pc := 50) dc_P_readWords_50 rfl ?_
        refine g_getfield (pc := 51) dc_P_readWords_51 fl_P_26 hP1.1 rfl ?_
        refine g_getfield (pc := 54) dc_P_readWords_54 fl_P_110 hS21 rfl ?_
        obtain ⟨P9, hp9⟩ := hPl1
        refine g_v3 (pc := 57) (M' := mt_P_decode) dc_P_readWords_57 mo_P_decode im_P_decode se_P_decode ln_P_70 hP1.1 rfl rfl (Nat.le_of_ble_eq_true rfl) (Nat.le_of_ble_eq_true rfl) (am_G.mono (w_P_decode (d := d + 2) (f := p) (t := nxT L p) hP1 hp9 hx1 (fun e => hq (by rw [e]; decide)) (by omega) (by omega) (by omega)) ?_)
        intro r h2 hz
        obtain ⟨hz1, w2, g2, hPl2⟩ := hz
        rw [hz1]
        have hP2 := hP1.fr g2 (by decide)
        have hS2 := hS1.fr g2 (by decide)
        have hRw2 := hRw1.fr g2 (by decide) (by decide)
        have hx2 := hx1.fr g2 (fun h9 => hq ((by decide : ∀ x, x ∈ [24] → x ∈ [21, 24, 67, 68]) _ h9))
        have G2 := G1.tr (g2.mo (by decide : ∀ x, x ∈ [24] → x ∈ [21, 24, 67, 68]))
        clear hz1 r
        have hN2 := hN1
        refine ⟨am_nt0, ?_⟩
        refine g_aload_n (pc := 60) dc_P_readWords_60 rfl ?_
        refine g_getfield (pc := 61) dc_P_readWords_61 fl_P_39 hP2.1 rfl ?_
        refine g_aload (pc := 64) dc_P_readWords_64 rfl ?_
        refine g_s2 (pc := 66) (M' := mt_P_splitWords) dc_P_readWords_66 mo_P_splitWords st_P_splitWords ln_P_113 (Nat.le_of_ble_eq_true rfl) (Nat.le_of_ble_eq_true rfl) (am_G.mono (w_P_splitWords (d := d + 5) (NB := 19000) (NC := 19000) (by decide) (by decide) (by decide) (by decide) hPl2 hRw2 (by decide) (by decide) (by omega) (by omega)) ?_)
        intro r h3 hz
        obtain ⟨hz1, w3, g3, hRw3⟩ := hz
        rw [hz1]
        have hP3 := hP2.fr g3 (by decide)
        have hS3 := hS2.fr g3 (by decide)
        have hPl3 := hPl2.fr g3 (by decide)
        have hx3 := hx2.fr g3 (fun h9 => hq ((by decide : ∀ x, x ∈ [67, 68] → x ∈ [21, 24, 67, 68]) _ h9))
        have G3 := G2.tr (g3.mo (by decide : ∀ x, x ∈ [67, 68] → x ∈ [21, 24, 67, 68]))
        clear hz1 r
        have hN3 := hN2
        refine ⟨am_nt0, ?_⟩
        refine g_iinc (pc := 69) (v := (nI n)) dc_P_readWords_69 rfl ((q_m1 (x := n + 1) (by omega)).trans (congrArg nI (by omega))) (by decide) ?_
        show am_G X mt_P_readWords _ 72 [some (.ref 12), some (.ref c), some (.int (nI s)), some (.int (nI (s + L.length))), some (.ref 67), some (.int (nI n)), some (.int (nI (nxK L p)))] [] _ _
        refine g_goto (pc := 72) (tgt := 15) dc_P_readWords_72 rfl ?_
        have hk1 := hkk.mp (by omega)
        rw [show pwd L p = spl (dcd L p (nxT L p)) 0 from if_pos hk1]
        have hPl3 : eB w3 h3 24 24 := ⟨_, hPl3⟩
        have hsp := spl_len (M := (dcd L p (nxT L p))) (dcd L p (nxT L p)).length 0 (by omega) (by omega)
        have hsf := spl_fl (dcd L p (nxT L p))
        refine am_wk (am_le_s (am_le_s (am_le_s (am_le_s (am_le_s (am_le_s (am_le_n am_le_0))))))) ?_
        exact l_P_readWords_67 hq hL8 n (nxT L p) w3 h3 _ (T ++ spl (dcd L p (nxT L p)) 0) (by omega) (by omega) (by rw [List.flatten_append, List.length_append]; omega) (by rw [List.length_append]; omega) G3 hN3.sR hP3 hS3 hPl3 hRw3 hx3
    · rw [its_out (by omega), show ([] : List Nat).flatMap (pwd L) = [] from rfl]
      refine g_iload (pc := 15) dc_P_readWords_15 rfl ?_
      refine q_if_le (pc := 17) (tgt := 75) (n + 1) dc_P_readWords_17 (by omega) rfl (fun hc => absurd hc (by omega)) (fun hc17 => ?_)
      refine g_aload_n (pc := 20) dc_P_readWords_20 rfl ?_
      refine g_getfield (pc := 21) dc_P_readWords_21 fl_P_26 hP0.1 rfl ?_
      refine g_v0 (pc := 24) (M' := mt_S_next) dc_P_readWords_24 mo_S_next im_S_next se_S_next ln_P_54 (scC hS0 hN0.any) rfl rfl (Nat.le_of_ble_eq_true rfl) (Nat.le_of_ble_eq_true rfl) (am_G.mono (w_S_end hS0 hN0 hx0 (by omega) (by omega)) ?_)
      intro r h1 hz
      obtain ⟨hz1, w1, g1, x1, hS1, hN1⟩ := hz
      rw [hz1]
      have hP1 := hP0.fr g1 (by decide)
      have hPl1 := hPl0.fr g1 (by decide)
      have hRw1 := hRw0.fr g1 (by decide) (by decide)
      have hx1 := hx0.fr g1 (fun h9 => hq ((by decide : ∀ x, x ∈ [21] → x ∈ [21, 24, 67, 68]) _ h9))
      have G1 := G0.tr (g1.mo (by decide : ∀ x, x ∈ [21] → x ∈ [21, 24, 67, 68]))
      clear hz1 r
      refine ⟨am_nti _, ?_⟩
      refine g_istore (pc := 27) dc_P_readWords_27 (by decide) ?_
      show am_G X mt_P_readWords _ 29 [some (.ref 12), some (.ref c), some (.int (nI s)), some (.int (nI (s + L.length))), some (.ref 67), some (.int (nI (n + 1))), some (.int 0)] [] _ _
      refine g_iload (pc := 29) dc_P_readWords_29 rfl ?_
      refine g_if_ne (pc := 31) (tgt := 35) dc_P_readWords_31 rfl (fun hc => absurd hc (by decide)) (fun _ => ?_)
      exact g_return dc_P_readWords_34 rfl ⟨rfl, w1, G1, hP1, ⟨_, hS1, hN1⟩, hPl1, by rw [List.append_nil]; exact hRw1⟩
theorem w_P_readWords_67 {w0 : Gw} {h0 : List va_E} {T : List (List Int32)} (hq : ¬ q ∈ [21, 24, 67, 68]) (hL8 : L.length ≤ 7999) (hP0 : pR w0 h0) (hS : eS w0 h0) (hPl0 : eB w0 h0 24 24) (hRw0 : rE w0 h0 67 68 67 68 T []) (hx0 : tO w0 h0 q c s L) (hf1 : T.flatten.length + L.length ≤ 19000) (hf2 : T.length + L.length ≤ 19000) : am_C X mt_P_readWords (d + 9) [.ref 12, .ref c, .int (nI s), .int (nI (s + L.length)), .ref 67] h0 (fun r h1 => r = none ∧ ∃ w1, fr w0 w1 h0 h1 [21, 24, 67, 68] ∧ pR w1 h1 ∧ eS w1 h1 ∧ eB w1 h1 24 24 ∧ rE w1 h1 67 68 67 68 (T ++ pgW L) []) := by
  obtain ⟨x0, hS0, hN0⟩ := hS
  have G0 : fr w0 w0 h0 h0 [21, 24, 67, 68] := fr.rf
  have hsl : s + L.length ≤ 33554432 := by obtain ⟨cap, g, z1, z2, z3, z4, -⟩ := hx0.1; omega
  show am_G X mt_P_readWords (d + 9) 0 [some (.ref 12), some (.ref c), some (.int (nI s)), some (.int (nI (s + L.length))), some (.ref 67), none, none] [] h0 _
  refine g_aload_n (pc := 0) dc_P_readWords_0 rfl ?_
  refine g_getfield (pc := 1) dc_P_readWords_1 fl_P_26 hP0.1 rfl ?_
  refine g_aload_n (pc := 4) dc_P_readWords_4 rfl ?_
  refine g_iload_n (pc := 5) dc_P_readWords_5 rfl ?_
  refine g_iload_n (pc := 6) dc_P_readWords_6 rfl ?_
  refine g_v3 (pc := 7) (M' := mt_S_open) dc_P_readWords_7 mo_S_open im_S_open se_S_open ln_P_50 (scC hS0 hN0) rfl rfl (Nat.le_of_ble_eq_true rfl) (Nat.le_of_ble_eq_true rfl) (am_G.mono (w_S_open (c := c) (s := s) (L := L) hS0 hN0) ?_)
  intro r h1 hz
  obtain ⟨hz1, w1, g1, x1, hS1, hN1⟩ := hz
  rw [hz1]
  have hP1 := hP0.fr g1 (by decide)
  have hPl1 := hPl0.fr g1 (by decide)
  have hRw1 := hRw0.fr g1 (by decide) (by decide)
  have hx1 := hx0.fr g1 (fun h9 => hq ((by decide : ∀ x, x ∈ [21] → x ∈ [21, 24, 67, 68]) _ h9))
  have G1 := G0.tr (g1.mo (by decide : ∀ x, x ∈ [21] → x ∈ [21, 24, 67, 68]))
  clear hz1 r
  refine ⟨am_nt0, ?_⟩
  refine g_iload_n (pc := 10) dc_P_readWords_10 rfl ?_
  refine g_iload_n (pc := 11) dc_P_readWords_11 rfl ?_
  refine g_isub (pc := 12) (v := (nI L.length)) dc_P_readWords_12 ((q_sub (a := s + L.length) (b := s) (by omega)).trans (congrArg nI (by omega))) ?_
  refine g_istore (pc := 13) dc_P_readWords_13 (by decide) ?_
  show am_G X mt_P_readWords _ 15 [some (.ref 12), some (.ref c), some (.int (nI s)), some (.int (nI (s + L.length))), some (.ref 67), some (.int (nI L.length)), none] [] _ _
  exact l_P_readWords_67 (wa := w0) (ha := h0) hq hL8 L.length 0 w1 h1 _ T (Nat.le_refl _) (Nat.zero_le _) (by omega) (by omega) G1 hN1 hP1 hS1 hPl1 hRw1 hx1
end RDM
