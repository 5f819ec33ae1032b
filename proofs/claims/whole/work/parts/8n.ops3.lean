/-! ===== the model: pages, rules, seeds, settings are told ===== -/
def rst (L : List Int32) : List Int32 := sub L (bhf L) L.length
/-- page(p): the pages behind it, if it is taken -/
def pge (L : List Int32) (p : Int32) (P : List Pg) : Option (List Pg) := match fsa L with
  | none => none
  | some D => match ixo p 600 with
    | none => none
    | some s => if s < 100 then none else match nbr (pad P) D with
      | some j => some (P.set j (D, s, rst L))
      | none => if P.length = 60 then none else some (P ++ [(D, s, rst L)])
abbrev XP : List Nat := [1, 2, 5, 6, 7, 8, 9, 10, 11, 12, 13, 14, 15, 16, 17, 18, 19, 20, 21, 22, 23, 51, 52, 53, 54]
theorem gP_app {P : List Pg} {x : Pg} {k : Nat} (h : k < P.length) : gP (P ++ [x]) k = gP P k := by
  unfold gP
  rw [List.getD_eq_getElem?_getD, List.getD_eq_getElem?_getD, List.getElem?_append_left h]
theorem gP_new {P : List Pg} {x : Pg} : gP (P ++ [x]) P.length = x := by
  unfold gP
  rw [List.getD_eq_getElem?_getD, List.getElem?_append_right (Nat.le_refl _), Nat.sub_self]
  rfl
theorem gP_set {P : List Pg} {x : Pg} {j k : Nat} (hj : j < P.length) : gP (P.set j x) k = if k = j then x else gP P k := by
  unfold gP
  rw [List.getD_eq_getElem?_getD, List.getD_eq_getElem?_getD]
  by_cases e : k = j
  · rw [if_pos e, e, List.getElem?_set_self hj]; rfl
  · rw [if_neg e, List.getElem?_set_ne (fun h => e h.symm)]
theorem pad_set {P : List Pg} {j : Nat} {D : List Int32} {s : Nat} {t : List Int32} (hj : j < P.length) (h : (gP P j).1 = D) : pad (P.set j (D, s, t)) = pad P := by
  unfold pad
  apply List.ext_getElem?
  intro k
  rw [List.getElem?_map, List.getElem?_map]
  by_cases e : k = j
  · rw [e, List.getElem?_set_self hj, List.getElem?_eq_getElem hj]
    show some D = some (P[j]).1
    unfold gP at h
    rw [List.getD_eq_getElem?_getD, List.getElem?_eq_getElem hj] at h
    exact congrArg some h.symm
  · rw [List.getElem?_set_ne (fun h => e h.symm)]
theorem nd_snoc {T : List (List Int32)} {D : List Int32} (h : T.Nodup) (hn : ¬ D ∈ T) : (T ++ [D]).Nodup := List.nodup_append.mpr ⟨h, List.nodup_cons.mpr ⟨List.not_mem_nil, List.nodup_nil⟩, fun x hx y hy e9 => hn (by rw [List.mem_singleton.mp hy] at e9; rw [← e9]; exact hx)⟩
theorem bhf_bd (L : List Int32) : bhf L ≤ L.length := by unfold bhf; omega
section OP3
variable {X : am_X} {d k ka j i : Nat} {A B h : List va_E} {S : MS} {T Y U Ls Rs Rt Sd : List (List Int32)} {K V : Kn} {lim sett : Nat → Nat} {c : Cw} {P : List Pg} {D L E : List Int32} {q : Cr} {p w : Int32}
theorem c_M_tell2 {f t : Nat} (hA : A.length = 84) (hY : txT S Y) (hL : tx S.coming 0 L) (hb : btg L) (hll : L.length ≤ 8000) (hf : f ≤ t) (ht : t ≤ L.length) (hr : ofs Y Y.length + (t - f) ≤ 24000) (hc : Y.length < 1100) : am_C X mt_M_tell d [.ref 84, .int (nI f), .int (nI t)] (mput A S B) (fun r h1 => r = some (.int (nI Y.length)) ∧ ∃ S1, h1 = mput A S1 B ∧ mA [19, 20, 21, 22, 23] S S1 ∧ txT S1 (Y ++ [sub L f t])) := by
  refine am_G.mono (c_M_tell hA hY hL (by omega) hf ht (btg_sub hb ht) hr hc) (fun r h1 hz => ?_)
  obtain ⟨f1, f2, f3, y1, y2, y3⟩ := hz
  exact ⟨y1, _, y2, (((((mA.rf S).a_textAt f1 (by decide)).a_texts f3 (by decide)).a_textsEnd _ (by decide)).a_textEnd f2 (by decide)).a_textCount _ (by decide), y3⟩
theorem pagM.put {s y : Nat} (h : pagM S T Y P) (hk : ka < T.length) (hD : gT T ka = D) (hs : s ≤ 599) (hy : y < Y.length) (ht : gT Y y = E) {P1 : List Pg} (hn : k < P1.length) (h60 : P1.length ≤ 60) (hnd : (pad P1).Nodup) (hP1 : gP P1 k = (D, s, E)) (hP2 : ∀ j, j < P1.length → ¬ j = k → j < P.length ∧ gP P1 j = gP P j) {S1 : MS} (e1 : S1.pageAddress = upd S.pageAddress k (nI ka)) (e2 : S1.pageStatus = upd S.pageStatus k (nI s)) (e3 : S1.pageText = upd S.pageText k (nI y)) (e4 : S1.pageCount = P1.length) : pagM S1 T Y P1 := by
  refine ⟨e4, h60, hnd, fun j hj => ?_⟩
  rw [e1, e2, e3]
  by_cases e : j = k
  · rw [e, upd_s, upd_s, upd_s, hP1]
    exact ⟨⟨ka, hk, rfl, hD⟩, ⟨rfl, hs⟩, y, hy, rfl, ht⟩
  · obtain ⟨a1, a2⟩ := hP2 j hj e
    rw [upd_n e, upd_n e, upd_n e, a2]
    exact h.2.2.2 j a1
theorem tbM.sc {S1 : MS} (h : tbM S T Y U) (e : scA S S1) : tbM S1 T Y U := ⟨h.1.m e.m (by decide) (by decide) (by decide) (by decide), h.2.1, h.2.2.1, h.2.2.2.m e.m (by decide) (by decide) (by decide) (by decide) (by decide)⟩
theorem tbM.kp {S1 : MS} {T1 : List (List Int32)} (h : tbM S T Y U) (q : kept S T D S1 T1 k) (ho : okD D) (hu : D ∈ U) : tbM S1 T1 Y U := ⟨q.1, fun x hx => (q.mem x hx).elim (h.2.1 x) (fun e => by rw [e]; exact ho), fun x hx => (q.mem x hx).elim (h.2.2.1 x) (fun e => by rw [e]; exact hu), h.2.2.2.m q.m (by decide) (by decide) (by decide) (by decide) (by decide)⟩
theorem fsa_ok (hb : btg L) (h : fsa L = some D) : okD D := mrr_ok (L := L) (Nat.zero_le _) (fw_bd (p := nev 10) (L := L) (Nat.zero_le _)).2 hb (fun D9 h9 => by cases h9) h
/-- the address of the whole tape -/
def rfa (L : List Int32) : Option (List Int32) := mrr L 0 L.length none
theorem rfa_ok (hb : btg L) (h : rfa L = some D) : okD D := mrr_ok (L := L) (Nat.zero_le _) (Nat.le_refl _) hb (fun D9 h9 => by cases h9) h
theorem c_M_page (hA : A.length = 84) (hM : tbM S T Y U) (hUl : U.length < 3500) (hL : tpM S L) (hp : pagM S T Y P) (hU : ∀ D, fsa L = some D → D ∈ U) (hr : ofs Y Y.length + L.length ≤ 24000) (hc : Y.length < 1100) : am_C X mt_M_page (d + 7) [.ref 84, .int p] (mput A S B) (fun r h1 => match pge L p P with | none => r = some (.int (-1)) ∧ ∃ S1 T1, h1 = mput A S1 B ∧ mA XP S S1 ∧ tbM S1 T1 Y U ∧ T <+: T1 ∧ pagM S1 T1 Y P ∧ tpM S1 [] | some P1 => r = some (.int (nI P1.length)) ∧ ∃ S1 T1, h1 = mput A S1 B ∧ mA XP S S1 ∧ tbM S1 T1 (Y ++ [rst L]) U ∧ T <+: T1 ∧ pagM S1 T1 (Y ++ [rst L]) P1 ∧ tpM S1 []) := by
  show am_G X mt_M_page (d + 7) 0 [some (.ref 84), some (.int p), none, none, none] [] (mput A S B) _
  have hL8 := hL.2.2.1
  have hbL := hL.2.2.2
  have h60 := hp.2.1
  have hbh := bhf_bd L
  have hrl : (rst L).length ≤ L.length := by unfold rst; rw [sub_len (Nat.le_refl _)]; omega
  by_cases hst : p < 100 ∨ (599 : Int32) < p
  · have e5 : pge L p P = none := by
      unfold pge
      cases fsa L with
      | none => rfl
      | some D =>
        dsimp only
        cases e : ixo p 600 with
        | none => rfl
        | some s =>
          obtain ⟨s1, s2⟩ := ixo_s e
          dsimp only
          rcases hst with h9 | h9
          · rw [if_pos ((nI_ltI (b := 100) (by omega) (by decide)).mp (by rw [← s2]; exact h9))]
          · rw [s2] at h9
            exact absurd ((nI_ltI (a := 599) (by decide) (by omega)).mp h9) (by omega)
    rw [e5]
    refine g_aload_n (pc := 0) dc_M_page_0 rfl ?_
    refine g_v0 (pc := 1) (M' := mt_M_use) dc_M_page_1 mo_M_use im_M_use se_M_use ln_M_505 (mp_o hA) rfl rfl (Nat.le_of_ble_eq_true rfl) (Nat.le_of_ble_eq_true rfl) (am_G.mono (c_M_use (d := d + 6) hA hL) ?_)
    intro r h9 hz
    obtain ⟨q1, S1, q2, q3, q4, q5⟩ := hz
    rw [q1, q2]
    clear q1 q2 h9 r
    have hM1 : tbM S1 T Y U := ⟨hM.1.m q3 (by decide) (by decide) (by decide) (by decide), hM.2.1, hM.2.2.1, hM.2.2.2.m q3 (by decide) (by decide) (by decide) (by decide) (by decide)⟩
    refine ⟨am_nti _, ?_⟩
    refine g_istore_n (pc := 4) dc_M_page_4 (by decide) ?_
    show am_G X mt_M_page _ 5 [some (.ref 84), some (.int p), some (.int (nI L.length)), none, none] [] _ _
    refine g_iload_n (pc := 5) dc_M_page_5 rfl ?_
    refine g_bipush (pc := 6) (v := 100) dc_M_page_6 rfl ?_
    refine g_icmp_lt (pc := 8) (tgt := 26) dc_M_page_8 rfl (fun hc8 => ?_) (fun hc8 => ?_)
    · have hi8 : (p).toInt < (100 : Int) := Int32.lt_iff_toInt_lt.mp hc8
      refine g_iconst (pc := 26) (v := (-1)) dc_M_page_26 rfl ?_
      exact g_ireturn dc_M_page_27 rfl ⟨rfl, S1, T, rfl, q3.mo (by decide), hM1, List.prefix_refl T, hp.m q3 (by decide) (by decide) (by decide) (by decide), q5⟩
    · have hi8 : ¬ ((p).toInt < (100 : Int)) := fun h9 => hc8 (Int32.lt_iff_toInt_lt.mpr h9)
      refine g_iload_n (pc := 11) dc_M_page_11 rfl ?_
      refine g_sipush (pc := 12) (v := 599) dc_M_page_12 rfl ?_
      refine g_icmp_gt (pc := 15) (tgt := 26) dc_M_page_15 rfl (fun hc15 => ?_) (fun hc => absurd hc (fun h8 => h8 (hst.resolve_left hc8)))
      refine g_iconst (pc := 26) (v := (-1)) dc_M_page_26 rfl ?_
      exact g_ireturn dc_M_page_27 rfl ⟨rfl, S1, T, rfl, q3.mo (by decide), hM1, List.prefix_refl T, hp.m q3 (by decide) (by decide) (by decide) (by decide), q5⟩
  · obtain ⟨s, hs1, rfl⟩ : ∃ s, (100 ≤ s ∧ s ≤ 599) ∧ p = nI s := by
      have h1 : ¬ p < 100 := fun h9 => hst (Or.inl h9)
      have h2 : ¬ (599 : Int32) < p := fun h9 => hst (Or.inr h9)
      obtain ⟨s, a1, a2⟩ := nI_of (x := p) (fun h9 => h1 (Int32.lt_trans h9 (by decide)))
      rw [a2] at h1 h2
      refine ⟨s, ⟨?_, ?_⟩, a2⟩
      · exact Nat.le_of_not_lt (fun h9 => h1 ((nI_ltI (b := 100) a1 (by decide)).mpr h9))
      · exact Nat.le_of_not_lt (fun h9 => h2 ((nI_ltI (a := 599) (by decide) a1).mpr h9))
    have hix : ixo (nI s) 600 = some s := ixo_in (by omega) (by decide)
    refine g_aload_n (pc := 0) dc_M_page_0 rfl ?_
    refine g_v0 (pc := 1) (M' := mt_M_use) dc_M_page_1 mo_M_use im_M_use se_M_use ln_M_505 (mp_o hA) rfl rfl (Nat.le_of_ble_eq_true rfl) (Nat.le_of_ble_eq_true rfl) (am_G.mono (c_M_use (d := d + 6) hA hL) ?_)
    intro r h9 hz
    obtain ⟨q1, S1, q2, q3, q4, q5⟩ := hz
    rw [q1, q2]
    clear q1 q2 h9 r
    have hM1 : tbM S1 T Y U := ⟨hM.1.m q3 (by decide) (by decide) (by decide) (by decide), hM.2.1, hM.2.2.1, hM.2.2.2.m q3 (by decide) (by decide) (by decide) (by decide) (by decide)⟩
    refine ⟨am_nti _, ?_⟩
    refine g_istore_n (pc := 4) dc_M_page_4 (by decide) ?_
    show am_G X mt_M_page _ 5 [some (.ref 84), some (.int (nI s)), some (.int (nI L.length)), none, none] [] _ _
    refine g_iload_n (pc := 5) dc_M_page_5 rfl ?_
    refine g_bipush (pc := 6) (v := 100) dc_M_page_6 rfl ?_
    refine q_icmp_lt (pc := 8) (tgt := 26) s 100 dc_M_page_8 (by omega) (by omega) rfl (fun hc => absurd hc (by omega)) (fun hc8 => ?_)
    refine g_iload_n (pc := 11) dc_M_page_11 rfl ?_
    refine g_sipush (pc := 12) (v := 599) dc_M_page_12 rfl ?_
    refine q_icmp_gt (pc := 15) (tgt := 26) s 599 dc_M_page_15 (by omega) (by omega) rfl (fun hc => absurd hc (by omega)) (fun hc15 => ?_)
    refine g_aload_n (pc := 18) dc_M_page_18 rfl ?_
    refine g_iload_n (pc := 19) dc_M_page_19 rfl ?_
    refine g_v1 (pc := 20) (M' := mt_M_readFirst) dc_M_page_20 mo_M_readFirst im_M_readFirst se_M_readFirst ln_M_508 (mp_o hA) rfl rfl (Nat.le_of_ble_eq_true rfl) (Nat.le_of_ble_eq_true rfl) (am_G.mono (c_M_readFirst (d := d) hA hM1.1 hM1.2.1 q4 hL8 hbL) ?_)
    intro r h9 hz
    obtain ⟨S2, hz2, hz3, hz4⟩ := hz
    rw [hz2]
    clear hz2 h9
    have hM2 := hM1.sc hz3
    have hm2 : mA XP S S2 := (q3.mo (by decide)).tr (hz3.m.mo (by decide))
    have hx2 : tx S2.coming 0 L := by rw [hz3.m.coming (by decide)]; exact q4
    have ht2 : tpM S2 [] := q5.m hz3.m (by decide) (by decide)
    cases hm : fsa L with
    | none =>
      rw [hm] at hz4
      rw [hz4]
      refine ⟨am_nti _, ?_⟩
      have e5 : pge L (nI s) P = none := by unfold pge; rw [hm]
      rw [e5]
      refine g_if_ne (pc := 23) (tgt := 28) dc_M_page_23 rfl (fun hc => absurd hc (by decide)) (fun _ => ?_)
      refine g_iconst (pc := 26) (v := (-1)) dc_M_page_26 rfl ?_
      exact g_ireturn dc_M_page_27 rfl ⟨rfl, S2, T, rfl, hm2, hM2, List.prefix_refl T, hp.m (q3.mo (by decide : ∀ x, x ∈ [1, 2] → x ∈ [1, 2, 9, 10, 11, 12, 13, 14, 15, 16, 17, 18]) |>.tr (hz3.m.mo (by decide))) (by decide) (by decide) (by decide) (by decide), ht2⟩
    | some D =>
      rw [hm] at hz4
      rw [hz4.1]
      refine ⟨am_nti _, ?_⟩
      have hoD := fsa_ok hbL hm
      have huD := hU D hm
      have hpS : mA [1, 2, 5, 6, 7, 8, 9, 10, 11, 12, 13, 14, 15, 16, 17, 18] S S2 := (q3.mo (by decide)).tr (hz3.m.mo (by decide))
      refine g_if_ne (pc := 23) (tgt := 28) dc_M_page_23 rfl (fun _ => ?_) (fun hc => absurd hc (by decide))
      refine g_aload_n (pc := 28) dc_M_page_28 rfl ?_
      refine g_v0 (pc := 29) (M' := mt_M_keep) dc_M_page_29 mo_M_keep im_M_keep se_M_keep ln_M_300 (mp_o hA) rfl rfl (Nat.le_of_ble_eq_true rfl) (Nat.le_of_ble_eq_true rfl) (am_G.mono (c_M_keep (d := d + 5) (D := D) hA hM2.1 hz4.2 (Or.inr (tb_lt hM2 hUl))) ?_)
      intro r h9 hy9
      obtain ⟨S3, T1, kb, w1, w2, w3⟩ := hy9
      rw [w1, w2]
      clear w1 w2 h9
      have hM3 := hM2.kp w3 hoD huD
      have hm3 : mA XP S S3 := hm2.tr (w3.m.mo (by decide))
      have hx3 : tx S3.coming 0 L := by rw [w3.m.coming (by decide)]; exact hx2
      have ht3 : tpM S3 [] := ht2.m w3.m (by decide) (by decide)
      have hkb : kb < T1.length ∧ gT T1 kb = D := ⟨w3.2.2.1, w3.2.2.2.1⟩
      refine ⟨am_nti _, ?_⟩
      refine g_istore_n (pc := 32) dc_M_page_32 (by decide) ?_
      show am_G X mt_M_page _ 33 [some (.ref 84), some (.int (nI s)), some (.int (nI L.length)), some (.int (nI kb)), none] [] _ _
      refine g_aload_n (pc := 33) dc_M_page_33 rfl ?_
      refine g_iload_n (pc := 34) dc_M_page_34 rfl ?_
      have hp3 : pagM S3 T1 Y P := ((hp.m hpS (by decide) (by decide) (by decide) (by decide)).m w3.m (by decide) (by decide) (by decide) (by decide)).pre w3.pre (List.prefix_refl Y)
      have hnp : ∀ j, nbr (pad P) D = some j → j < 2 ^ 31 := fun j hj => by have := (nbr_s hj).1; rw [pad_len] at this; omega
      refine g_v1 (pc := 35) (M' := mt_M_pageOf) dc_M_page_35 mo_M_pageOf im_M_pageOf se_M_pageOf ln_M_446 (mp_o hA) rfl rfl (Nat.le_of_ble_eq_true rfl) (Nat.le_of_ble_eq_true rfl) (am_G.mono (c_M_pageOf (d := d + 6) hA hM3.1 hkb.1 hp3) ?_)
      intro r h9 hq
      rw [hq.1, hq.2, hkb.2]
      clear hq h9 r
      obtain ⟨oo, hoo⟩ : ∃ oo, oo = nbr (pad P) D := ⟨_, rfl⟩
      rw [← hoo]
      have hnp2 : ∀ j, oo = some j → j < 2 ^ 31 := fun j hj => hnp j (hoo.symm.trans hj)
      refine ⟨am_nti _, ?_⟩
      refine g_istore (pc := 38) dc_M_page_38 (by decide) ?_
      show am_G X mt_M_page _ 40 [some (.ref 84), some (.int (nI s)), some (.int (nI L.length)), some (.int (nI kb)), some (.int (er oo))] [] _ _
      refine g_iload (pc := 40) dc_M_page_40 rfl ?_
      refine q_o_ge (pc := 42) (tgt := 72) dc_M_page_42 hnp2 rfl (fun k42 hc42 => ?_) (fun hc42 => ?_)
      · rw [hc42]
        rw [show er (some k42) = nI k42 from rfl]
        have hk42 := hnp2 k42 hc42
        have hj42 : k42 < P.length := by have := (nbr_s (hoo.symm.trans hc42)).1; rw [pad_len] at this; exact this
        refine g_aload_n (pc := 72) dc_M_page_72 rfl ?_
        refine g_getfield (pc := 73) dc_M_page_73 fl_M_315 (mp_o hA) rfl ?_
        refine g_iload (pc := 76) dc_M_page_76 rfl ?_
        refine g_iload_n (pc := 78) dc_M_page_78 rfl ?_
        refine as_pageAddress (pc := 79) k42 hA dc_M_page_79 (by omega) ?_
        refine g_aload_n (pc := 80) dc_M_page_80 rfl ?_
        refine g_getfield (pc := 81) dc_M_page_81 fl_M_341 (mp_o hA) rfl ?_
        refine g_iload (pc := 84) dc_M_page_84 rfl ?_
        refine g_iload_n (pc := 86) dc_M_page_86 rfl ?_
        refine asE_pageStatus (pc := 87) k42 (g := upd S3.pageStatus k42 (nI s)) hA dc_M_page_87 (by omega) (rfl) ?_
        refine g_aload_n (pc := 88) dc_M_page_88 rfl ?_
        refine g_getfield (pc := 89) dc_M_page_89 fl_M_344 (mp_o hA) rfl ?_
        refine g_iload (pc := 92) dc_M_page_92 rfl ?_
        have hma_S4 : mA [51, 52, 54] S3 ((S3.s_pageAddress (upd S3.pageAddress k42 (nI kb))).s_pageStatus (upd S3.pageStatus k42 (nI s))) := (((mA.rf S3).a_pageAddress _ (by decide)).a_pageStatus _ (by decide))
        have hk_S4_pageAddress : ((S3.s_pageAddress (upd S3.pageAddress k42 (nI kb))).s_pageStatus (upd S3.pageStatus k42 (nI s))).pageAddress = upd S3.pageAddress k42 (nI kb) := rfl
        have hk_S4_pageStatus : ((S3.s_pageAddress (upd S3.pageAddress k42 (nI kb))).s_pageStatus (upd S3.pageStatus k42 (nI s))).pageStatus = upd S3.pageStatus k42 (nI s) := rfl
        have hk_S4_pageCount : ((S3.s_pageAddress (upd S3.pageAddress k42 (nI kb))).s_pageStatus (upd S3.pageStatus k42 (nI s))).pageCount = P.length := hp3.1
        have hk_S4_pageText : ((S3.s_pageAddress (upd S3.pageAddress k42 (nI kb))).s_pageStatus (upd S3.pageStatus k42 (nI s))).pageText = S3.pageText := rfl
        have hk_S4_coming : ((S3.s_pageAddress (upd S3.pageAddress k42 (nI kb))).s_pageStatus (upd S3.pageStatus k42 (nI s))).coming = S3.coming := rfl
        show am_G X mt_M_page _ 94 [some (.ref 84), some (.int (nI s)), some (.int (nI L.length)), some (.int (nI kb)), some (.int (nI k42))] [.int (nI k42), .ref 112] (mput A ((S3.s_pageAddress (upd S3.pageAddress k42 (nI kb))).s_pageStatus (upd S3.pageStatus k42 (nI s))) B) _
        generalize ((S3.s_pageAddress (upd S3.pageAddress k42 (nI kb))).s_pageStatus (upd S3.pageStatus k42 (nI s))) = S4 at hma_S4 hk_S4_pageAddress hk_S4_pageStatus hk_S4_pageCount hk_S4_pageText hk_S4_coming ⊢
        refine g_aload_n (pc := 94) dc_M_page_94 rfl ?_
        refine g_aload_n (pc := 95) dc_M_page_95 rfl ?_
        refine g_iload_n (pc := 96) dc_M_page_96 rfl ?_
        refine g_v1 (pc := 97) (M' := mt_M_behindFirst) dc_M_page_97 mo_M_behindFirst im_M_behindFirst se_M_behindFirst ln_M_511 (mp_o hA) rfl rfl (Nat.le_of_ble_eq_true rfl) (Nat.le_of_ble_eq_true rfl) (am_G.mono (c_M_behindFirst (d := d + 5) (S := S4) hA (by rw [hk_S4_coming]; exact hx3) hL8) ?_)
        intro r h1 hq
        rw [hq.1, hq.2]
        clear hq h1 r
        refine ⟨am_nti _, ?_⟩
        refine g_iload_n (pc := 100) dc_M_page_100 rfl ?_
        refine g_v2 (pc := 101) (M' := mt_M_tell) dc_M_page_101 mo_M_tell im_M_tell se_M_tell ln_M_514 (mp_o hA) rfl rfl (Nat.le_of_ble_eq_true rfl) (Nat.le_of_ble_eq_true rfl) (am_G.mono (c_M_tell2 (d := d + 6) (S := S4) (f := bhf L) (t := L.length) hA (hM3.2.2.2.m hma_S4 (by decide) (by decide) (by decide) (by decide) (by decide)) (by rw [hk_S4_coming]; exact hx3) hbL hL8 hbh (Nat.le_refl _) (by omega) hc) ?_)
        intro r h9 hz
        obtain ⟨v1, S5, v2, v3, v4⟩ := hz
        rw [v1, v2]
        clear v1 v2 h9 r
        refine ⟨am_nti _, ?_⟩
        refine as_pageText (pc := 104) k42 hA dc_M_page_104 (by omega) ?_
        refine g_aload_n (pc := 105) dc_M_page_105 rfl ?_
        refine g_getfield (pc := 106) (v := .int (nI P.length)) dc_M_page_106 fl_M_312 (mp_o hA) (congrArg (fun z => some (Value.int (nI z))) ((v3.pageCount (by decide)).trans hk_S4_pageCount)) ?_
        have hm6 : mA [53] S5 (S5.s_pageText (upd S5.pageText k42 (nI Y.length))) := (mA.rf S5).a_pageText _ (by decide)
        have hf6 : (S5.s_pageText (upd S5.pageText k42 (nI Y.length))).pageText = upd S3.pageText k42 (nI Y.length) := by show upd S5.pageText _ _ = _; rw [v3.pageText (by decide), hk_S4_pageText]
        have hm7 : mA XP S (S5.s_pageText (upd S5.pageText k42 (nI Y.length))) := ((hm3.tr (hma_S4.mo (by decide))).tr (v3.mo (by decide))).tr (hm6.mo (by decide))
        have hpl : Y <+: Y ++ [rst L] := List.prefix_append _ _
        have hM7 : tbM (S5.s_pageText (upd S5.pageText k42 (nI Y.length))) T1 (Y ++ [rst L]) U := ⟨((hM3.1.m hma_S4 (by decide) (by decide) (by decide) (by decide)).m v3 (by decide) (by decide) (by decide) (by decide)).m hm6 (by decide) (by decide) (by decide) (by decide), hM3.2.1, hM3.2.2.1, v4.m hm6 (by decide) (by decide) (by decide) (by decide) (by decide)⟩
        have ht7 : tpM (S5.s_pageText (upd S5.pageText k42 (nI Y.length))) [] := ((ht3.m hma_S4 (by decide) (by decide)).m v3 (by decide) (by decide)).m hm6 (by decide) (by decide)
        have hyl : Y.length < (Y ++ [rst L]).length := by rw [List.length_append]; exact Nat.lt_succ_self _
        have hj42 : k42 < P.length := by have := (nbr_s (hoo.symm.trans hc42)).1; rw [pad_len] at this; exact this
        have ha42 : (gP P k42).1 = D := (pad_g hj42).symm.trans (nbr_s (hoo.symm.trans hc42)).2
        have hlen : (P.set k42 (D, s, rst L)).length = P.length := List.length_set ..
        have hp7 : pagM (S5.s_pageText (upd S5.pageText k42 (nI Y.length))) T1 (Y ++ [rst L]) (P.set k42 (D, s, rst L)) := (hp3.pre (List.prefix_refl T1) hpl).put (k := k42) hkb.1 hkb.2 hs1.2 hyl gT_new (by omega) (by omega) (by rw [pad_set hj42 ha42]; exact hp3.2.2.1) (by rw [gP_set hj42, if_pos rfl]) (fun j hj hne => ⟨by omega, by rw [gP_set hj42, if_neg hne]⟩) ((hm6.pageAddress (by decide)).trans ((v3.pageAddress (by decide)).trans hk_S4_pageAddress)) ((hm6.pageStatus (by decide)).trans ((v3.pageStatus (by decide)).trans hk_S4_pageStatus)) hf6 (by rw [hlen]; exact (hm6.pageCount (by decide)).trans ((v3.pageCount (by decide)).trans hk_S4_pageCount))
        have e5 : pge L (nI s) P = some (P.set k42 (D, s, rst L)) := by unfold pge; rw [hm]; dsimp only; rw [hix]; dsimp only; rw [if_neg (by omega), ← hoo, hc42]
        rw [e5]
        rw [← hlen]
        exact g_ireturn dc_M_page_109 rfl ⟨rfl, _, T1, rfl, hm7, hM7, w3.pre, hp7, ht7⟩
      · rw [hc42]
        refine g_aload_n (pc := 45) dc_M_page_45 rfl ?_
        refine g_getfield (pc := 46) (v := .int (nI P.length)) dc_M_page_46 fl_M_312 (mp_o hA) (congrArg (fun z => some (Value.int (nI z))) hp3.1) ?_
        refine g_bipush (pc := 49) (v := 60) dc_M_page_49 rfl ?_
        refine q_icmp_ne (pc := 51) (tgt := 56) P.length 60 dc_M_page_51 (by omega) (by omega) rfl (fun hc51 => ?_) (fun hc51 => ?_)
        · refine g_aload_n (pc := 56) dc_M_page_56 rfl ?_
          refine g_getfield (pc := 57) (v := .int (nI P.length)) dc_M_page_57 fl_M_312 (mp_o hA) (congrArg (fun z => some (Value.int (nI z))) hp3.1) ?_
          refine g_istore (pc := 60) dc_M_page_60 (by decide) ?_
          show am_G X mt_M_page _ 62 [some (.ref 84), some (.int (nI s)), some (.int (nI L.length)), some (.int (nI kb)), some (.int (nI P.length))] [] _ _
          refine g_aload_n (pc := 62) dc_M_page_62 rfl ?_
          refine g_dup (pc := 63) dc_M_page_63 rfl ?_
          refine g_getfield (pc := 64) (v := .int (nI P.length)) dc_M_page_64 fl_M_312 (mp_o hA) (congrArg (fun z => some (Value.int (nI z))) hp3.1) ?_
          refine g_iconst (pc := 67) (v := 1) dc_M_page_67 rfl ?_
          refine g_iadd (pc := 68) (v := (nI (P.length + 1))) dc_M_page_68 (nI_add P.length 1) ?_
          refine pf_pageCount (pc := 69) (v := P.length + 1) hA dc_M_page_69 fp_M_page_312 ?_
          refine g_aload_n (pc := 72) dc_M_page_72 rfl ?_
          refine g_getfield (pc := 73) dc_M_page_73 fl_M_315 (mp_o hA) rfl ?_
          refine g_iload (pc := 76) dc_M_page_76 rfl ?_
          refine g_iload_n (pc := 78) dc_M_page_78 rfl ?_
          refine asE_pageAddress (pc := 79) P.length (g := upd S3.pageAddress P.length (nI kb)) hA dc_M_page_79 (by omega) (rfl) ?_
          refine g_aload_n (pc := 80) dc_M_page_80 rfl ?_
          refine g_getfield (pc := 81) dc_M_page_81 fl_M_341 (mp_o hA) rfl ?_
          refine g_iload (pc := 84) dc_M_page_84 rfl ?_
          refine g_iload_n (pc := 86) dc_M_page_86 rfl ?_
          refine asE_pageStatus (pc := 87) P.length (g := upd S3.pageStatus P.length (nI s)) hA dc_M_page_87 (by omega) (rfl) ?_
          refine g_aload_n (pc := 88) dc_M_page_88 rfl ?_
          refine g_getfield (pc := 89) dc_M_page_89 fl_M_344 (mp_o hA) rfl ?_
          refine g_iload (pc := 92) dc_M_page_92 rfl ?_
          have hma_S4 : mA [51, 52, 54] S3 (((S3.s_pageCount (P.length + 1)).s_pageAddress (upd S3.pageAddress P.length (nI kb))).s_pageStatus (upd S3.pageStatus P.length (nI s))) := ((((mA.rf S3).a_pageCount _ (by decide)).a_pageAddress _ (by decide)).a_pageStatus _ (by decide))
          have hk_S4_pageAddress : (((S3.s_pageCount (P.length + 1)).s_pageAddress (upd S3.pageAddress P.length (nI kb))).s_pageStatus (upd S3.pageStatus P.length (nI s))).pageAddress = upd S3.pageAddress P.length (nI kb) := rfl
          have hk_S4_pageStatus : (((S3.s_pageCount (P.length + 1)).s_pageAddress (upd S3.pageAddress P.length (nI kb))).s_pageStatus (upd S3.pageStatus P.length (nI s))).pageStatus = upd S3.pageStatus P.length (nI s) := rfl
          have hk_S4_pageCount : (((S3.s_pageCount (P.length + 1)).s_pageAddress (upd S3.pageAddress P.length (nI kb))).s_pageStatus (upd S3.pageStatus P.length (nI s))).pageCount = P.length + 1 := rfl
          have hk_S4_pageText : (((S3.s_pageCount (P.length + 1)).s_pageAddress (upd S3.pageAddress P.length (nI kb))).s_pageStatus (upd S3.pageStatus P.length (nI s))).pageText = S3.pageText := rfl
          have hk_S4_coming : (((S3.s_pageCount (P.length + 1)).s_pageAddress (upd S3.pageAddress P.length (nI kb))).s_pageStatus (upd S3.pageStatus P.length (nI s))).coming = S3.coming := rfl
          show am_G X mt_M_page _ 94 [some (.ref 84), some (.int (nI s)), some (.int (nI L.length)), some (.int (nI kb)), some (.int (nI P.length))] [.int (nI P.length), .ref 112] (mput A (((S3.s_pageCount (P.length + 1)).s_pageAddress (upd S3.pageAddress P.length (nI kb))).s_pageStatus (upd S3.pageStatus P.length (nI s))) B) _
          generalize (((S3.s_pageCount (P.length + 1)).s_pageAddress (upd S3.pageAddress P.length (nI kb))).s_pageStatus (upd S3.pageStatus P.length (nI s))) = S4 at hma_S4 hk_S4_pageAddress hk_S4_pageStatus hk_S4_pageCount hk_S4_pageText hk_S4_coming ⊢
          refine g_aload_n (pc := 94) dc_M_page_94 rfl ?_
          refine g_aload_n (pc := 95) dc_M_page_95 rfl ?_
          refine g_iload_n (pc := 96) dc_M_page_96 rfl ?_
          refine g_v1 (pc := 97) (M' := mt_M_behindFirst) dc_M_page_97 mo_M_behindFirst im_M_behindFirst se_M_behindFirst ln_M_511 (mp_o hA) rfl rfl (Nat.le_of_ble_eq_true rfl) (Nat.le_of_ble_eq_true rfl) (am_G.mono (c_M_behindFirst (d := d + 5) (S := S4) hA (by rw [hk_S4_coming]; exact hx3) hL8) ?_)
          intro r h1 hq
          rw [hq.1, hq.2]
          clear hq h1 r
          refine ⟨am_nti _, ?_⟩
          refine g_iload_n (pc := 100) dc_M_page_100 rfl ?_
          refine g_v2 (pc := 101) (M' := mt_M_tell) dc_M_page_101 mo_M_tell im_M_tell se_M_tell ln_M_514 (mp_o hA) rfl rfl (Nat.le_of_ble_eq_true rfl) (Nat.le_of_ble_eq_true rfl) (am_G.mono (c_M_tell2 (d := d + 6) (S := S4) (f := bhf L) (t := L.length) hA (hM3.2.2.2.m hma_S4 (by decide) (by decide) (by decide) (by decide) (by decide)) (by rw [hk_S4_coming]; exact hx3) hbL hL8 hbh (Nat.le_refl _) (by omega) hc) ?_)
          intro r h9 hz
          obtain ⟨v1, S5, v2, v3, v4⟩ := hz
          rw [v1, v2]
          clear v1 v2 h9 r
          refine ⟨am_nti _, ?_⟩
          refine as_pageText (pc := 104) P.length hA dc_M_page_104 (by omega) ?_
          refine g_aload_n (pc := 105) dc_M_page_105 rfl ?_
          refine g_getfield (pc := 106) (v := .int (nI (P.length + 1))) dc_M_page_106 fl_M_312 (mp_o hA) (congrArg (fun z => some (Value.int (nI z))) ((v3.pageCount (by decide)).trans hk_S4_pageCount)) ?_
          have hm6 : mA [53] S5 (S5.s_pageText (upd S5.pageText P.length (nI Y.length))) := (mA.rf S5).a_pageText _ (by decide)
          have hf6 : (S5.s_pageText (upd S5.pageText P.length (nI Y.length))).pageText = upd S3.pageText P.length (nI Y.length) := by show upd S5.pageText _ _ = _; rw [v3.pageText (by decide), hk_S4_pageText]
          have hm7 : mA XP S (S5.s_pageText (upd S5.pageText P.length (nI Y.length))) := ((hm3.tr (hma_S4.mo (by decide))).tr (v3.mo (by decide))).tr (hm6.mo (by decide))
          have hpl : Y <+: Y ++ [rst L] := List.prefix_append _ _
          have hM7 : tbM (S5.s_pageText (upd S5.pageText P.length (nI Y.length))) T1 (Y ++ [rst L]) U := ⟨((hM3.1.m hma_S4 (by decide) (by decide) (by decide) (by decide)).m v3 (by decide) (by decide) (by decide) (by decide)).m hm6 (by decide) (by decide) (by decide) (by decide), hM3.2.1, hM3.2.2.1, v4.m hm6 (by decide) (by decide) (by decide) (by decide) (by decide)⟩
          have ht7 : tpM (S5.s_pageText (upd S5.pageText P.length (nI Y.length))) [] := ((ht3.m hma_S4 (by decide) (by decide)).m v3 (by decide) (by decide)).m hm6 (by decide) (by decide)
          have hyl : Y.length < (Y ++ [rst L]).length := by rw [List.length_append]; exact Nat.lt_succ_self _
          have hnb := nbr_n (hoo.symm.trans hc42)
          have hlen : (P ++ [(D, s, rst L)]).length = P.length + 1 := by rw [List.length_append]; rfl
          have hp7 : pagM (S5.s_pageText (upd S5.pageText P.length (nI Y.length))) T1 (Y ++ [rst L]) (P ++ [(D, s, rst L)]) := (hp3.pre (List.prefix_refl T1) hpl).put (k := P.length) hkb.1 hkb.2 hs1.2 hyl gT_new (by omega) (by omega) (by unfold pad; rw [List.map_append]; exact nd_snoc hp3.2.2.1 hnb) gP_new (fun j hj hne => ⟨by omega, gP_app (by omega)⟩) ((hm6.pageAddress (by decide)).trans ((v3.pageAddress (by decide)).trans hk_S4_pageAddress)) ((hm6.pageStatus (by decide)).trans ((v3.pageStatus (by decide)).trans hk_S4_pageStatus)) hf6 (by rw [hlen]; exact (hm6.pageCount (by decide)).trans ((v3.pageCount (by decide)).trans hk_S4_pageCount))
          have e5 : pge L (nI s) P = some (P ++ [(D, s, rst L)]) := by unfold pge; rw [hm]; dsimp only; rw [hix]; dsimp only; rw [if_neg (by omega), ← hoo, hc42]; dsimp only; rw [if_neg hc51]
          rw [e5]
          rw [← hlen]
          exact g_ireturn dc_M_page_109 rfl ⟨rfl, _, T1, rfl, hm7, hM7, w3.pre, hp7, ht7⟩
        · refine g_iconst (pc := 54) (v := (-1)) dc_M_page_54 rfl ?_
          have e5 : pge L (nI s) P = none := by unfold pge; rw [hm]; dsimp only; rw [hix]; dsimp only; rw [if_neg (by omega), ← hoo, hc42]; dsimp only; rw [if_pos hc51]
          rw [e5]
          exact g_ireturn dc_M_page_55 rfl ⟨rfl, S3, T1, rfl, hm3, hM3, w3.pre, hp3, ht3⟩
end OP3
