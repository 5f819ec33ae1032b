/-! ===== the model's findLinks ===== -/
def lkI (S : MS) (T Ls : List (List Int32)) : Prop := S.linkCount = Ls.length ∧ ∀ i, i < Ls.length → ∃ k, k < T.length ∧ S.links i = nI k ∧ gT T k = gT Ls i
theorem lnk_f {Bs : List Int32} {Ls : List (List Int32)} (h : 60 ≤ Ls.length) : ∀ V : List (List Int32), V.foldl (lnk Bs) Ls = Ls
  | [] => rfl
  | v :: V => by
    rw [List.foldl_cons, show lnk Bs Ls v = Ls from if_neg (by omega)]
    exact lnk_f h V
theorem lnk_sub {Bs V : List Int32} {Ls : List (List Int32)} : ∀ x, x ∈ Ls → x ∈ lnk Bs Ls V := by
  intro x hx
  unfold lnk
  split
  · split
    · split
      · exact hx
      · exact List.mem_append_left _ hx
    · exact hx
  · exact hx
theorem lnk_subf {Bs : List Int32} : ∀ (V Ls : List (List Int32)) (x : List Int32), x ∈ Ls → x ∈ V.foldl (lnk Bs) Ls
  | [], _, _, h => h
  | v :: V, Ls, x, h => lnk_subf V (lnk Bs Ls v) x (lnk_sub x h)
theorem lnk_60 {Bs V : List Int32} {Ls : List (List Int32)} (h : Ls.length ≤ 60) : (lnk Bs Ls V).length ≤ 60 := by
  unfold lnk
  split
  · split
    · split
      · exact h
      · rw [List.length_append]
        show _ + 1 ≤ 60
        omega
    · exact h
  · exact h
theorem gT_in {T : List (List Int32)} {x : List Int32} (h : x ∈ T) : ∃ k, k < T.length ∧ gT T k = x := by
  obtain ⟨i, hi, e⟩ := List.mem_iff_getElem.mp h
  exact ⟨i, hi, (gT_eq hi).trans e⟩
theorem gT_inj {T : List (List Int32)} (hn : T.Nodup) {i j : Nat} (hi : i < T.length) (hj : j < T.length) (h : gT T i = gT T j) : i = j := by
  rw [gT_eq hi, gT_eq hj] at h
  have hp := List.pairwise_iff_getElem.mp hn
  rcases Nat.lt_trichotomy i j with q | q | q
  · exact absurd h (hp i j hi hj q)
  · exact q
  · exact absurd h.symm (hp j i hj hi q)
theorem drop_s {V : List (List Int32)} {k : Nat} (h : k < V.length) : V.drop k = gT V k :: V.drop (k + 1) := by
  rw [List.drop_eq_getElem_cons h, gT_eq h]
theorem pgV_bd {L : List Int32} : ∀ (n p : Nat), L.length - p ≤ n → p ≤ L.length → p + ((itm L p).flatMap (pvl L)).flatten.length + 8 * ((itm L p).flatMap (pvl L)).length ≤ L.length
  | 0, p, h, hp => by rw [itm_e (by omega)]; exact hp
  | n + 1, p, h, hp => by
    by_cases hl : p < L.length
    · have hn := nxT_bd hl
      have r := pgV_bd n (nxT L p) (by omega) hn.2
      rw [itm_s hl, List.flatMap_cons, List.flatten_append, List.length_append, List.length_append]
      unfold pvl at r ⊢
      cases hw : nxW 28 L p with
      | none =>
        show p + (([] : List (List Int32)).flatten.length + _) + 8 * (([] : List (List Int32)).length + _) ≤ _
        rw [List.flatten_nil, List.length_nil, List.length_nil]
        omega
      | some q =>
        have hq := nxW_len (by decide) hw
        have hq2 := dcd_len (L := L) (t := q.2) (q.2 - q.1) q.1 (Nat.le_refl _)
        show p + (([dcd L q.1 q.2] : List (List Int32)).flatten.length + _) + 8 * (([dcd L q.1 q.2] : List (List Int32)).length + _) ≤ _
        rw [List.flatten_cons, List.flatten_nil, List.append_nil]
        show p + ((dcd L q.1 q.2).length + _) + 8 * (1 + _) ≤ _
        omega
    · rw [itm_e (by omega)]; exact hp
theorem pgV_bt {L : List Int32} (hb : btg L) : ∀ x, x ∈ pgV L → btg x := by
  intro x hx
  obtain ⟨p, -, hp⟩ := List.mem_flatMap.mp hx
  unfold pvl at hp
  cases hw : nxW 28 L p with
  | none => rw [hw] at hp; exact absurd hp List.not_mem_nil
  | some q =>
    rw [hw] at hp
    rw [List.mem_singleton.mp hp]
    exact btg_dcd hb (q.2 - q.1) q.1 (Nat.le_refl _)
theorem lkI.pre {S : MS} {T T1 Ls : List (List Int32)} (h : lkI S T Ls) (hp : T <+: T1) : lkI S T1 Ls := ⟨h.1, fun i hi => by
  obtain ⟨k, h1, h2, h3⟩ := h.2 i hi
  exact ⟨k, Nat.lt_of_lt_of_le h1 (pre_len hp), h2, by rw [gT_pre hp h1]; exact h3⟩⟩
theorem lkI.mem {S : MS} {T Ls : List (List Int32)} (h : lkI S T Ls) : ∀ x, x ∈ Ls → x ∈ T := fun x hx => by
  obtain ⟨i, hi, e⟩ := gT_in hx
  obtain ⟨k, h1, h2, h3⟩ := h.2 i hi
  rw [← e, ← h3]
  exact gT_mem h1
theorem lkI.new {S : MS} {T Ls : List (List Int32)} {k : Nat} {E : List Int32} (h : lkI S T Ls) (hk : k < T.length) (e : gT T k = E) : lkI ((S.s_links (upd S.links Ls.length (nI k))).s_linkCount (Ls.length + 1)) T (Ls ++ [E]) := by
  refine ⟨by show Ls.length + 1 = _; rw [List.length_append]; rfl, fun i hi => ?_⟩
  rw [List.length_append] at hi
  have hi : i < Ls.length + 1 := hi
  show ∃ k_1, k_1 < T.length ∧ upd S.links Ls.length (nI k) i = nI k_1 ∧ _
  by_cases e9 : i = Ls.length
  · subst e9
    rw [gT_new]
    exact ⟨k, hk, if_pos rfl, e⟩
  · obtain ⟨k1, h1, h2, h3⟩ := h.2 i (by omega)
    rw [gT_app (by omega)]
    exact ⟨k1, h1, (if_neg e9).trans h2, h3⟩
theorem lkI.k {S S1 : MS} {T Ls : List (List Int32)} (h : lkI S T Ls) (e : lnK S1 = lnK S) : lkI S1 T Ls := by
  obtain ⟨e1, e2⟩ := lnK_f e
  unfold lkI at h ⊢
  rw [e1, e2]
  exact h
theorem kept.lk {S S3 : MS} {T T3 Ls : List (List Int32)} {E : List Int32} {k : Nat} (h : lkI S T Ls) (hk : kept S T E S3 T3 k) : lkI S3 T3 Ls := by
  refine lkI.pre ?_ hk.pre
  exact h.k hk.ak.2.1
theorem lkI.sc {S S1 : MS} {T Ls : List (List Int32)} (h : lkI S T Ls) (hs : scA S S1) : lkI S1 T Ls := h.k (rkA.sc hs).2.1
theorem rdS.ok {S : MS} {T V Wd : List (List Int32)} {D : List Int32} {bo : Option (List Int32)} (h : rdS S T V Wd D bo) : okD (bo.getD D) := by
  rw [← h.2.2.2.2.2.2]
  exact h.2.1 _ (gT_mem h.2.2.2.2.2.1)
theorem lnP (S : MS) (f : Nat → Int32) (n : Nat) : lkK ((S.s_links f).s_linkCount n) = lkK S ∧ adK ((S.s_links f).s_linkCount n) = adK S ∧ vlK ((S.s_links f).s_linkCount n) = vlK S ∧ wdK ((S.s_links f).s_linkCount n) = wdK S ∧ bsK ((S.s_links f).s_linkCount n) = bsK S := ⟨by rw [lkK_linkCount, lkK_links], by rw [adK_linkCount, adK_links], by rw [vlK_linkCount, vlK_links], by rw [wdK_linkCount, wdK_links], by rw [bsK_linkCount, bsK_links]⟩
theorem rdS.ln {S S1 : MS} {T V Wd : List (List Int32)} {D : List Int32} {bo : Option (List Int32)} (h : rdS S T V Wd D bo) (e : lkK S1 = lkK S ∧ adK S1 = adK S ∧ vlK S1 = vlK S ∧ wdK S1 = wdK S ∧ bsK S1 = bsK S) : rdS S1 T V Wd D bo := ⟨h.1.k e.2.1, h.2.1, h.2.2.1.k e.2.2.1, h.2.2.2.1.k e.2.2.2.1, h.2.2.2.2.k e.2.2.2.2⟩
section MFK
variable {X : am_X} {d ka k : Nat} {A B : List va_E} {D E : List Int32} {U V Wd : List (List Int32)} {bo : Option (List Int32)}
theorem c_M_readLink (hA : A.length = 84) (hVl : V.flatten.length ≤ 8000) (hVb : ∀ x, x ∈ V → btg x) {S : MS} {T : List (List Int32)} (hR : rdS S T V Wd D bo) (hk : k < V.length) (hV1 : V.length ≤ 1000) : am_C X mt_M_readLink (d + 6) [.ref 84, .int (nI k)] (mput A S B) (fun r h1 => ∃ S1, h1 = mput A S1 B ∧ scA S S1 ∧ match mrr (gT V k) 0 (gT V k).length (some (bo.getD D)) with | some E => r = some (.int 1) ∧ mad S1 E | none => r = some (.int 0)) := by
  have hv1 := hR.2.2.1.1
  have hv2 := hR.2.2.1.2
  have hfl := flat_len V
  have hof := ofs_mono (T := V) (show k + 1 ≤ V.length by omega) (Nat.le_refl _)
  have hos := ofs_s (T := V) hk
  show am_G X mt_M_readLink (d + 6) 0 [some (.ref 84), some (.int (nI k))] [] (mput A S B) _
  refine g_aload_n (pc := 0) dc_M_readLink_0 rfl ?_
  refine g_aload_n (pc := 1) dc_M_readLink_1 rfl ?_
  refine g_getfield (pc := 2) dc_M_readLink_2 fl_M_292 (mp_o hA) rfl ?_
  refine g_aload_n (pc := 5) dc_M_readLink_5 rfl ?_
  refine g_getfield (pc := 6) dc_M_readLink_6 fl_M_280 (mp_o hA) rfl ?_
  refine g_iload_n (pc := 9) dc_M_readLink_9 rfl ?_
  refine q_ialoadV (pc := 10) k dc_M_readLink_10 (mp_a hA 24 rfl) (by omega) (by omega) (v := (nI (ofs V k))) (hv2 k (by omega)).1 ?_
  refine g_aload_n (pc := 11) dc_M_readLink_11 rfl ?_
  refine g_getfield (pc := 12) dc_M_readLink_12 fl_M_280 (mp_o hA) rfl ?_
  refine g_iload_n (pc := 15) dc_M_readLink_15 rfl ?_
  refine q_ialoadV (pc := 16) k dc_M_readLink_16 (mp_a hA 24 rfl) (by omega) (by omega) (v := (nI (ofs V k))) (hv2 k (by omega)).1 ?_
  refine g_aload_n (pc := 17) dc_M_readLink_17 rfl ?_
  refine g_getfield (pc := 18) dc_M_readLink_18 fl_M_283 (mp_o hA) rfl ?_
  refine g_iload_n (pc := 21) dc_M_readLink_21 rfl ?_
  refine q_ialoadV (pc := 22) k dc_M_readLink_22 (mp_a hA 25 rfl) (by omega) (by omega) (v := (nI ((gT V k).length))) (hv2 k (by omega)).2.1 ?_
  refine g_iadd (pc := 23) (v := (nI (ofs V k + ((gT V k).length)))) dc_M_readLink_23 (nI_add (ofs V k) ((gT V k).length)) ?_
  refine g_aload_n (pc := 24) dc_M_readLink_24 rfl ?_
  refine g_getfield (pc := 25) dc_M_readLink_25 fl_M_254 (mp_o hA) rfl ?_
  refine g_v4 (pc := 28) (M' := mt_M_readReference) dc_M_readLink_28 mo_M_readReference im_M_readReference se_M_readReference ln_M_297 (mp_o hA) rfl rfl (Nat.le_of_ble_eq_true rfl) (Nat.le_of_ble_eq_true rfl) (am_G.mono (c_M_readReference (d := d) (S := S) (T := T) (ca := 107) (s := ofs V k) (L := gT V k) (f0 := 0) (t0 := (gT V k).length) (bo := some S.pageBase) hA hR.1 (okT_of hR.2.1) (fun S1 a1 a2 a3 a4 a5 => ⟨8000, S1.values, mp_a hA 23 rfl, by rw [a4]; exact (hv2 k hk).2.2, by omega, by omega⟩) ⟨by decide, by decide⟩ (hVb _ (gT_mem hk)) (Nat.zero_le _) (Nat.le_refl _) (by omega) (fun k hk => by cases hk; exact hR.2.2.2.2.2.1)) ?_)
  intro r h1 hz
  obtain ⟨S2, hz1, hz2, hz3⟩ := hz
  have hmd : Option.map (gT T) (some S.pageBase) = some (bo.getD D) := congrArg some hR.2.2.2.2.2.2
  rw [hmd] at hz3
  rw [hz1]
  cases hm : mrr (gT V k) 0 (gT V k).length (some (bo.getD D)) with
  | none =>
    rw [hm] at hz3
    have hz3 : r = some (.int 0) := hz3
    rw [hz3]
    refine ⟨am_nti _, ?_⟩
    exact g_zreturn dc_M_readLink_31 rfl rfl ⟨S2, rfl, hz2, rfl⟩
  | some E =>
    rw [hm] at hz3
    obtain ⟨hz3, hz4⟩ := hz3
    rw [hz3]
    refine ⟨am_nti _, ?_⟩
    exact g_zreturn dc_M_readLink_31 rfl rfl ⟨S2, rfl, hz2, rfl, hz4⟩
theorem v61_M_findLinks {Q : Option Value → List va_E → Prop} {S : MS} {T Ls : List (List Int32)} {kk : Nat} (hA : A.length = 84) (hT : adT S T) (hL : lkI S T Ls) (hl60 : Ls.length ≤ 60) (hkk : kk < T.length) (hE : gT T kk = E) (K : ∀ b1', (b1' = true ↔ E ∈ Ls) → am_G X mt_M_findLinks (d + 7) 100 [some (.ref 84), none, none, some (.int (nI k)), some (.int (nI kk)), some (.int (b1 b1')), none] [] (mput A S B) Q) : ∀ (m i : Nat) (b : Bool), i + m = Ls.length → (b = true ↔ ∃ j, j < i ∧ gT Ls j = E) → am_G X mt_M_findLinks (d + 7) 61 [some (.ref 84), none, none, some (.int (nI k)), some (.int (nI kk)), some (.int (b1 b)), some (.int (nI i))] [] (mput A S B) Q
  | 0, i, b, e, hb => by
    have hl1 := hL.1
    refine g_iload (pc := 61) dc_M_findLinks_61 rfl ?_
    refine g_aload_n (pc := 63) dc_M_findLinks_63 rfl ?_
    refine g_getfield (pc := 64) (v := .int (nI Ls.length)) dc_M_findLinks_64 fl_M_322 (mp_o hA) (congrArg (fun z => some (Value.int (nI z))) hl1) ?_
    refine q_icmp_ge (pc := 67) (tgt := 100) i Ls.length dc_M_findLinks_67 (by omega) (by omega) rfl (fun hc67 => ?_) (fun hc => absurd hc (by omega))
    refine am_wk (am_le_s (am_le_n (am_le_n (am_le_s (am_le_s (am_le_s (am_le_n am_le_0))))))) ?_
    exact K b ⟨fun h9 => by obtain ⟨j, h1, h2⟩ := hb.mp h9; rw [← h2]; exact gT_mem (by omega), fun h9 => hb.mpr (by obtain ⟨j, h1, h2⟩ := gT_in h9; exact ⟨j, by omega, h2⟩)⟩
  | m + 1, i, b, e, hb => by
    have hl1 := hL.1
    obtain ⟨k1, hk1, hk2, hk3⟩ := hL.2 i (by omega)
    have hkb := hT.2.2.1
    have hiff : S.links i = nI kk ↔ gT Ls i = E := by
      rw [hk2, ← hk3, ← hE]
      exact ⟨fun h9 => congrArg (gT T) ((nI_eq (by omega) (by omega)).mp h9), fun h9 => congrArg nI (gT_inj hT.2.2.2.2 hk1 hkk h9)⟩
    refine g_iload (pc := 61) dc_M_findLinks_61 rfl ?_
    refine g_aload_n (pc := 63) dc_M_findLinks_63 rfl ?_
    refine g_getfield (pc := 64) (v := .int (nI Ls.length)) dc_M_findLinks_64 fl_M_322 (mp_o hA) (congrArg (fun z => some (Value.int (nI z))) hl1) ?_
    refine q_icmp_ge (pc := 67) (tgt := 100) i Ls.length dc_M_findLinks_67 (by omega) (by omega) rfl (fun hc => absurd hc (by omega)) (fun hc67 => ?_)
    refine g_iload (pc := 70) dc_M_findLinks_70 rfl ?_
    refine q_ifb_ne (pc := 72) (tgt := 87) dc_M_findLinks_72 rfl (fun hc72 => ?_) (fun hc72 => ?_)
    · refine g_iconst (pc := 87) (v := 1) dc_M_findLinks_87 rfl ?_
      refine g_goto (pc := 88) (tgt := 92) dc_M_findLinks_88 rfl ?_
      refine g_istore (pc := 92) dc_M_findLinks_92 (by decide) ?_
      show am_G X mt_M_findLinks _ 94 [some (.ref 84), none, none, some (.int (nI k)), some (.int (nI kk)), some (.int 1), some (.int (nI i))] [] _ _
      refine g_iinc (pc := 94) (v := (nI (i + 1))) dc_M_findLinks_94 rfl (nI_add i 1) (by decide) ?_
      show am_G X mt_M_findLinks _ 97 [some (.ref 84), none, none, some (.int (nI k)), some (.int (nI kk)), some (.int 1), some (.int (nI (i + 1)))] [] _ _
      refine g_goto (pc := 97) (tgt := 61) dc_M_findLinks_97 rfl ?_
      exact v61_M_findLinks hA hT hL hl60 hkk hE K m (i + 1) true (by omega) ⟨fun _ => by obtain ⟨j, h1, h2⟩ := hb.mp hc72; exact ⟨j, by omega, h2⟩, fun _ => rfl⟩
    · refine g_aload_n (pc := 75) dc_M_findLinks_75 rfl ?_
      refine g_getfield (pc := 76) dc_M_findLinks_76 fl_M_328 (mp_o hA) rfl ?_
      refine g_iload (pc := 79) dc_M_findLinks_79 rfl ?_
      refine q_iaload (pc := 81) i dc_M_findLinks_81 (mp_a hA 29 rfl) (by omega) (by omega) ?_
      refine g_iload (pc := 82) dc_M_findLinks_82 rfl ?_
      refine g_icmp_ne (pc := 84) (tgt := 91) dc_M_findLinks_84 rfl (fun hc84 => ?_) (fun hc84 => ?_)
      · refine g_iconst (pc := 91) (v := 0) dc_M_findLinks_91 rfl ?_
        refine g_istore (pc := 92) dc_M_findLinks_92 (by decide) ?_
        show am_G X mt_M_findLinks _ 94 [some (.ref 84), none, none, some (.int (nI k)), some (.int (nI kk)), some (.int 0), some (.int (nI i))] [] _ _
        refine g_iinc (pc := 94) (v := (nI (i + 1))) dc_M_findLinks_94 rfl (nI_add i 1) (by decide) ?_
        show am_G X mt_M_findLinks _ 97 [some (.ref 84), none, none, some (.int (nI k)), some (.int (nI kk)), some (.int 0), some (.int (nI (i + 1)))] [] _ _
        refine g_goto (pc := 97) (tgt := 61) dc_M_findLinks_97 rfl ?_
        exact v61_M_findLinks hA hT hL hl60 hkk hE K m (i + 1) false (by omega) ⟨fun h9 => (by cases h9), fun h9 => absurd h9 (fun ⟨j, h1, h2⟩ => ((by omega : j < i ∨ j = i)).elim (fun q => absurd (hb.mpr ⟨j, q, h2⟩) (by rw [hc72]; decide)) (fun q => hc84 (hiff.mpr (by rw [← q]; exact h2))))⟩
      · refine g_iconst (pc := 87) (v := 1) dc_M_findLinks_87 rfl ?_
        refine g_goto (pc := 88) (tgt := 92) dc_M_findLinks_88 rfl ?_
        refine g_istore (pc := 92) dc_M_findLinks_92 (by decide) ?_
        show am_G X mt_M_findLinks _ 94 [some (.ref 84), none, none, some (.int (nI k)), some (.int (nI kk)), some (.int 1), some (.int (nI i))] [] _ _
        refine g_iinc (pc := 94) (v := (nI (i + 1))) dc_M_findLinks_94 rfl (nI_add i 1) (by decide) ?_
        show am_G X mt_M_findLinks _ 97 [some (.ref 84), none, none, some (.int (nI k)), some (.int (nI kk)), some (.int 1), some (.int (nI (i + 1)))] [] _ _
        refine g_goto (pc := 97) (tgt := 61) dc_M_findLinks_97 rfl ?_
        exact v61_M_findLinks hA hT hL hl60 hkk hE K m (i + 1) true (by omega) ⟨fun _ => ⟨i, by omega, hiff.mp hc84⟩, fun _ => rfl⟩
theorem l_M_findLinks (hA : A.length = 84) (hVl : V.flatten.length ≤ 8000) (hVb : ∀ x, x ∈ V → btg x) (hUl : U.length < 3500) (hV1 : V.length ≤ 1000) : ∀ (m k : Nat) (S : MS) (T Ls : List (List Int32)), k + m = V.length → rdS S T V Wd D bo → lkI S T Ls → Ls.length ≤ 60 → (∀ x, x ∈ T → x ∈ U) → (∀ x, x ∈ (V.drop k).foldl (lnk (bo.getD D)) Ls → x ∈ U) → am_G X mt_M_findLinks (d + 7) 24 [some (.ref 84), none, none, some (.int (nI k)), none, none, none] [] (mput A S B) (fun r h1 => r = none ∧ ∃ S1 T1, h1 = mput A S1 B ∧ lkA S S1 ∧ rdS S1 T1 V Wd D bo ∧ T <+: T1 ∧ (∀ x, x ∈ T1 → x ∈ U) ∧ lkI S1 T1 ((V.drop k).foldl (lnk (bo.getD D)) Ls))
  | 0, k, S, T, Ls, e, hR, hL, hl60, hU, hF => by
    have hv1 := hR.2.2.1.1
    have hl1 := hL.1
    rw [List.drop_of_length_le (by omega)]
    refine g_iload_n (pc := 24) dc_M_findLinks_24 rfl ?_
    refine g_aload_n (pc := 25) dc_M_findLinks_25 rfl ?_
    refine g_getfield (pc := 26) (v := .int (nI V.length)) dc_M_findLinks_26 fl_M_248 (mp_o hA) (congrArg (fun z => some (Value.int (nI z))) hv1) ?_
    refine q_icmp_ge (pc := 29) (tgt := 132) k V.length dc_M_findLinks_29 (by omega) (by omega) rfl (fun hc29 => ?_) (fun hc => absurd hc (by omega))
    exact g_return dc_M_findLinks_132 rfl ⟨rfl, S, T, rfl, rfl, hR, List.prefix_rfl, hU, hL⟩
  | m + 1, k, S, T, Ls, e, hR, hL, hl60, hU, hF => by
    have hv1 := hR.2.2.1.1
    have hl1 := hL.1
    have hTl : T.length < 3500 := Nat.lt_of_le_of_lt (nd_len hR.1.2.2.2.2 hU) hUl
    rw [drop_s (show k < V.length by omega), List.foldl_cons] at hF ⊢
    refine g_iload_n (pc := 24) dc_M_findLinks_24 rfl ?_
    refine g_aload_n (pc := 25) dc_M_findLinks_25 rfl ?_
    refine g_getfield (pc := 26) (v := .int (nI V.length)) dc_M_findLinks_26 fl_M_248 (mp_o hA) (congrArg (fun z => some (Value.int (nI z))) hv1) ?_
    refine q_icmp_ge (pc := 29) (tgt := 132) k V.length dc_M_findLinks_29 (by omega) (by omega) rfl (fun hc => absurd hc (by omega)) (fun hc29 => ?_)
    refine g_aload_n (pc := 32) dc_M_findLinks_32 rfl ?_
    refine g_getfield (pc := 33) (v := .int (nI Ls.length)) dc_M_findLinks_33 fl_M_322 (mp_o hA) (congrArg (fun z => some (Value.int (nI z))) hl1) ?_
    refine g_bipush (pc := 36) (v := 60) dc_M_findLinks_36 rfl ?_
    refine q_icmp_ge (pc := 38) (tgt := 132) Ls.length 60 dc_M_findLinks_38 (by omega) (by omega) rfl (fun hc38 => ?_) (fun hc38 => ?_)
    · exact g_return dc_M_findLinks_132 rfl (by rw [show lnk (bo.getD D) Ls (gT V k) = Ls from if_neg (by omega), lnk_f (by omega)]; exact ⟨rfl, S, T, rfl, rfl, hR, List.prefix_rfl, hU, hL⟩)
    · refine g_aload_n (pc := 41) dc_M_findLinks_41 rfl ?_
      refine g_iload_n (pc := 42) dc_M_findLinks_42 rfl ?_
      refine g_v1 (pc := 43) (M' := mt_M_readLink) dc_M_findLinks_43 mo_M_readLink im_M_readLink se_M_readLink ln_M_325 (mp_o hA) rfl rfl (Nat.le_of_ble_eq_true rfl) (Nat.le_of_ble_eq_true rfl) (am_G.mono (c_M_readLink (d := d) hA hVl hVb hR (show k < V.length by omega) hV1) ?_)
      intro r h1 hz
      obtain ⟨S2, hz1, hz2, hz3⟩ := hz
      rw [hz1]
      have hR2 := hR.rk (rkA.sc hz2)
      have hL2 := hL.sc hz2
      have hlk2 : lkA S S2 := (rkA.sc hz2).lk
      cases hm : mrr (gT V k) 0 (gT V k).length (some (bo.getD D)) with
      | none =>
        rw [hm] at hz3
        have hz3 : r = some (.int 0) := hz3
        rw [hz3]
        clear hz3
        refine ⟨am_nti _, ?_⟩
        have eL : lnk (bo.getD D) Ls (gT V k) = Ls := by unfold lnk; rw [if_pos (by omega), hm]
        rw [eL] at hF ⊢
        refine g_if_eq (pc := 46) (tgt := 126) dc_M_findLinks_46 rfl (fun _ => ?_) (fun hc => absurd hc (by decide))
        refine g_iinc (pc := 126) (v := (nI (k + 1))) dc_M_findLinks_126 rfl (nI_add k 1) (by decide) ?_
        show am_G X mt_M_findLinks _ 129 [some (.ref 84), none, none, some (.int (nI (k + 1))), none, none, none] [] _ _
        refine g_goto (pc := 129) (tgt := 24) dc_M_findLinks_129 rfl ?_
        refine am_G.mono (l_M_findLinks hA hVl hVb hUl hV1 m (k + 1) S2 T Ls (by omega) hR2 hL2 hl60 hU hF) ?_
        rintro r h1 ⟨y1, S1, T1, y2, y3, y4, y5, y6, y7⟩
        exact ⟨y1, S1, T1, y2, lkA.tr hlk2 y3, y4, y5, y6, y7⟩
      | some E =>
        rw [hm] at hz3
        obtain ⟨hz3, hz4⟩ := hz3
        rw [hz3]
        clear hz3
        have hE : okD E := mrr_ok (Nat.zero_le _) (Nat.le_refl _) (hVb _ (gT_mem (by omega))) (fun D1 h9 => by cases h9; exact hR.ok) hm
        refine ⟨am_nti _, ?_⟩
        have eL : lnk (bo.getD D) Ls (gT V k) = if E ∈ Ls then Ls else Ls ++ [E] := by unfold lnk; rw [if_pos (by omega), hm]
        rw [eL] at hF ⊢
        refine g_if_eq (pc := 46) (tgt := 126) dc_M_findLinks_46 rfl (fun hc => absurd hc (by decide)) (fun _ => ?_)
        refine g_aload_n (pc := 49) dc_M_findLinks_49 rfl ?_
        refine g_v0 (pc := 50) (M' := mt_M_keep) dc_M_findLinks_50 mo_M_keep im_M_keep se_M_keep ln_M_300 (mp_o hA) rfl rfl (Nat.le_of_ble_eq_true rfl) (Nat.le_of_ble_eq_true rfl) (am_G.mono (c_M_keep (d := d + 5) (S := S2) (T := T) (D := E) hA hR2.1 hz4 (Or.inr hTl)) ?_)
        intro r h1 hz
        obtain ⟨S3, T3, kk, hz5, hz6, hz7⟩ := hz
        rw [hz5, hz6]
        clear hz5 hz6 h1 r
        have hR3 := kept.rd hR2 hz7 hE
        have hL3 := kept.lk hL2 hz7
        have hlk3 : lkA S S3 := hlk2.tr hz7.ak.pg.lk
        refine ⟨am_nti _, ?_⟩
        refine g_istore (pc := 53) dc_M_findLinks_53 (by decide) ?_
        show am_G X mt_M_findLinks _ 55 [some (.ref 84), none, none, some (.int (nI k)), some (.int (nI kk)), none, none] [] _ _
        refine g_iconst (pc := 55) (v := 0) dc_M_findLinks_55 rfl ?_
        refine g_istore (pc := 56) dc_M_findLinks_56 (by decide) ?_
        show am_G X mt_M_findLinks _ 58 [some (.ref 84), none, none, some (.int (nI k)), some (.int (nI kk)), some (.int 0), none] [] _ _
        refine g_iconst (pc := 58) (v := 0) dc_M_findLinks_58 rfl ?_
        refine g_istore (pc := 59) dc_M_findLinks_59 (by decide) ?_
        show am_G X mt_M_findLinks _ 61 [some (.ref 84), none, none, some (.int (nI k)), some (.int (nI kk)), some (.int 0), some (.int 0)] [] _ _
        refine v61_M_findLinks (S := S3) (T := T3) (Ls := Ls) hA hR3.1 hL3 hl60 hz7.2.2.1 hz7.2.2.2.1 (fun b1' hb1 => ?_) Ls.length 0 false (by omega) ⟨fun h9 => (by cases h9), fun ⟨j, h1, h2⟩ => absurd h1 (by omega)⟩
        have hl3 := hL3.1
        refine g_iload (pc := 100) dc_M_findLinks_100 rfl ?_
        refine q_ifb_ne (pc := 102) (tgt := 126) dc_M_findLinks_102 rfl (fun hc102 => ?_) (fun hc102 => ?_)
        · refine g_iinc (pc := 126) (v := (nI (k + 1))) dc_M_findLinks_126 rfl (nI_add k 1) (by decide) ?_
          show am_G X mt_M_findLinks _ 129 [some (.ref 84), none, none, some (.int (nI (k + 1))), some (.int (nI kk)), some (.int (b1 b1')), none] [] _ _
          refine g_goto (pc := 129) (tgt := 24) dc_M_findLinks_129 rfl ?_
          have hin : E ∈ Ls := hb1.mp hc102
          rw [if_pos hin] at hF ⊢
          have hU3 : ∀ x, x ∈ T3 → x ∈ U := fun x hx => (hz7.mem x hx).elim (hU x) (fun h9 => by rw [h9]; exact hU E (hL.mem E hin))
          refine am_wk (am_le_s (am_le_n (am_le_n (am_le_s (am_le_n (am_le_n (am_le_n am_le_0))))))) ?_
          refine am_G.mono (l_M_findLinks hA hVl hVb hUl hV1 m (k + 1) S3 T3 Ls (by omega) hR3 hL3 hl60 hU3 hF) ?_
          rintro r h1 ⟨y1, S1, T1, y2, y3, y4, y5, y6, y7⟩
          exact ⟨y1, S1, T1, y2, lkA.tr hlk3 y3, y4, List.IsPrefix.trans hz7.pre y5, y6, y7⟩
        · refine g_aload_n (pc := 105) dc_M_findLinks_105 rfl ?_
          refine g_getfield (pc := 106) dc_M_findLinks_106 fl_M_328 (mp_o hA) rfl ?_
          refine g_aload_n (pc := 109) dc_M_findLinks_109 rfl ?_
          refine g_getfield (pc := 110) (v := .int (nI Ls.length)) dc_M_findLinks_110 fl_M_322 (mp_o hA) (congrArg (fun z => some (Value.int (nI z))) hl3) ?_
          refine g_iload (pc := 113) dc_M_findLinks_113 rfl ?_
          refine as_links (pc := 115) Ls.length hA dc_M_findLinks_115 (by omega) ?_
          refine g_aload_n (pc := 116) dc_M_findLinks_116 rfl ?_
          refine g_dup (pc := 117) dc_M_findLinks_117 rfl ?_
          refine g_getfield (pc := 118) (v := .int (nI Ls.length)) dc_M_findLinks_118 fl_M_322 (mp_o hA) (congrArg (fun z => some (Value.int (nI z))) hl3) ?_
          refine g_iconst (pc := 121) (v := 1) dc_M_findLinks_121 rfl ?_
          refine g_iadd (pc := 122) (v := (nI (Ls.length + 1))) dc_M_findLinks_122 (nI_add Ls.length 1) ?_
          refine pf_linkCount (pc := 123) (v := Ls.length + 1) hA dc_M_findLinks_123 fp_M_findLinks_322 ?_
          refine g_iinc (pc := 126) (v := (nI (k + 1))) dc_M_findLinks_126 rfl (nI_add k 1) (by decide) ?_
          show am_G X mt_M_findLinks _ 129 [some (.ref 84), none, none, some (.int (nI (k + 1))), some (.int (nI kk)), some (.int (b1 b1')), none] [] _ _
          refine g_goto (pc := 129) (tgt := 24) dc_M_findLinks_129 rfl ?_
          have e9 := lnP S3 (upd S3.links Ls.length (nI kk)) (Ls.length + 1)
          have hin : ¬ E ∈ Ls := fun h9 => by rw [hb1.mpr h9] at hc102; cases hc102
          rw [if_neg hin] at hF ⊢
          have hU3 : ∀ x, x ∈ T3 → x ∈ U := fun x hx => (hz7.mem x hx).elim (hU x) (fun h9 => by rw [h9]; exact hF E (lnk_subf _ _ E (List.mem_append_right _ (List.mem_singleton_self E))))
          refine am_wk (am_le_s (am_le_n (am_le_n (am_le_s (am_le_n (am_le_n (am_le_n am_le_0))))))) ?_
          refine am_G.mono (l_M_findLinks hA hVl hVb hUl hV1 m (k + 1) ((S3.s_links (upd S3.links Ls.length (nI kk))).s_linkCount (Ls.length + 1)) T3 (Ls ++ [E]) (by omega) (hR3.ln e9) (hL3.new hz7.2.2.1 hz7.2.2.2.1) (by rw [List.length_append]; show _ + 1 ≤ 60; omega) hU3 hF) ?_
          rintro r h1 ⟨y1, S1, T1, y2, y3, y4, y5, y6, y7⟩
          exact ⟨y1, S1, T1, y2, lkA.tr (hlk3.tr e9.1) y3, y4, List.IsPrefix.trans hz7.pre y5, y6, y7⟩
theorem c_M_findLinks {S : MS} {T Y : List (List Int32)} {j : Nat} (hA : A.length = 84) (hUl : U.length < 3500) (hY : txT S Y) (hY1 : Y.length ≤ 1100) (hj : j < Y.length) (hj2 : ofs Y (j + 1) ≤ 24000) (hL8 : (gT Y j).length ≤ 7999) (hT : adT S T) (hO : ∀ x, x ∈ T → okD x) (hka : ka < T.length ∧ gT T ka = D) (hU : ∀ x, x ∈ T → x ∈ U) (hF : ∀ x, pgB (gT Y j) D = some x → x ∈ U) (hF2 : ∀ x, x ∈ pgL (gT Y j) D → x ∈ U) : am_C X mt_M_findLinks (d + 9) [.ref 84, .int (nI j), .int (nI ka)] (mput A S B) (fun r h1 => r = none ∧ ∃ S1 T1, h1 = mput A S1 B ∧ lkA S S1 ∧ rdS S1 T1 (pgV (gT Y j)) (pgW (gT Y j)) D (pgB (gT Y j) D) ∧ T <+: T1 ∧ (∀ x, x ∈ T1 → x ∈ U) ∧ lkI S1 T1 (pgL (gT Y j) D)) := by
  have hy := hY.2.2.1
  have hos := ofs_s (T := Y) hj
  have hvb := pgV_bd (L := gT Y j) (gT Y j).length 0 (by omega) (Nat.zero_le _)
  have hvb : 0 + (pgV (gT Y j)).flatten.length + 8 * (pgV (gT Y j)).length ≤ (gT Y j).length := hvb
  show am_G X mt_M_findLinks (d + 9) 0 [some (.ref 84), some (.int (nI j)), some (.int (nI ka)), none, none, none, none] [] (mput A S B) _
  refine g_aload_n (pc := 0) dc_M_findLinks_0 rfl ?_
  refine g_aload_n (pc := 1) dc_M_findLinks_1 rfl ?_
  refine g_getfield (pc := 2) dc_M_findLinks_2 fl_M_131 (mp_o hA) rfl ?_
  refine g_iload_n (pc := 5) dc_M_findLinks_5 rfl ?_
  refine q_ialoadV (pc := 6) j dc_M_findLinks_6 (mp_a hA 13 rfl) (by omega) (by omega) (v := (nI (ofs Y j))) (hy j (by omega)).1 ?_
  refine g_aload_n (pc := 7) dc_M_findLinks_7 rfl ?_
  refine g_getfield (pc := 8) dc_M_findLinks_8 fl_M_146 (mp_o hA) rfl ?_
  refine g_iload_n (pc := 11) dc_M_findLinks_11 rfl ?_
  refine q_ialoadV (pc := 12) j dc_M_findLinks_12 (mp_a hA 14 rfl) (by omega) (by omega) (v := (nI (ofs Y j + (gT Y j).length))) (((hy j (by omega)).2.1).trans (congrArg nI hos)) ?_
  refine g_iload_n (pc := 13) dc_M_findLinks_13 rfl ?_
  refine g_v3 (pc := 14) (M' := mt_M_readPage) dc_M_findLinks_14 mo_M_readPage im_M_readPage se_M_readPage ln_M_318 (mp_o hA) rfl rfl (Nat.le_of_ble_eq_true rfl) (Nat.le_of_ble_eq_true rfl) (am_G.mono (c_M_readPage (d := d) (s := ofs Y j) (L := gT Y j) (D := D) (U := U) (T := T) hA (hY.2.2.2 j hj) hL8 (by omega) hUl (hy j hj).2.2 hT hO hka hU hF) ?_)
  intro r h1 hz
  obtain ⟨hz1, S2, T2, hz2, hz3, hz4, hz5, hz6⟩ := hz
  rw [hz1, hz2]
  clear hz1 hz2 h1 r
  refine ⟨am_nt0, ?_⟩
  refine g_aload_n (pc := 17) dc_M_findLinks_17 rfl ?_
  refine g_iconst (pc := 18) (v := 0) dc_M_findLinks_18 rfl ?_
  refine pf_linkCount (pc := 19) (v := 0) hA dc_M_findLinks_19 fp_M_findLinks_322 ?_
  refine g_iconst (pc := 22) (v := 0) dc_M_findLinks_22 rfl ?_
  refine g_istore_n (pc := 23) dc_M_findLinks_23 (by decide) ?_
  show am_G X mt_M_findLinks _ 24 [some (.ref 84), some (.int (nI j)), some (.int (nI ka)), some (.int 0), none, none, none] [] _ _
  refine am_wk (am_le_s (am_le_n (am_le_n (am_le_s (am_le_n (am_le_n (am_le_n am_le_0))))))) ?_
  have e9 : lkK (S2.s_linkCount 0) = lkK S2 ∧ adK (S2.s_linkCount 0) = adK S2 ∧ vlK (S2.s_linkCount 0) = vlK S2 ∧ wdK (S2.s_linkCount 0) = wdK S2 ∧ bsK (S2.s_linkCount 0) = bsK S2 := ⟨lkK_linkCount _ _, adK_linkCount _ _, vlK_linkCount _ _, wdK_linkCount _ _, bsK_linkCount _ _⟩
  refine am_G.mono (l_M_findLinks (d := d + 2) hA (by omega) (pgV_bt (hY.2.2.2 j hj)) hUl (by omega) (pgV (gT Y j)).length 0 (S2.s_linkCount 0) T2 [] (by omega) (hz4.ln e9) ⟨rfl, fun i hi => absurd hi (Nat.not_lt_zero i)⟩ (by decide) hz6 hF2) ?_
  rintro r h1 ⟨y1, S1, T1, y2, y3, y4, y5, y6, y7⟩
  exact ⟨y1, S1, T1, y2, (hz3.lk.tr e9.1).tr y3, y4, List.IsPrefix.trans hz5 y5, y6, y7⟩
end MFK
