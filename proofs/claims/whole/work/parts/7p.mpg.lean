/-! ===== a page's pieces: how long they are; the model's readPage ===== -/
theorem nd_len {T U : List (List Int32)} : T.Nodup → (∀ x, x ∈ T → x ∈ U) → T.length ≤ U.length := by
  induction T generalizing U with
  | nil => intro _ _; exact Nat.zero_le _
  | cons x r ih =>
    intro hn hs
    have hx : x ∈ U := hs x (List.mem_cons_self ..)
    have hl := List.length_erase_of_mem hx
    have hp : 0 < U.length := List.length_pos_of_mem hx
    have hc := List.nodup_cons.mp hn
    have := ih (U := U.erase x) hc.2 (fun y hy => (List.mem_erase_of_ne (fun e => hc.1 (by rw [← e]; exact hy))).mpr (hs y (List.mem_cons_of_mem _ hy)))
    rw [List.length_cons]
    omega
theorem atr_v {L : List Int32} {p : Nat} (hp : p < L.length) : aE L p ≤ (atr L p).2.1 ∧ (atr L p).2.2 ≤ (atr L p).1 := by
  have h1 := fw_bd (p := anB) (L := L) (f := p + 1) (t := L.length) (by omega)
  have h2 := fw_bd (p := isBl) (L := L) (f := aE L p) (t := L.length) h1.2
  rw [show fw anB L (p + 1) L.length = aE L p from rfl] at h1
  rw [show fw isBl L (aE L p) L.length = aG L p from rfl] at h2
  unfold atr
  by_cases h3 : aG L p < L.length ∧ gx L (aG L p) = 61
  · rw [if_pos h3]
    have h4 := fw_bd (p := isBl) (L := L) (f := aG L p + 1) (t := L.length) (by omega)
    rw [show fw isBl L (aG L p + 1) L.length = aV L p from rfl] at h4
    by_cases h5 : aV L p < L.length ∧ (gx L (aV L p) = 34 ∨ gx L (aV L p) = 39)
    · rw [if_pos h5]
      have h6 := fw_bd (p := nev (gx L (aV L p))) (L := L) (f := aV L p + 1) (t := L.length) (by omega)
      rw [show fw (nev (gx L (aV L p))) L (aV L p + 1) L.length = aQ L p from rfl] at h6
      have h7 := nmin_bd (aQ L p + 1) L.length
      show aE L p ≤ aV L p + 1 ∧ aQ L p ≤ Nat.min (aQ L p + 1) L.length
      omega
    · rw [if_neg h5]
      show aE L p ≤ aV L p ∧ aB L p ≤ aB L p
      omega
  · rw [if_neg h3]
    exact ⟨Nat.le_refl _, Nat.le_refl _⟩
theorem tgl_some {L : List Int32} : ∀ (m k : Nat) (q : Nat × Nat), (tgl L m k none).2 = some q → k ≤ L.length → ∃ j, k ≤ j ∧ j + 4 ≤ q.1 ∧ q.2 ≤ (tgl L m k none).1 ∧ q.1 ≤ q.2 ∧ (j = k → ¬ (isBl (gx L k) = true ∨ gx L k = 47) ∧ ¬ gx L k = 62 ∧ k < L.length)
  | 0, k, q, h, _ => by cases h
  | m + 1, k, q, h, hkl => by
    by_cases hl : k < L.length
    · by_cases h62 : gx L k = 62
      · rw [tgl_e h62] at h; cases h
      · by_cases hbl : isBl (gx L k) = true ∨ gx L k = 47
        · rw [tgl_b hl h62 hbl] at h ⊢
          obtain ⟨j, h1, h2, h3, h4, h5⟩ := tgl_some m (k + 1) q h (by omega)
          exact ⟨j, by omega, h2, h3, h4, fun e => absurd e (by omega)⟩
        · rw [tgl_a hl h62 hbl] at h ⊢
          have hab := atr_bd (L := L) hl
          have haE := fw_bd (p := anB) (L := L) (f := k + 1) (t := L.length) (by omega)
          rw [show fw anB L (k + 1) L.length = aE L k from rfl] at haE
          by_cases hw : isw 20 L k (aE L k) = true
          · have e1 : hqT L k (aE L k) (atr L k).2.1 (atr L k).2.2 none = some ((atr L k).2.1, (atr L k).2.2) := if_pos hw
            rw [e1] at h ⊢
            have hs : ∀ (m k : Nat) (q : Nat × Nat), (tgl L m k (some q)).2 = some q ∧ (k ≤ L.length → k ≤ (tgl L m k (some q)).1) := by
              intro m
              induction m with
              | zero => intro k q; exact ⟨rfl, fun _ => Nat.le_refl _⟩
              | succ m ih =>
                intro k q
                by_cases hl : k < L.length
                · by_cases h62 : gx L k = 62
                  · rw [tgl_e h62]; exact ⟨rfl, fun _ => Nat.le_refl _⟩
                  · by_cases hbl : isBl (gx L k) = true ∨ gx L k = 47
                    · rw [tgl_b hl h62 hbl]
                      exact ⟨(ih (k + 1) q).1, fun _ => by have := (ih (k + 1) q).2 (by omega); omega⟩
                    · rw [tgl_a hl h62 hbl]
                      have hab := atr_bd (L := L) hl
                      exact ⟨(ih (atr L k).1 q).1, fun _ => by
                        have := (ih (atr L k).1 q).2 (by omega)
                        have e2 : hqT L k (aE L k) (atr L k).2.1 (atr L k).2.2 (some q) = some q := rfl
                        rw [e2]; omega⟩
                · rw [tgl_out (by omega)]; exact ⟨rfl, fun _ => Nat.le_refl _⟩
            have h2 := hs m (atr L k).1 ((atr L k).2.1, (atr L k).2.2)
            rw [h2.1] at h
            cases h
            have hz := h2.2 (by omega)
            have h4 : aE L k - k = 4 := (of_decide_eq_true hw).1
            have hva := atr_v hl
            refine ⟨k, Nat.le_refl _, ?_, ?_, hab.2.2.1, fun _ => ⟨hbl, h62, hl⟩⟩
            · show k + 4 ≤ (atr L k).2.1
              omega
            · show (atr L k).2.2 ≤ _
              omega
          · have e1 : hqT L k (aE L k) (atr L k).2.1 (atr L k).2.2 none = none := if_neg hw
            rw [e1] at h ⊢
            obtain ⟨j, h1, h2, h3, h4, h5⟩ := tgl_some m (atr L k).1 q h (by omega)
            exact ⟨j, by omega, h2, h3, h4, fun e => absurd e (by omega)⟩
    · rw [tgl_out (by omega)] at h; cases h
/-- a link's tag takes eight bytes and its value -/
theorem nxW_len {L : List Int32} {nm p : Nat} {q : Nat × Nat} (hn : 1 ≤ cln nm) (h : nxW nm L p = some q) : p + 8 + (q.2 - q.1) ≤ nxT L p ∧ q.1 ≤ q.2 ∧ q.2 ≤ L.length := by
  unfold nxW at h
  by_cases hc : (!(tgC L p) && isw nm L (tgF L p) (tgN L p)) = true
  · rw [if_pos hc] at h
    rw [Bool.and_eq_true] at hc
    unfold nxH at h
    by_cases hk : kdA L p = 2 ∧ tgE L p < L.length
    · rw [if_pos hk] at h
      have hb := tg_bd hk.1
      have hw := (of_decide_eq_true hc.2).1
      obtain ⟨j, h1, h2, h3, h4, h5⟩ := tgl_some (L.length - tgN L p) (tgN L p) q h (by omega)
      have h3 : q.2 ≤ tgE L p := h3
      have ho := fw_out (p := tnB) (L := L) (f := tgF L p) (t := L.length)
      rw [show fw tnB L (tgF L p) L.length = tgN L p from rfl] at ho
      have hj : ¬ j = tgN L p := fun e => by
        have h9 := h5 e
        have h8 := ho h9.2.2
        unfold tnB at h8
        have b1 : isBl (gx L (tgN L p)) = false := by cases h7 : isBl (gx L (tgN L p)) with | true => exact absurd (Or.inl h7) h9.1 | false => rfl
        have b2 : ¬ gx L (tgN L p) = 47 := fun h7 => h9.1 (Or.inr h7)
        rw [b1, decide_eq_true b2, decide_eq_true h9.2.1] at h8
        cases h8
      have hr := rwT_bd (L := L) (nf := tgF L p) (nt := tgN L p) (cl := tgC L p) (f := tgE L p + 1) (by omega)
      have e1 : nxT L p = rwT L (tgF L p) (tgN L p) (tgC L p) (tgE L p + 1) := by unfold nxT; rw [if_pos hk.1, if_pos hk.2]
      rw [e1]
      exact ⟨by omega, h4, by omega⟩
    · rw [if_neg hk] at h; cases h
  · rw [if_neg hc] at h; cases h
/-- a plain stretch before a piece that isn't plain, or before the end -/
theorem itm_pl {L D : List Int32} {pl i : Nat} (h1 : pl ≤ i) (h2 : i ≤ L.length) (h3 : ∀ j, pl ≤ j → j < i → kdA L j = 1) (h4 : i < L.length → ¬ kdA L i = 1) : (itm L pl).flatMap (pvl L) = (itm L i).flatMap (pvl L) ∧ (∀ bo, (itm L pl).foldl (bsO L D) bo = (itm L i).foldl (bsO L D) bo) ∧ (itm L pl).flatMap (pwd L) = spl (dcd L pl i) 0 ++ (itm L i).flatMap (pwd L) := by
  by_cases e : pl = i
  · subst e
    rw [dcd_nil (Nat.le_refl _)]
    exact ⟨rfl, fun _ => rfl, rfl⟩
  · have hk := h3 pl (Nat.le_refl _) (by omega)
    have hx : nxT L pl = i := by
      unfold nxT
      rw [if_neg (by rw [hk]; decide), if_neg (by rw [hk]; decide)]
      exact fx_eq (by omega) h2 (fun j a b => decide_eq_true (h3 j (by omega) b)) (fun h9 => decide_eq_false (h4 h9))
    have hn : nxH L pl = none := if_neg (fun h9 => by rw [hk] at h9; exact absurd h9.1 (by decide))
    have ew : pwd L pl = spl (dcd L pl i) 0 := by unfold pwd; rw [if_pos hk, hx]
    rw [itm_s (by omega), hx]
    refine ⟨?_, fun bo => ?_, ?_⟩
    · rw [List.flatMap_cons, pvl_n (nxW_h hn), List.nil_append]
    · rw [List.foldl_cons, bsO_n (nxW_h hn)]
    · rw [List.flatMap_cons, ew]
theorem kdA_60 {L : List Int32} {i : Nat} (h : ¬ gx L i = 60) : kdA L i = 1 := if_neg (fun h9 => h h9.1)
section MPG
variable {X : am_X} {d s ka : Nat} {A B : List va_E} {L D : List Int32} {U : List (List Int32)}
theorem e_M_readPage (hA : A.length = 84) (hbL : btg L) (hL8 : L.length ≤ 7999) (hs : s + L.length ≤ 24000) {S : MS} {T V Wd : List (List Int32)} {bo : Option (List Int32)} {pl : Nat} (hpl : pl ≤ L.length) (hP : ∀ j, pl ≤ j → j < L.length → kdA L j = 1) (hX : tx S.texts s L) (hR : rdS S T V Wd D bo) (hc : Wd.length ≤ Wd.flatten.length) (hB : Wd.flatten.length + Wd.length ≤ pl) (hU : ∀ x, x ∈ T → x ∈ U) : am_G X mt_M_readPage (d + 8) 82 [some (.ref 84), none, some (.int (nI (s + L.length))), none, some (.int (nI (s + pl))), none, none] [] (mput A S B) (fun r h1 => r = none ∧ ∃ S1 T1, h1 = mput A S1 B ∧ pgA S S1 ∧ rdS S1 T1 (V ++ (itm L pl).flatMap (pvl L)) (Wd ++ (itm L pl).flatMap (pwd L)) D ((itm L pl).foldl (bsO L D) bo) ∧ T <+: T1 ∧ ∀ x, x ∈ T1 → x ∈ U) := by
  obtain ⟨i1, i2, i3⟩ := itm_pl (L := L) (D := D) hpl (Nat.le_refl _) hP (fun h9 => absurd h9 (Nat.lt_irrefl _))
  rw [i1, i2 bo, i3, itm_e (Nat.le_refl _), List.flatMap_nil, List.flatMap_nil, List.append_nil, List.append_nil]
  refine g_aload_n (pc := 82) dc_M_readPage_82 rfl ?_
  refine g_iload (pc := 83) dc_M_readPage_83 rfl ?_
  refine g_iload_n (pc := 85) dc_M_readPage_85 rfl ?_
  refine g_v2 (pc := 86) (M' := mt_M_flush) dc_M_readPage_86 mo_M_flush im_M_flush se_M_flush ln_M_261 (mp_o hA) rfl rfl (Nat.le_of_ble_eq_true rfl) (Nat.le_of_ble_eq_true rfl) (am_G.mono (c_M_flush (d := d + 1) (f := pl) (t := L.length) hA hbL hL8 hs hX hR hpl (Nat.le_refl _) hc (by omega)) ?_)
  intro r h1 hz
  obtain ⟨hz1, S2, hz2, hz3, hz4⟩ := hz
  rw [hz1, hz2]
  refine ⟨am_nt0, ?_⟩
  exact g_return dc_M_readPage_89 rfl ⟨rfl, S2, T, rfl, hz3, hz4, List.prefix_rfl, hU⟩
theorem l_M_readPage (hA : A.length = 84) (hbL : btg L) (hL8 : L.length ≤ 7999) (hs : s + L.length ≤ 24000) (hUl : U.length < 3500) : ∀ (m i pl : Nat) (S : MS) (T V Wd : List (List Int32)) (bo : Option (List Int32)), L.length - i ≤ m → pl ≤ i → i ≤ L.length → (∀ j, pl ≤ j → j < i → kdA L j = 1) → tx S.texts s L → rdS S T V Wd D bo → (ka < T.length ∧ gT T ka = D) → Wd.length ≤ Wd.flatten.length → Wd.flatten.length + Wd.length ≤ pl → V.flatten.length + 8 * V.length ≤ pl → (∀ x, x ∈ T → x ∈ U) → (∀ x, (itm L pl).foldl (bsO L D) bo = some x → x ∈ U) → am_G X mt_M_readPage (d + 8) 26 [some (.ref 84), none, some (.int (nI (s + L.length))), some (.int (nI ka)), some (.int (nI (s + pl))), some (.int (nI (s + i))), none] [] (mput A S B) (fun r h1 => r = none ∧ ∃ S1 T1, h1 = mput A S1 B ∧ pgA S S1 ∧ rdS S1 T1 (V ++ (itm L pl).flatMap (pvl L)) (Wd ++ (itm L pl).flatMap (pwd L)) D ((itm L pl).foldl (bsO L D) bo) ∧ T <+: T1 ∧ ∀ x, x ∈ T1 → x ∈ U)
  | 0, i, pl, S, T, V, Wd, bo, hm, hpi, hil, hP, hX, hR, hka, hc, hB, hV, hU, hF => by
    refine g_iload (pc := 26) dc_M_readPage_26 rfl ?_
    refine g_iload_n (pc := 28) dc_M_readPage_28 rfl ?_
    refine q_icmp_ge (pc := 29) (tgt := 82) (s + i) (s + L.length) dc_M_readPage_29 (by omega) (by omega) rfl (fun hc29 => ?_) (fun hc => absurd hc (by omega))
    refine am_wk (am_le_s (am_le_n (am_le_s (am_le_n (am_le_s (am_le_n (am_le_n am_le_0))))))) ?_
    exact e_M_readPage hA hbL hL8 hs (by omega) (fun j a b => hP j a (by omega)) hX hR hc hB hU
  | m + 1, i, pl, S, T, V, Wd, bo, hm, hpi, hil, hP, hX, hR, hka, hc, hB, hV, hU, hF => by
    by_cases hl : i < L.length
    · by_cases h60 : gx L i = 60
      · by_cases hk : kdA L i = 1
        · refine g_iload (pc := 26) dc_M_readPage_26 rfl ?_
          refine g_iload_n (pc := 28) dc_M_readPage_28 rfl ?_
          refine q_icmp_ge (pc := 29) (tgt := 82) (s + i) (s + L.length) dc_M_readPage_29 (by omega) (by omega) rfl (fun hc => absurd hc (by omega)) (fun hc29 => ?_)
          refine g_aload_n (pc := 32) dc_M_readPage_32 rfl ?_
          refine g_getfield (pc := 33) dc_M_readPage_33 fl_M_140 (mp_o hA) rfl ?_
          refine g_iload (pc := 36) dc_M_readPage_36 rfl ?_
          refine q_tx (pc := 38) i dc_M_readPage_38 (mp_a hA 12 rfl) hX hs (by omega) (by omega) ?_
          refine g_bipush (pc := 39) (v := 60) dc_M_readPage_39 rfl ?_
          refine g_icmp_ne (pc := 41) (tgt := 57) dc_M_readPage_41 rfl (fun hc => absurd hc (not_not_intro h60)) (fun hc41 => ?_)
          refine g_aload_n (pc := 44) dc_M_readPage_44 rfl ?_
          refine g_iload (pc := 45) dc_M_readPage_45 rfl ?_
          refine g_iload_n (pc := 47) dc_M_readPage_47 rfl ?_
          refine g_iload_n (pc := 48) dc_M_readPage_48 rfl ?_
          refine g_iload (pc := 49) dc_M_readPage_49 rfl ?_
          refine g_v4 (pc := 51) (M' := mt_M_markupEnd) dc_M_readPage_51 mo_M_markupEnd im_M_markupEnd se_M_markupEnd ln_M_257 (mp_o hA) rfl rfl (Nat.le_of_ble_eq_true rfl) (Nat.le_of_ble_eq_true rfl) (am_G.mono (z_M_markupEnd (d := d) hA hs hX hl h60 hk) ?_)
          intro r h1 hq
          rw [hq.1, hq.2]
          clear hq h1 r
          refine ⟨am_nti _, ?_⟩
          refine g_goto (pc := 54) (tgt := 58) dc_M_readPage_54 rfl ?_
          refine g_istore (pc := 58) dc_M_readPage_58 (by decide) ?_
          show am_G X mt_M_readPage _ 60 [some (.ref 84), none, some (.int (nI (s + L.length))), some (.int (nI ka)), some (.int (nI (s + pl))), some (.int (nI (s + i))), some (.int (-1))] [] _ _
          refine g_iload (pc := 60) dc_M_readPage_60 rfl ?_
          refine g_if_ge (pc := 62) (tgt := 71) dc_M_readPage_62 rfl (fun hc => absurd hc (by decide)) (fun _ => ?_)
          refine g_iinc (pc := 65) (v := (nI (s + (i + 1)))) dc_M_readPage_65 rfl (q_as s i 1) (by decide) ?_
          show am_G X mt_M_readPage _ 68 [some (.ref 84), none, some (.int (nI (s + L.length))), some (.int (nI ka)), some (.int (nI (s + pl))), some (.int (nI (s + (i + 1)))), some (.int (-1))] [] _ _
          refine g_goto (pc := 68) (tgt := 79) dc_M_readPage_68 rfl ?_
          refine g_goto (pc := 79) (tgt := 26) dc_M_readPage_79 rfl ?_
          refine am_wk (am_le_s (am_le_n (am_le_s (am_le_s (am_le_s (am_le_s (am_le_n am_le_0))))))) ?_
          exact l_M_readPage hA hbL hL8 hs hUl m (i + 1) pl S T V Wd bo (by omega) (by omega) (by omega) (fun j a b => ((by omega : j < i ∨ j = i)).elim (fun q => hP j a q) (fun q => by rw [q]; exact hk)) hX hR hka hc hB hV hU hF
        · have hnb := nxT_bd hl
          have hTl : T.length < 3500 := Nat.lt_of_le_of_lt (nd_len hR.1.2.2.2.2 hU) hUl
          obtain ⟨i1, i2, i3⟩ := itm_pl (L := L) (D := D) hpi hil hP (fun _ => hk)
          have hs8 := spl_len (M := dcd L pl i) (dcd L pl i).length 0 (by omega) (by omega)
          have hdl := dcd_len (L := L) (t := i) (i - pl) pl (Nat.le_refl _)
          have hvq : ∀ q, nxW 28 L i = some q → V.flatten.length + (q.2 - q.1) ≤ 8000 ∧ V.length < 1000 := fun q h9 => by have := nxW_len (by decide) h9; omega
          refine g_iload (pc := 26) dc_M_readPage_26 rfl ?_
          refine g_iload_n (pc := 28) dc_M_readPage_28 rfl ?_
          refine q_icmp_ge (pc := 29) (tgt := 82) (s + i) (s + L.length) dc_M_readPage_29 (by omega) (by omega) rfl (fun hc => absurd hc (by omega)) (fun hc29 => ?_)
          refine g_aload_n (pc := 32) dc_M_readPage_32 rfl ?_
          refine g_getfield (pc := 33) dc_M_readPage_33 fl_M_140 (mp_o hA) rfl ?_
          refine g_iload (pc := 36) dc_M_readPage_36 rfl ?_
          refine q_tx (pc := 38) i dc_M_readPage_38 (mp_a hA 12 rfl) hX hs (by omega) (by omega) ?_
          refine g_bipush (pc := 39) (v := 60) dc_M_readPage_39 rfl ?_
          refine g_icmp_ne (pc := 41) (tgt := 57) dc_M_readPage_41 rfl (fun hc => absurd hc (not_not_intro h60)) (fun hc41 => ?_)
          refine g_aload_n (pc := 44) dc_M_readPage_44 rfl ?_
          refine g_iload (pc := 45) dc_M_readPage_45 rfl ?_
          refine g_iload_n (pc := 47) dc_M_readPage_47 rfl ?_
          refine g_iload_n (pc := 48) dc_M_readPage_48 rfl ?_
          refine g_iload (pc := 49) dc_M_readPage_49 rfl ?_
          refine g_v4 (pc := 51) (M' := mt_M_markupEnd) dc_M_readPage_51 mo_M_markupEnd im_M_markupEnd se_M_markupEnd ln_M_257 (mp_o hA) rfl rfl (Nat.le_of_ble_eq_true rfl) (Nat.le_of_ble_eq_true rfl) (am_G.mono (c_M_markupEnd (d := d) (pl := pl) hA hbL hL8 hs hX hR hka hvq (fun E _ _ => Or.inr hTl) hpi hl hc (by omega) h60 hk) ?_)
          intro r h1 hz
          obtain ⟨hz1, S2, T2, hz2, hz3, hz4, hz5, hz6⟩ := hz
          rw [hz1, hz2]
          clear hz1 hz2 h1 r
          refine ⟨am_nti _, ?_⟩
          refine g_goto (pc := 54) (tgt := 58) dc_M_readPage_54 rfl ?_
          refine g_istore (pc := 58) dc_M_readPage_58 (by decide) ?_
          show am_G X mt_M_readPage _ 60 [some (.ref 84), none, some (.int (nI (s + L.length))), some (.int (nI ka)), some (.int (nI (s + pl))), some (.int (nI (s + i))), some (.int (nI (s + (nxT L i))))] [] _ _
          refine g_iload (pc := 60) dc_M_readPage_60 rfl ?_
          refine q_if_ge (pc := 62) (tgt := 71) (s + (nxT L i)) dc_M_readPage_62 (by omega) rfl ?_
          refine g_iload (pc := 71) dc_M_readPage_71 rfl ?_
          refine g_istore (pc := 73) dc_M_readPage_73 (by decide) ?_
          show am_G X mt_M_readPage _ 75 [some (.ref 84), none, some (.int (nI (s + L.length))), some (.int (nI ka)), some (.int (nI (s + pl))), some (.int (nI (s + (nxT L i)))), some (.int (nI (s + (nxT L i))))] [] _ _
          refine g_iload (pc := 75) dc_M_readPage_75 rfl ?_
          refine g_istore (pc := 77) dc_M_readPage_77 (by decide) ?_
          show am_G X mt_M_readPage _ 79 [some (.ref 84), none, some (.int (nI (s + L.length))), some (.int (nI ka)), some (.int (nI (s + (nxT L i)))), some (.int (nI (s + (nxT L i)))), some (.int (nI (s + (nxT L i))))] [] _ _
          refine g_goto (pc := 79) (tgt := 26) dc_M_readPage_79 rfl ?_
          refine am_wk (am_le_s (am_le_n (am_le_s (am_le_s (am_le_s (am_le_s (am_le_n am_le_0))))))) ?_
          rw [i1, i2 bo, i3, itm_s hl, List.flatMap_cons, List.flatMap_cons, List.foldl_cons, show pwd L i = [] from if_neg hk, List.nil_append]
          have hX2 : tx S2.texts s L := by rw [hz3.texts]; exact hX
          have hF2 : ∀ x, (itm L (nxT L i)).foldl (bsO L D) (bsO L D bo i) = some x → x ∈ U := fun x h9 => hF x (by rw [i2 bo, itm_s hl, List.foldl_cons]; exact h9)
          have hU2 : ∀ x, x ∈ T2 → x ∈ U := fun x hx => (hz6 x hx).elim (hU x) (fun h9 => hF2 x (by rw [h9.2]; exact bsO_f _))
          have hlv : (V ++ pvl L i).flatten.length + 8 * (V ++ pvl L i).length ≤ nxT L i := by
            unfold pvl
            cases hw : nxW 28 L i with
            | none => show (V ++ []).flatten.length + 8 * (V ++ []).length ≤ _; rw [List.append_nil]; omega
            | some q =>
              have hq := nxW_len (by decide) hw
              have hq2 := dcd_len (L := L) (t := q.2) (q.2 - q.1) q.1 (Nat.le_refl _)
              show (V ++ [dcd L q.1 q.2]).flatten.length + 8 * (V ++ [dcd L q.1 q.2]).length ≤ _
              rw [List.flatten_append, List.length_append, List.length_append, List.flatten_cons, List.flatten_nil, List.append_nil]
              show V.flatten.length + (dcd L q.1 q.2).length + 8 * (V.length + 1) ≤ _
              omega
          refine am_G.mono (l_M_readPage hA hbL hL8 hs hUl m (nxT L i) (nxT L i) S2 T2 (V ++ pvl L i) (Wd ++ spl (dcd L pl i) 0) (bsO L D bo i) (by omega) (Nat.le_refl _) (by omega) (fun j a b => absurd b (by omega)) hX2 hz4 ⟨Nat.lt_of_lt_of_le hka.1 (pre_len hz5), by rw [gT_pre hz5 hka.1]; exact hka.2⟩ (by rw [List.flatten_append, List.length_append, List.length_append]; omega) (by rw [List.flatten_append, List.length_append, List.length_append]; omega) hlv hU2 hF2) ?_
          rintro r h1 ⟨y1, S1, T1, y2, y3, y4, y5, y6⟩
          rw [List.append_assoc, List.append_assoc] at y4
          exact ⟨y1, S1, T1, y2, pgA.tr hz3 y3, y4, List.IsPrefix.trans hz5 y5, y6⟩
      · have hk := kdA_60 h60
        refine g_iload (pc := 26) dc_M_readPage_26 rfl ?_
        refine g_iload_n (pc := 28) dc_M_readPage_28 rfl ?_
        refine q_icmp_ge (pc := 29) (tgt := 82) (s + i) (s + L.length) dc_M_readPage_29 (by omega) (by omega) rfl (fun hc => absurd hc (by omega)) (fun hc29 => ?_)
        refine g_aload_n (pc := 32) dc_M_readPage_32 rfl ?_
        refine g_getfield (pc := 33) dc_M_readPage_33 fl_M_140 (mp_o hA) rfl ?_
        refine g_iload (pc := 36) dc_M_readPage_36 rfl ?_
        refine q_tx (pc := 38) i dc_M_readPage_38 (mp_a hA 12 rfl) hX hs (by omega) (by omega) ?_
        refine g_bipush (pc := 39) (v := 60) dc_M_readPage_39 rfl ?_
        refine g_icmp_ne (pc := 41) (tgt := 57) dc_M_readPage_41 rfl (fun hc41 => ?_) (fun hc => absurd hc (h60))
        refine g_iconst (pc := 57) (v := (-1)) dc_M_readPage_57 rfl ?_
        refine g_istore (pc := 58) dc_M_readPage_58 (by decide) ?_
        show am_G X mt_M_readPage _ 60 [some (.ref 84), none, some (.int (nI (s + L.length))), some (.int (nI ka)), some (.int (nI (s + pl))), some (.int (nI (s + i))), some (.int (-1))] [] _ _
        refine g_iload (pc := 60) dc_M_readPage_60 rfl ?_
        refine g_if_ge (pc := 62) (tgt := 71) dc_M_readPage_62 rfl (fun hc => absurd hc (by decide)) (fun _ => ?_)
        refine g_iinc (pc := 65) (v := (nI (s + (i + 1)))) dc_M_readPage_65 rfl (q_as s i 1) (by decide) ?_
        show am_G X mt_M_readPage _ 68 [some (.ref 84), none, some (.int (nI (s + L.length))), some (.int (nI ka)), some (.int (nI (s + pl))), some (.int (nI (s + (i + 1)))), some (.int (-1))] [] _ _
        refine g_goto (pc := 68) (tgt := 79) dc_M_readPage_68 rfl ?_
        refine g_goto (pc := 79) (tgt := 26) dc_M_readPage_79 rfl ?_
        refine am_wk (am_le_s (am_le_n (am_le_s (am_le_s (am_le_s (am_le_s (am_le_n am_le_0))))))) ?_
        exact l_M_readPage hA hbL hL8 hs hUl m (i + 1) pl S T V Wd bo (by omega) (by omega) (by omega) (fun j a b => ((by omega : j < i ∨ j = i)).elim (fun q => hP j a q) (fun q => by rw [q]; exact hk)) hX hR hka hc hB hV hU hF
    · refine g_iload (pc := 26) dc_M_readPage_26 rfl ?_
      refine g_iload_n (pc := 28) dc_M_readPage_28 rfl ?_
      refine q_icmp_ge (pc := 29) (tgt := 82) (s + i) (s + L.length) dc_M_readPage_29 (by omega) (by omega) rfl (fun hc29 => ?_) (fun hc => absurd hc (by omega))
      refine am_wk (am_le_s (am_le_n (am_le_s (am_le_n (am_le_s (am_le_n (am_le_n am_le_0))))))) ?_
      exact e_M_readPage hA hbL hL8 hs (by omega) (fun j a b => hP j a (by omega)) hX hR hc hB hU
theorem c_M_readPage (hA : A.length = 84) (hbL : btg L) (hL8 : L.length ≤ 7999) (hs : s + L.length ≤ 24000) {S : MS} {T : List (List Int32)} (hUl : U.length < 3500) (hX : tx S.texts s L) (hT : adT S T) (hO : ∀ x, x ∈ T → okD x) (hka : ka < T.length ∧ gT T ka = D) (hU : ∀ x, x ∈ T → x ∈ U) (hF : ∀ x, pgB L D = some x → x ∈ U) : am_C X mt_M_readPage (d + 8) [.ref 84, .int (nI s), .int (nI (s + L.length)), .int (nI ka)] (mput A S B) (fun r h1 => r = none ∧ ∃ S1 T1, h1 = mput A S1 B ∧ pgA S S1 ∧ rdS S1 T1 (pgV L) (pgW L) D (pgB L D) ∧ T <+: T1 ∧ ∀ x, x ∈ T1 → x ∈ U) := by
  show am_G X mt_M_readPage (d + 8) 0 [some (.ref 84), some (.int (nI s)), some (.int (nI (s + L.length))), some (.int (nI ka)), none, none, none] [] (mput A S B) _
  have e1 : lkK ((((S.s_wordCount 0).s_valueCount 0).s_hasBase false).s_pageBase ka) = lkK S := by rw [lkK_pageBase, lkK_hasBase, lkK_valueCount, lkK_wordCount]
  have e2 : lnK ((((S.s_wordCount 0).s_valueCount 0).s_hasBase false).s_pageBase ka) = lnK S := by rw [lnK_pageBase, lnK_hasBase, lnK_valueCount, lnK_wordCount]
  have e3 : adK ((((S.s_wordCount 0).s_valueCount 0).s_hasBase false).s_pageBase ka) = adK S := by rw [adK_pageBase, adK_hasBase, adK_valueCount, adK_wordCount]
  refine g_aload_n (pc := 0) dc_M_readPage_0 rfl ?_
  refine g_iconst (pc := 1) (v := 0) dc_M_readPage_1 rfl ?_
  refine pf_wordCount (pc := 2) (v := 0) hA dc_M_readPage_2 fp_M_readPage_223 ?_
  refine g_aload_n (pc := 5) dc_M_readPage_5 rfl ?_
  refine g_iconst (pc := 6) (v := 0) dc_M_readPage_6 rfl ?_
  refine pf_valueCount (pc := 7) (v := 0) hA dc_M_readPage_7 fp_M_readPage_248 ?_
  refine g_aload_n (pc := 10) dc_M_readPage_10 rfl ?_
  refine g_iconst (pc := 11) (v := 0) dc_M_readPage_11 rfl ?_
  refine pf_hasBase (pc := 12) (v := false) hA dc_M_readPage_12 fp_M_readPage_251 ?_
  refine g_aload_n (pc := 15) dc_M_readPage_15 rfl ?_
  refine g_iload_n (pc := 16) dc_M_readPage_16 rfl ?_
  refine pf_pageBase (pc := 17) (v := ka) hA dc_M_readPage_17 fp_M_readPage_254 ?_
  refine g_iload_n (pc := 20) dc_M_readPage_20 rfl ?_
  refine g_istore (pc := 21) dc_M_readPage_21 (by decide) ?_
  show am_G X mt_M_readPage _ 23 [some (.ref 84), some (.int (nI s)), some (.int (nI (s + L.length))), some (.int (nI ka)), some (.int (nI s)), none, none] [] _ _
  refine g_iload_n (pc := 23) dc_M_readPage_23 rfl ?_
  refine g_istore (pc := 24) dc_M_readPage_24 (by decide) ?_
  show am_G X mt_M_readPage _ 26 [some (.ref 84), some (.int (nI s)), some (.int (nI (s + L.length))), some (.int (nI ka)), some (.int (nI s)), some (.int (nI s)), none] [] _ _
  refine am_wk (am_le_s (am_le_n (am_le_s (am_le_s (am_le_s (am_le_s (am_le_n am_le_0))))))) ?_
  have h26 := l_M_readPage (X := X) (d := d) (B := B) (ka := ka) hA hbL hL8 hs hUl L.length 0 0 ((((S.s_wordCount 0).s_valueCount 0).s_hasBase false).s_pageBase ka) T [] [] none (by omega) (Nat.le_refl _) (Nat.zero_le _) (fun j a b => absurd b (by omega)) (by rw [lkA.texts e1]; exact hX) ⟨hT.k e3, hO, ⟨rfl, fun k hk => absurd hk (by exact Nat.not_lt_zero k)⟩, ⟨rfl, fun k hk => absurd hk (by exact Nat.not_lt_zero k)⟩, rfl, hka.1, hka.2⟩ hka (Nat.zero_le _) (Nat.zero_le _) (Nat.zero_le _) hU hF
  refine am_G.mono h26 (fun r h1 hz => ?_)
  obtain ⟨z1, S1, T1, z2, z3, z4, z5, z6⟩ := hz
  exact ⟨z1, S1, T1, z2, pgA.tr ⟨e1, e2⟩ z3, z4, z5, z6⟩
end MPG
