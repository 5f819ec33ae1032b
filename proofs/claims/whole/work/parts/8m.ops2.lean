/-! ===== the model: what is known, told, made; the tape ===== -/
/-- the tape -/
def tpM (S : MS) (L : List Int32) : Prop := tx S.coming 0 L ∧ S.size = L.length ∧ L.length ≤ 8000 ∧ btg L
theorem tpM.m {S S1 : MS} {L : List Int32} {Z : List Nat} (h : tpM S L) (e : mA Z S S1) (h1 : ¬ 0 ∈ Z) (h2 : ¬ 1 ∈ Z) : tpM S1 L := by
  unfold tpM at h ⊢
  rw [e.coming h1, e.size h2]
  exact h
/-- what was made -/
def prM (S : MS) (D : List Int32) : Prop := tx S.product 0 D ∧ S.productSize = D.length ∧ D.length ≤ 20000
theorem prM.m {S S1 : MS} {D : List Int32} {Z : List Nat} (h : prM S D) (e : mA Z S S1) (h1 : ¬ 3 ∈ Z) (h2 : ¬ 4 ∈ Z) : prM S1 D := by
  unfold prM at h ⊢
  rw [e.product h1, e.productSize h2]
  exact h
theorem tx_take {g : Nat → Int32} {L : List Int32} {n : Nat} (h : tx g 0 L) (hn : n ≤ L.length) : tx g 0 (L.take n) := fun j hj => by
  rw [List.length_take] at hj
  have := h j (by omega)
  rw [this]
  unfold gx
  rw [List.getD_eq_getElem?_getD, List.getD_eq_getElem?_getD, List.getElem?_take_of_lt (by omega)]
theorem btg_take {L : List Int32} {n : Nat} (h : btg L) : btg (L.take n) := fun j => by
  by_cases e : j < n
  · have := h j
    unfold gx at this ⊢
    rw [List.getD_eq_getElem?_getD] at this ⊢
    rw [List.getElem?_take_of_lt e]
    exact this
  · rw [gx_out (by rw [List.length_take]; omega)]; exact bt_0
/-- known(p, w) -/
def knoA (K : Kn) (p w : Int32) : Int32 := match ixo p K.ad.length with
  | none => -1
  | some k => match ixo w 4 with
    | none => -1
    | some 0 => nI (K.st k)
    | some 1 => nI (K.dp k)
    | some 2 => nI (K.ch k)
    | some (_ + 3) => match K.ld k with
      | none => -1
      | some E => er (nbr K.ad E)
/-- out(p) -/
def outA (D : List Int32) (p : Int32) : Int32 := match ixo p D.length with
  | none => -1
  | some k => gx D k &&& 255
/-- set(p, w): which one, and what -/
def stmx (k : Nat) : Nat := if k = 0 then 20 else if k = 1 then 8 else if k = 2 then 1000 else 50
def stmn (k : Nat) : Nat := if k = 3 then 1 else 0
def stG (p w : Int32) : Option (Nat × Nat) := match ixo p 4 with
  | none => none
  | some k => match ixo w (stmx k + 1) with
    | none => none
    | some v => if stmn k ≤ v then some (k, v) else none
section OP2
variable {X : am_X} {d k ka j i : Nat} {A B h : List va_E} {S : MS} {T Y U Ls Rs Rt Sd : List (List Int32)} {K V : Kn} {lim sett : Nat → Nat} {c : Cw} {P : List Pg} {D L E : List Int32} {q : Cr} {p w : Int32}
theorem c_M_showAddress (hA : A.length = 84) (hT : adT S T) (hka : ka < T.length) (hb : btg (gT T ka)) : am_C X mt_M_showAddress (d + 1) [.ref 84, .int (nI ka)] (mput A S B) (fun r h1 => r = some (.int (nI (gT T ka).length)) ∧ ∃ S1, h1 = mput A S1 B ∧ mA [3, 4] S S1 ∧ prM S1 (gT T ka)) := by
  show am_G X mt_M_showAddress (d + 1) 0 [some (.ref 84), some (.int (nI ka))] [] (mput A S B) _
  have h200 := (hT.2.2.2.1 ka hka).2
  have h35 := hT.2.2.1
  have hof := adT.of hT ka (by omega)
  refine g_aload_n (pc := 0) dc_M_showAddress_0 rfl ?_
  refine g_aload_n (pc := 1) dc_M_showAddress_1 rfl ?_
  refine g_getfield (pc := 2) dc_M_showAddress_2 fl_M_41 (mp_o hA) rfl ?_
  refine g_aload_n (pc := 5) dc_M_showAddress_5 rfl ?_
  refine g_getfield (pc := 6) dc_M_showAddress_6 fl_M_31 (mp_o hA) rfl ?_
  refine g_iload_n (pc := 9) dc_M_showAddress_9 rfl ?_
  refine q_ialoadV (pc := 10) ka dc_M_showAddress_10 (mp_a hA 4 rfl) (by omega) (by omega) (v := (nI (ofs T ka))) (hT.2.1 ka hka).1 ?_
  refine g_aload_n (pc := 11) dc_M_showAddress_11 rfl ?_
  refine g_getfield (pc := 12) dc_M_showAddress_12 fl_M_35 (mp_o hA) rfl ?_
  refine g_iload_n (pc := 15) dc_M_showAddress_15 rfl ?_
  refine q_ialoadV (pc := 16) ka dc_M_showAddress_16 (mp_a hA 5 rfl) (by omega) (by omega) (v := (nI ((gT T ka).length))) (hT.2.1 ka hka).2.1 ?_
  refine g_v3 (pc := 17) (M' := mt_M_show) dc_M_showAddress_17 mo_M_show im_M_show se_M_show ln_M_502 (mp_o hA) rfl rfl (Nat.le_of_ble_eq_true rfl) (Nat.le_of_ble_eq_true rfl) (am_G.mono (c_M_show_addr (p0 := ofs T ka) (D := gT T ka) hA (hT.2.1 ka hka).2.2 (by omega) hb (by omega)) ?_)
  intro r h1 hq
  rw [hq.1, hq.2]
  clear hq h1 r
  refine ⟨am_nti _, ?_⟩
  exact g_ireturn dc_M_showAddress_20 rfl ⟨rfl, _, rfl, ((mA.rf S).a_productSize _ (by decide)).a_product _ (by decide), wrt_tx _ _ _, rfl, by omega⟩
theorem c_M_address (hA : A.length = 84) (hT : adT S T) (hok : ∀ x, x ∈ T → okD x) (hK : knM S T Y K) (hw : wfK K) (hk : k < K.ad.length) : am_C X mt_M_address (d + 2) [.ref 84, .int (nI k)] (mput A S B) (fun r h1 => r = some (.int (nI (gT K.ad k).length)) ∧ ∃ S1, h1 = mput A S1 B ∧ mA [2, 3, 4] S S1 ∧ prM S1 (gT K.ad k)) := by
  show am_G X mt_M_address (d + 2) 0 [some (.ref 84), some (.int (nI k))] [] (mput A S B) _
  have h250 := hw.1
  have hm0 : mA [2] S (S.s_fault 0) := (mA.rf S).a_fault _ (by decide)
  obtain ⟨kb, hb1, hb2, hb3⟩ := (hK.2 k hk).1
  refine g_aload_n (pc := 0) dc_M_address_0 rfl ?_
  refine g_iconst (pc := 1) (v := 0) dc_M_address_1 rfl ?_
  refine pf_fault (pc := 2) (v := 0) hA dc_M_address_2 fp_M_address_1 ?_
  refine g_iload_n (pc := 5) dc_M_address_5 rfl ?_
  refine q_if_lt (pc := 6) (tgt := 17) k dc_M_address_6 (by omega) rfl ?_
  refine g_iload_n (pc := 9) dc_M_address_9 rfl ?_
  refine g_aload_n (pc := 10) dc_M_address_10 rfl ?_
  refine g_getfield (pc := 11) (v := .int (nI K.ad.length)) dc_M_address_11 fl_M_412 (mp_o hA) (congrArg (fun z => some (Value.int (nI z))) hK.1) ?_
  refine q_icmp_lt (pc := 14) (tgt := 21) k K.ad.length dc_M_address_14 (by omega) (by omega) rfl (fun hc14 => ?_) (fun hc => absurd hc (by omega))
  refine g_aload_n (pc := 21) dc_M_address_21 rfl ?_
  refine g_aload_n (pc := 22) dc_M_address_22 rfl ?_
  refine g_iload_n (pc := 23) dc_M_address_23 rfl ?_
  refine g_iconst (pc := 24) (v := 0) dc_M_address_24 rfl ?_
  refine g_v2 (pc := 25) (M' := mt_M_of) dc_M_address_25 mo_M_of im_M_of se_M_of ln_M_415 (mp_o hA) rfl rfl (Nat.le_of_ble_eq_true rfl) (Nat.le_of_ble_eq_true rfl) (am_G.mono (c_M_of (d := d + 1) (S := S.s_fault 0) (i := k) (w := 0) hA (by omega) (by decide) hb2) ?_)
  intro r h1 hq
  rw [hq.1, hq.2]
  clear hq h1 r
  refine ⟨am_nti _, ?_⟩
  refine g_v1 (pc := 28) (M' := mt_M_showAddress) dc_M_address_28 mo_M_showAddress im_M_showAddress se_M_showAddress ln_M_532 (mp_o hA) rfl rfl (Nat.le_of_ble_eq_true rfl) (Nat.le_of_ble_eq_true rfl) (am_G.mono (c_M_showAddress (d := d) (S := S.s_fault 0) hA (hT.m hm0 (by decide) (by decide) (by decide) (by decide)) hb1 (hok _ (gT_mem hb1)).2.2.2.2.2.1) ?_)
  intro r h9 hz
  obtain ⟨q1, S2, q2, q3, q4⟩ := hz
  rw [q1, q2, hb3]
  clear q1 q2 h9 r
  rw [hb3] at q4
  refine ⟨am_nti _, ?_⟩
  exact g_ireturn dc_M_address_31 rfl ⟨rfl, S2, rfl, (hm0.mo (by decide)).tr (q3.mo (by decide)), q4⟩
theorem n_M_address (hA : A.length = 84) (hK : S.knownCount = k) (hk : k < 2 ^ 31) (hn : ixo p k = none) : am_C X mt_M_address (d + 2) [.ref 84, .int p] (mput A S B) (fun r h1 => r = some (.int (-1)) ∧ h1 = mput A (S.s_fault 0) B) := by
  show am_G X mt_M_address (d + 2) 0 [some (.ref 84), some (.int p)] [] (mput A S B) _
  have hout := ixo_n hk hn
  refine g_aload_n (pc := 0) dc_M_address_0 rfl ?_
  refine g_iconst (pc := 1) (v := 0) dc_M_address_1 rfl ?_
  refine pf_fault (pc := 2) (v := 0) hA dc_M_address_2 fp_M_address_1 ?_
  refine g_iload_n (pc := 5) dc_M_address_5 rfl ?_
  refine g_if_lt (pc := 6) (tgt := 17) dc_M_address_6 rfl (fun hc6 => ?_) (fun hc6 => ?_)
  · have hi6 : (p).toInt < (0 : Int) := Int32.lt_iff_toInt_lt.mp hc6
    refine g_iconst (pc := 17) (v := (-1)) dc_M_address_17 rfl ?_
    refine g_goto (pc := 18) (tgt := 31) dc_M_address_18 rfl ?_
    exact g_ireturn dc_M_address_31 rfl ⟨rfl, rfl⟩
  · have hi6 : ¬ ((p).toInt < (0 : Int)) := fun h9 => hc6 (Int32.lt_iff_toInt_lt.mpr h9)
    refine g_iload_n (pc := 9) dc_M_address_9 rfl ?_
    refine g_aload_n (pc := 10) dc_M_address_10 rfl ?_
    refine g_getfield (pc := 11) (v := .int (nI k)) dc_M_address_11 fl_M_412 (mp_o hA) (congrArg (fun z => some (Value.int (nI z))) hK) ?_
    refine g_icmp_lt (pc := 14) (tgt := 21) dc_M_address_14 rfl (fun hc => absurd hc (Int32.not_lt.mpr (hout.resolve_left hc6))) (fun hc14 => ?_)
    refine g_iconst (pc := 17) (v := (-1)) dc_M_address_17 rfl ?_
    refine g_goto (pc := 18) (tgt := 31) dc_M_address_18 rfl ?_
    exact g_ireturn dc_M_address_31 rfl ⟨rfl, rfl⟩
theorem c0_M_asking (hA : A.length = 84) (hc : cwM S T c) (hw : wfC K c) (hk : k < c.aq.length) : am_C X mt_M_asking (d + 2) [.ref 84, .int (nI k), .int 0] (mput A S B) (fun r h1 => r = some (.int (nI (c.ac k))) ∧ h1 = mput A (S.s_fault 0) B) := by
  show am_G X mt_M_asking (d + 2) 0 [some (.ref 84), some (.int (nI k)), some (.int 0)] [] (mput A S B) _
  have h1 := hw.2.2.2.1
  have h2 := hw.2.2.2.2.1
  refine g_aload_n (pc := 0) dc_M_asking_0 rfl ?_
  refine g_iconst (pc := 1) (v := 0) dc_M_asking_1 rfl ?_
  refine pf_fault (pc := 2) (v := 0) hA dc_M_asking_2 fp_M_asking_1 ?_
  refine g_iload_n (pc := 5) dc_M_asking_5 rfl ?_
  refine q_if_lt (pc := 6) (tgt := 33) k dc_M_asking_6 (by omega) rfl ?_
  refine g_iload_n (pc := 9) dc_M_asking_9 rfl ?_
  refine g_aload_n (pc := 10) dc_M_asking_10 rfl ?_
  refine g_getfield (pc := 11) (v := .int (nI c.an)) dc_M_asking_11 fl_M_436 (mp_o hA) (congrArg (fun z => some (Value.int (nI z))) hc.2.1) ?_
  refine q_icmp_ge (pc := 14) (tgt := 33) k c.an dc_M_asking_14 (by omega) (by omega) rfl (fun hc => absurd hc (by omega)) (fun hc14 => ?_)
  refine g_iload_n (pc := 17) dc_M_asking_17 rfl ?_
  refine g_sipush (pc := 18) (v := 1000) dc_M_asking_18 rfl ?_
  refine q_icmp_ge (pc := 21) (tgt := 33) k 1000 dc_M_asking_21 (by omega) (by omega) rfl (fun hc => absurd hc (by omega)) (fun hc21 => ?_)
  refine g_iload_n (pc := 24) dc_M_asking_24 rfl ?_
  refine g_if_lt (pc := 25) (tgt := 33) dc_M_asking_25 rfl (fun hc => absurd hc (by decide)) (fun _ => ?_)
  refine g_iload_n (pc := 28) dc_M_asking_28 rfl ?_
  refine g_iconst (pc := 29) (v := 1) dc_M_asking_29 rfl ?_
  refine g_icmp_le (pc := 30) (tgt := 35) dc_M_asking_30 rfl (fun _ => ?_) (fun hc => absurd hc (by decide))
  refine g_iload_n (pc := 35) dc_M_asking_35 rfl ?_
  refine g_if_ne (pc := 36) (tgt := 48) dc_M_asking_36 rfl (fun hc => absurd hc (by decide)) (fun _ => ?_)
  refine g_aload_n (pc := 39) dc_M_asking_39 rfl ?_
  refine g_getfield (pc := 40) dc_M_asking_40 fl_M_362 (mp_o hA) rfl ?_
  refine g_iload_n (pc := 43) dc_M_asking_43 rfl ?_
  refine q_ialoadV (pc := 44) k dc_M_asking_44 (mp_a hA 35 rfl) (by omega) (by omega) (v := (nI (c.ac k))) (hc.2.2.2.2 k hk).1 ?_
  refine g_goto (pc := 45) (tgt := 58) dc_M_asking_45 rfl ?_
  exact g_ireturn dc_M_asking_58 rfl ⟨rfl, rfl⟩
theorem c1_M_asking (hA : A.length = 84) (hT : adT S T) (hok : ∀ x, x ∈ T → okD x) (hc : cwM S T c) (hw : wfC K c) (hk : k < c.aq.length) : am_C X mt_M_asking (d + 2) [.ref 84, .int (nI k), .int 1] (mput A S B) (fun r h1 => r = some (.int (nI (gT c.aq k).length)) ∧ ∃ S1, h1 = mput A S1 B ∧ mA [2, 3, 4] S S1 ∧ prM S1 (gT c.aq k)) := by
  show am_G X mt_M_asking (d + 2) 0 [some (.ref 84), some (.int (nI k)), some (.int 1)] [] (mput A S B) _
  have h1 := hw.2.2.2.1
  have h2 := hw.2.2.2.2.1
  have hm0 : mA [2] S (S.s_fault 0) := (mA.rf S).a_fault _ (by decide)
  obtain ⟨kb, hb1, hb2, hb3⟩ := (hc.2.2.2.2 k hk).2
  refine g_aload_n (pc := 0) dc_M_asking_0 rfl ?_
  refine g_iconst (pc := 1) (v := 0) dc_M_asking_1 rfl ?_
  refine pf_fault (pc := 2) (v := 0) hA dc_M_asking_2 fp_M_asking_1 ?_
  refine g_iload_n (pc := 5) dc_M_asking_5 rfl ?_
  refine q_if_lt (pc := 6) (tgt := 33) k dc_M_asking_6 (by omega) rfl ?_
  refine g_iload_n (pc := 9) dc_M_asking_9 rfl ?_
  refine g_aload_n (pc := 10) dc_M_asking_10 rfl ?_
  refine g_getfield (pc := 11) (v := .int (nI c.an)) dc_M_asking_11 fl_M_436 (mp_o hA) (congrArg (fun z => some (Value.int (nI z))) hc.2.1) ?_
  refine q_icmp_ge (pc := 14) (tgt := 33) k c.an dc_M_asking_14 (by omega) (by omega) rfl (fun hc => absurd hc (by omega)) (fun hc14 => ?_)
  refine g_iload_n (pc := 17) dc_M_asking_17 rfl ?_
  refine g_sipush (pc := 18) (v := 1000) dc_M_asking_18 rfl ?_
  refine q_icmp_ge (pc := 21) (tgt := 33) k 1000 dc_M_asking_21 (by omega) (by omega) rfl (fun hc => absurd hc (by omega)) (fun hc21 => ?_)
  refine g_iload_n (pc := 24) dc_M_asking_24 rfl ?_
  refine g_if_lt (pc := 25) (tgt := 33) dc_M_asking_25 rfl (fun hc => absurd hc (by decide)) (fun _ => ?_)
  refine g_iload_n (pc := 28) dc_M_asking_28 rfl ?_
  refine g_iconst (pc := 29) (v := 1) dc_M_asking_29 rfl ?_
  refine g_icmp_le (pc := 30) (tgt := 35) dc_M_asking_30 rfl (fun _ => ?_) (fun hc => absurd hc (by decide))
  refine g_iload_n (pc := 35) dc_M_asking_35 rfl ?_
  refine g_if_ne (pc := 36) (tgt := 48) dc_M_asking_36 rfl (fun _ => ?_) (fun hc => absurd hc (by decide))
  refine g_aload_n (pc := 48) dc_M_asking_48 rfl ?_
  refine g_aload_n (pc := 49) dc_M_asking_49 rfl ?_
  refine g_getfield (pc := 50) dc_M_asking_50 fl_M_365 (mp_o hA) rfl ?_
  refine g_iload_n (pc := 53) dc_M_asking_53 rfl ?_
  refine q_ialoadV (pc := 54) k dc_M_asking_54 (mp_a hA 36 rfl) (by omega) (by omega) (v := (nI kb)) hb2 ?_
  refine g_v1 (pc := 55) (M' := mt_M_showAddress) dc_M_asking_55 mo_M_showAddress im_M_showAddress se_M_showAddress ln_M_532 (mp_o hA) rfl rfl (Nat.le_of_ble_eq_true rfl) (Nat.le_of_ble_eq_true rfl) (am_G.mono (c_M_showAddress (d := d) (S := S.s_fault 0) hA (hT.m hm0 (by decide) (by decide) (by decide) (by decide)) hb1 (hok _ (gT_mem hb1)).2.2.2.2.2.1) ?_)
  intro r h9 hz
  obtain ⟨q1, S2, q2, q3, q4⟩ := hz
  rw [q1, q2, hb3]
  clear q1 q2 h9 r
  rw [hb3] at q4
  refine ⟨am_nti _, ?_⟩
  exact g_ireturn dc_M_asking_58 rfl ⟨rfl, S2, rfl, (hm0.mo (by decide)).tr (q3.mo (by decide)), q4⟩
theorem n_M_asking (hA : A.length = 84) (ha : S.asked = c.an) (hw : wfC K c) (hn : ixo p c.aq.length = none ∨ ixo w 2 = none) : am_C X mt_M_asking (d + 2) [.ref 84, .int p, .int w] (mput A S B) (fun r h1 => r = some (.int (-1)) ∧ h1 = mput A (S.s_fault 0) B) := by
  show am_G X mt_M_asking (d + 2) 0 [some (.ref 84), some (.int p), some (.int w)] [] (mput A S B) _
  have h1 := hw.2.2.2.1
  have h2 := hw.2.2.2.2.1
  have hf : ¬ p < 0 → ¬ nI c.an ≤ p → ¬ (1000 : Int32) ≤ p → ¬ w < 0 → ¬ (1 : Int32) < w → False := fun a1 a2 a3 a4 a5 => by
    rcases hn with h9 | h9
    · rcases ixo_n (by omega) h9 with h8 | h8
      · exact a1 h8
      · rw [h2] at h8
        by_cases q : c.an ≤ 1000
        · rw [Nat.min_eq_left q] at h8; exact a2 h8
        · rw [Nat.min_eq_right (by omega)] at h8; exact a3 h8
    · rcases ixo_n (by decide) h9 with h8 | h8
      · exact a4 h8
      · exact a5 (Int32.lt_of_lt_of_le (by decide) h8)
  refine g_aload_n (pc := 0) dc_M_asking_0 rfl ?_
  refine g_iconst (pc := 1) (v := 0) dc_M_asking_1 rfl ?_
  refine pf_fault (pc := 2) (v := 0) hA dc_M_asking_2 fp_M_asking_1 ?_
  refine g_iload_n (pc := 5) dc_M_asking_5 rfl ?_
  refine g_if_lt (pc := 6) (tgt := 33) dc_M_asking_6 rfl (fun hc6 => ?_) (fun hc6 => ?_)
  · have hi6 : (p).toInt < (0 : Int) := Int32.lt_iff_toInt_lt.mp hc6
    refine g_iconst (pc := 33) (v := (-1)) dc_M_asking_33 rfl ?_
    exact g_ireturn dc_M_asking_34 rfl ⟨rfl, rfl⟩
  · have hi6 : ¬ ((p).toInt < (0 : Int)) := fun h9 => hc6 (Int32.lt_iff_toInt_lt.mpr h9)
    refine g_iload_n (pc := 9) dc_M_asking_9 rfl ?_
    refine g_aload_n (pc := 10) dc_M_asking_10 rfl ?_
    refine g_getfield (pc := 11) (v := .int (nI c.an)) dc_M_asking_11 fl_M_436 (mp_o hA) (congrArg (fun z => some (Value.int (nI z))) ha) ?_
    refine g_icmp_ge (pc := 14) (tgt := 33) dc_M_asking_14 rfl (fun hc14 => ?_) (fun hc14 => ?_)
    · have hi14 : ((nI c.an)).toInt ≤ (p).toInt := Int32.le_iff_toInt_le.mp hc14
      refine g_iconst (pc := 33) (v := (-1)) dc_M_asking_33 rfl ?_
      exact g_ireturn dc_M_asking_34 rfl ⟨rfl, rfl⟩
    · have hi14 : ¬ (((nI c.an)).toInt ≤ (p).toInt) := fun h9 => hc14 (Int32.le_iff_toInt_le.mpr h9)
      refine g_iload_n (pc := 17) dc_M_asking_17 rfl ?_
      refine g_sipush (pc := 18) (v := 1000) dc_M_asking_18 rfl ?_
      refine g_icmp_ge (pc := 21) (tgt := 33) dc_M_asking_21 rfl (fun hc21 => ?_) (fun hc21 => ?_)
      · have hi21 : (1000 : Int) ≤ (p).toInt := Int32.le_iff_toInt_le.mp hc21
        refine g_iconst (pc := 33) (v := (-1)) dc_M_asking_33 rfl ?_
        exact g_ireturn dc_M_asking_34 rfl ⟨rfl, rfl⟩
      · have hi21 : ¬ ((1000 : Int) ≤ (p).toInt) := fun h9 => hc21 (Int32.le_iff_toInt_le.mpr h9)
        refine g_iload_n (pc := 24) dc_M_asking_24 rfl ?_
        refine g_if_lt (pc := 25) (tgt := 33) dc_M_asking_25 rfl (fun hc25 => ?_) (fun hc25 => ?_)
        · have hi25 : (w).toInt < (0 : Int) := Int32.lt_iff_toInt_lt.mp hc25
          refine g_iconst (pc := 33) (v := (-1)) dc_M_asking_33 rfl ?_
          exact g_ireturn dc_M_asking_34 rfl ⟨rfl, rfl⟩
        · have hi25 : ¬ ((w).toInt < (0 : Int)) := fun h9 => hc25 (Int32.lt_iff_toInt_lt.mpr h9)
          refine g_iload_n (pc := 28) dc_M_asking_28 rfl ?_
          refine g_iconst (pc := 29) (v := 1) dc_M_asking_29 rfl ?_
          refine g_icmp_le (pc := 30) (tgt := 35) dc_M_asking_30 rfl (fun hc => absurd hc (fun h8 => hf hc6 hc14 hc21 hc25 (Int32.not_lt.mpr h8))) (fun hc30 => ?_)
          refine g_iconst (pc := 33) (v := (-1)) dc_M_asking_33 rfl ?_
          exact g_ireturn dc_M_asking_34 rfl ⟨rfl, rfl⟩
theorem c_M_known (hA : A.length = 84) (hT : adT S T) (hK : knM S T Y K) (hw : wfK K) : am_C X mt_M_known (d + 2) [.ref 84, .int p, .int w] (mput A S B) (fun r h1 => r = some (.int (knoA K p w)) ∧ h1 = mput A (S.s_fault 0) B) := by
  show am_G X mt_M_known (d + 2) 0 [some (.ref 84), some (.int p), some (.int w)] [] (mput A S B) _
  have h250 := hw.1
  have hm0 : mA [2] S (S.s_fault 0) := (mA.rf S).a_fault _ (by decide)
  have hK0 := hK.m hm0 (by decide) (by decide)
  have hT0 := hT.m hm0 (by decide) (by decide) (by decide) (by decide)
  cases e : ixo p K.ad.length with
  | none =>
    have hout := ixo_n (by omega) e
    have e5 : knoA K p w = -1 := by unfold knoA; rw [e]
    rw [e5]
    refine g_aload_n (pc := 0) dc_M_known_0 rfl ?_
    refine g_iconst (pc := 1) (v := 0) dc_M_known_1 rfl ?_
    refine pf_fault (pc := 2) (v := 0) hA dc_M_known_2 fp_M_known_1 ?_
    refine g_iload_n (pc := 5) dc_M_known_5 rfl ?_
    refine g_if_lt (pc := 6) (tgt := 26) dc_M_known_6 rfl (fun hc6 => ?_) (fun hc6 => ?_)
    · have hi6 : (p).toInt < (0 : Int) := Int32.lt_iff_toInt_lt.mp hc6
      refine g_iconst (pc := 26) (v := (-1)) dc_M_known_26 rfl ?_
      exact g_ireturn dc_M_known_27 rfl ⟨rfl, rfl⟩
    · have hi6 : ¬ ((p).toInt < (0 : Int)) := fun h9 => hc6 (Int32.lt_iff_toInt_lt.mpr h9)
      refine g_iload_n (pc := 9) dc_M_known_9 rfl ?_
      refine g_aload_n (pc := 10) dc_M_known_10 rfl ?_
      refine g_getfield (pc := 11) (v := .int (nI K.ad.length)) dc_M_known_11 fl_M_412 (mp_o hA) (congrArg (fun z => some (Value.int (nI z))) hK.1) ?_
      refine g_icmp_ge (pc := 14) (tgt := 26) dc_M_known_14 rfl (fun hc14 => ?_) (fun hc => absurd hc (fun h8 => h8 (hout.resolve_left hc6)))
      refine g_iconst (pc := 26) (v := (-1)) dc_M_known_26 rfl ?_
      exact g_ireturn dc_M_known_27 rfl ⟨rfl, rfl⟩
  | some k =>
    obtain ⟨hk, rfl⟩ := ixo_s e
    have hwk := hw.2.2.2 k hk
    cases e2 : ixo w 4 with
    | none =>
      have hout := ixo_n (by decide) e2
      have e5 : knoA K (nI k) w = -1 := by unfold knoA; rw [e]; dsimp only; rw [e2]
      rw [e5]
      refine g_aload_n (pc := 0) dc_M_known_0 rfl ?_
      refine g_iconst (pc := 1) (v := 0) dc_M_known_1 rfl ?_
      refine pf_fault (pc := 2) (v := 0) hA dc_M_known_2 fp_M_known_1 ?_
      refine g_iload_n (pc := 5) dc_M_known_5 rfl ?_
      refine q_if_lt (pc := 6) (tgt := 26) k dc_M_known_6 (by omega) rfl ?_
      refine g_iload_n (pc := 9) dc_M_known_9 rfl ?_
      refine g_aload_n (pc := 10) dc_M_known_10 rfl ?_
      refine g_getfield (pc := 11) (v := .int (nI K.ad.length)) dc_M_known_11 fl_M_412 (mp_o hA) (congrArg (fun z => some (Value.int (nI z))) hK.1) ?_
      refine q_icmp_ge (pc := 14) (tgt := 26) k K.ad.length dc_M_known_14 (by omega) (by omega) rfl (fun hc => absurd hc (by omega)) (fun hc14 => ?_)
      refine g_iload_n (pc := 17) dc_M_known_17 rfl ?_
      refine g_if_lt (pc := 18) (tgt := 26) dc_M_known_18 rfl (fun hc18 => ?_) (fun hc18 => ?_)
      · have hi18 : (w).toInt < (0 : Int) := Int32.lt_iff_toInt_lt.mp hc18
        refine g_iconst (pc := 26) (v := (-1)) dc_M_known_26 rfl ?_
        exact g_ireturn dc_M_known_27 rfl ⟨rfl, rfl⟩
      · have hi18 : ¬ ((w).toInt < (0 : Int)) := fun h9 => hc18 (Int32.lt_iff_toInt_lt.mpr h9)
        refine g_iload_n (pc := 21) dc_M_known_21 rfl ?_
        refine g_iconst (pc := 22) (v := 3) dc_M_known_22 rfl ?_
        refine g_icmp_le (pc := 23) (tgt := 28) dc_M_known_23 rfl (fun hc => absurd hc (fun h8 => absurd (hout.resolve_left hc18) (Int32.not_le.mpr (Int32.lt_of_le_of_lt h8 (by decide))))) (fun hc23 => ?_)
        refine g_iconst (pc := 26) (v := (-1)) dc_M_known_26 rfl ?_
        exact g_ireturn dc_M_known_27 rfl ⟨rfl, rfl⟩
    | some n =>
      obtain ⟨hn4, rfl⟩ := ixo_s e2
      rcases (by omega : n = 0 ∨ n = 1 ∨ n = 2 ∨ n = 3) with rfl | rfl | rfl | rfl
      · have e5 : knoA K (nI k) (nI 0) = nI (K.st k) := by unfold knoA; rw [e]; dsimp only; rw [e2]
        rw [e5]
        show am_G X mt_M_known (d + 2) 0 [some (.ref 84), some (.int (nI k)), some (.int 0)] [] (mput A S B) _
        refine g_aload_n (pc := 0) dc_M_known_0 rfl ?_
        refine g_iconst (pc := 1) (v := 0) dc_M_known_1 rfl ?_
        refine pf_fault (pc := 2) (v := 0) hA dc_M_known_2 fp_M_known_1 ?_
        refine g_iload_n (pc := 5) dc_M_known_5 rfl ?_
        refine q_if_lt (pc := 6) (tgt := 26) k dc_M_known_6 (by omega) rfl ?_
        refine g_iload_n (pc := 9) dc_M_known_9 rfl ?_
        refine g_aload_n (pc := 10) dc_M_known_10 rfl ?_
        refine g_getfield (pc := 11) (v := .int (nI K.ad.length)) dc_M_known_11 fl_M_412 (mp_o hA) (congrArg (fun z => some (Value.int (nI z))) hK.1) ?_
        refine q_icmp_ge (pc := 14) (tgt := 26) k K.ad.length dc_M_known_14 (by omega) (by omega) rfl (fun hc => absurd hc (by omega)) (fun hc14 => ?_)
        refine g_iload_n (pc := 17) dc_M_known_17 rfl ?_
        refine g_if_lt (pc := 18) (tgt := 26) dc_M_known_18 rfl (fun hc => absurd hc (by decide)) (fun _ => ?_)
        refine g_iload_n (pc := 21) dc_M_known_21 rfl ?_
        refine g_iconst (pc := 22) (v := 3) dc_M_known_22 rfl ?_
        refine g_icmp_le (pc := 23) (tgt := 28) dc_M_known_23 rfl (fun _ => ?_) (fun hc => absurd hc (by decide))
        refine g_iload_n (pc := 28) dc_M_known_28 rfl ?_
        refine g_iconst (pc := 29) (v := 3) dc_M_known_29 rfl ?_
        refine g_icmp_ne (pc := 30) (tgt := 57) dc_M_known_30 rfl (fun _ => ?_) (fun hc => absurd hc (by decide))
        refine g_aload_n (pc := 57) dc_M_known_57 rfl ?_
        refine g_iload_n (pc := 58) dc_M_known_58 rfl ?_
        refine g_iload_n (pc := 59) dc_M_known_59 rfl ?_
        refine g_if_ne (pc := 60) (tgt := 67) dc_M_known_60 rfl (fun hc => absurd hc (by decide)) (fun _ => ?_)
        refine g_iconst (pc := 63) (v := 1) dc_M_known_63 rfl ?_
        refine g_goto (pc := 64) (tgt := 77) dc_M_known_64 rfl ?_
        refine g_v2 (pc := 77) (M' := mt_M_of) dc_M_known_77 mo_M_of im_M_of se_M_of ln_M_415 (mp_o hA) rfl rfl (Nat.le_of_ble_eq_true rfl) (Nat.le_of_ble_eq_true rfl) (am_G.mono (c1_M_of (d := d + 1) (S := S.s_fault 0) (i := k) hA hK0 (by omega) hk) ?_)
        intro r h1 hq
        rw [hq.1, hq.2]
        clear hq h1 r
        refine ⟨am_nti _, ?_⟩
        exact g_ireturn dc_M_known_80 rfl ⟨rfl, rfl⟩
      · have e5 : knoA K (nI k) (nI 1) = nI (K.dp k) := by unfold knoA; rw [e]; dsimp only; rw [e2]
        rw [e5]
        show am_G X mt_M_known (d + 2) 0 [some (.ref 84), some (.int (nI k)), some (.int 1)] [] (mput A S B) _
        refine g_aload_n (pc := 0) dc_M_known_0 rfl ?_
        refine g_iconst (pc := 1) (v := 0) dc_M_known_1 rfl ?_
        refine pf_fault (pc := 2) (v := 0) hA dc_M_known_2 fp_M_known_1 ?_
        refine g_iload_n (pc := 5) dc_M_known_5 rfl ?_
        refine q_if_lt (pc := 6) (tgt := 26) k dc_M_known_6 (by omega) rfl ?_
        refine g_iload_n (pc := 9) dc_M_known_9 rfl ?_
        refine g_aload_n (pc := 10) dc_M_known_10 rfl ?_
        refine g_getfield (pc := 11) (v := .int (nI K.ad.length)) dc_M_known_11 fl_M_412 (mp_o hA) (congrArg (fun z => some (Value.int (nI z))) hK.1) ?_
        refine q_icmp_ge (pc := 14) (tgt := 26) k K.ad.length dc_M_known_14 (by omega) (by omega) rfl (fun hc => absurd hc (by omega)) (fun hc14 => ?_)
        refine g_iload_n (pc := 17) dc_M_known_17 rfl ?_
        refine g_if_lt (pc := 18) (tgt := 26) dc_M_known_18 rfl (fun hc => absurd hc (by decide)) (fun _ => ?_)
        refine g_iload_n (pc := 21) dc_M_known_21 rfl ?_
        refine g_iconst (pc := 22) (v := 3) dc_M_known_22 rfl ?_
        refine g_icmp_le (pc := 23) (tgt := 28) dc_M_known_23 rfl (fun _ => ?_) (fun hc => absurd hc (by decide))
        refine g_iload_n (pc := 28) dc_M_known_28 rfl ?_
        refine g_iconst (pc := 29) (v := 3) dc_M_known_29 rfl ?_
        refine g_icmp_ne (pc := 30) (tgt := 57) dc_M_known_30 rfl (fun _ => ?_) (fun hc => absurd hc (by decide))
        refine g_aload_n (pc := 57) dc_M_known_57 rfl ?_
        refine g_iload_n (pc := 58) dc_M_known_58 rfl ?_
        refine g_iload_n (pc := 59) dc_M_known_59 rfl ?_
        refine g_if_ne (pc := 60) (tgt := 67) dc_M_known_60 rfl (fun _ => ?_) (fun hc => absurd hc (by decide))
        refine g_iload_n (pc := 67) dc_M_known_67 rfl ?_
        refine g_iconst (pc := 68) (v := 1) dc_M_known_68 rfl ?_
        refine g_icmp_ne (pc := 69) (tgt := 76) dc_M_known_69 rfl (fun hc => absurd hc (by decide)) (fun _ => ?_)
        refine g_iconst (pc := 72) (v := 2) dc_M_known_72 rfl ?_
        refine g_goto (pc := 73) (tgt := 77) dc_M_known_73 rfl ?_
        refine g_v2 (pc := 77) (M' := mt_M_of) dc_M_known_77 mo_M_of im_M_of se_M_of ln_M_415 (mp_o hA) rfl rfl (Nat.le_of_ble_eq_true rfl) (Nat.le_of_ble_eq_true rfl) (am_G.mono (c2_M_of (d := d + 1) (S := S.s_fault 0) (i := k) hA hK0 (by omega) hk) ?_)
        intro r h1 hq
        rw [hq.1, hq.2]
        clear hq h1 r
        refine ⟨am_nti _, ?_⟩
        exact g_ireturn dc_M_known_80 rfl ⟨rfl, rfl⟩
      · have e5 : knoA K (nI k) (nI 2) = nI (K.ch k) := by unfold knoA; rw [e]; dsimp only; rw [e2]
        rw [e5]
        show am_G X mt_M_known (d + 2) 0 [some (.ref 84), some (.int (nI k)), some (.int 2)] [] (mput A S B) _
        refine g_aload_n (pc := 0) dc_M_known_0 rfl ?_
        refine g_iconst (pc := 1) (v := 0) dc_M_known_1 rfl ?_
        refine pf_fault (pc := 2) (v := 0) hA dc_M_known_2 fp_M_known_1 ?_
        refine g_iload_n (pc := 5) dc_M_known_5 rfl ?_
        refine q_if_lt (pc := 6) (tgt := 26) k dc_M_known_6 (by omega) rfl ?_
        refine g_iload_n (pc := 9) dc_M_known_9 rfl ?_
        refine g_aload_n (pc := 10) dc_M_known_10 rfl ?_
        refine g_getfield (pc := 11) (v := .int (nI K.ad.length)) dc_M_known_11 fl_M_412 (mp_o hA) (congrArg (fun z => some (Value.int (nI z))) hK.1) ?_
        refine q_icmp_ge (pc := 14) (tgt := 26) k K.ad.length dc_M_known_14 (by omega) (by omega) rfl (fun hc => absurd hc (by omega)) (fun hc14 => ?_)
        refine g_iload_n (pc := 17) dc_M_known_17 rfl ?_
        refine g_if_lt (pc := 18) (tgt := 26) dc_M_known_18 rfl (fun hc => absurd hc (by decide)) (fun _ => ?_)
        refine g_iload_n (pc := 21) dc_M_known_21 rfl ?_
        refine g_iconst (pc := 22) (v := 3) dc_M_known_22 rfl ?_
        refine g_icmp_le (pc := 23) (tgt := 28) dc_M_known_23 rfl (fun _ => ?_) (fun hc => absurd hc (by decide))
        refine g_iload_n (pc := 28) dc_M_known_28 rfl ?_
        refine g_iconst (pc := 29) (v := 3) dc_M_known_29 rfl ?_
        refine g_icmp_ne (pc := 30) (tgt := 57) dc_M_known_30 rfl (fun _ => ?_) (fun hc => absurd hc (by decide))
        refine g_aload_n (pc := 57) dc_M_known_57 rfl ?_
        refine g_iload_n (pc := 58) dc_M_known_58 rfl ?_
        refine g_iload_n (pc := 59) dc_M_known_59 rfl ?_
        refine g_if_ne (pc := 60) (tgt := 67) dc_M_known_60 rfl (fun _ => ?_) (fun hc => absurd hc (by decide))
        refine g_iload_n (pc := 67) dc_M_known_67 rfl ?_
        refine g_iconst (pc := 68) (v := 1) dc_M_known_68 rfl ?_
        refine g_icmp_ne (pc := 69) (tgt := 76) dc_M_known_69 rfl (fun _ => ?_) (fun hc => absurd hc (by decide))
        refine g_iconst (pc := 76) (v := 3) dc_M_known_76 rfl ?_
        refine g_v2 (pc := 77) (M' := mt_M_of) dc_M_known_77 mo_M_of im_M_of se_M_of ln_M_415 (mp_o hA) rfl rfl (Nat.le_of_ble_eq_true rfl) (Nat.le_of_ble_eq_true rfl) (am_G.mono (c3_M_of (d := d + 1) (S := S.s_fault 0) (i := k) hA hK0 (by omega) hk) ?_)
        intro r h1 hq
        rw [hq.1, hq.2]
        clear hq h1 r
        refine ⟨am_nti _, ?_⟩
        exact g_ireturn dc_M_known_80 rfl ⟨rfl, rfl⟩
      · have h5 := (hK.2 k hk).2.2.2.2.1
        show am_G X mt_M_known (d + 2) 0 [some (.ref 84), some (.int (nI k)), some (.int 3)] [] (mput A S B) _
        cases hl : K.ld k with
        | none =>
          rw [hl] at h5
          have e5 : knoA K (nI k) (nI 3) = -1 := by unfold knoA; rw [e]; dsimp only; rw [e2]; dsimp only; rw [hl]
          rw [e5]
          refine g_aload_n (pc := 0) dc_M_known_0 rfl ?_
          refine g_iconst (pc := 1) (v := 0) dc_M_known_1 rfl ?_
          refine pf_fault (pc := 2) (v := 0) hA dc_M_known_2 fp_M_known_1 ?_
          refine g_iload_n (pc := 5) dc_M_known_5 rfl ?_
          refine q_if_lt (pc := 6) (tgt := 26) k dc_M_known_6 (by omega) rfl ?_
          refine g_iload_n (pc := 9) dc_M_known_9 rfl ?_
          refine g_aload_n (pc := 10) dc_M_known_10 rfl ?_
          refine g_getfield (pc := 11) (v := .int (nI K.ad.length)) dc_M_known_11 fl_M_412 (mp_o hA) (congrArg (fun z => some (Value.int (nI z))) hK.1) ?_
          refine q_icmp_ge (pc := 14) (tgt := 26) k K.ad.length dc_M_known_14 (by omega) (by omega) rfl (fun hc => absurd hc (by omega)) (fun hc14 => ?_)
          refine g_iload_n (pc := 17) dc_M_known_17 rfl ?_
          refine g_if_lt (pc := 18) (tgt := 26) dc_M_known_18 rfl (fun hc => absurd hc (by decide)) (fun _ => ?_)
          refine g_iload_n (pc := 21) dc_M_known_21 rfl ?_
          refine g_iconst (pc := 22) (v := 3) dc_M_known_22 rfl ?_
          refine g_icmp_le (pc := 23) (tgt := 28) dc_M_known_23 rfl (fun _ => ?_) (fun hc => absurd hc (by decide))
          refine g_iload_n (pc := 28) dc_M_known_28 rfl ?_
          refine g_iconst (pc := 29) (v := 3) dc_M_known_29 rfl ?_
          refine g_icmp_ne (pc := 30) (tgt := 57) dc_M_known_30 rfl (fun hc => absurd hc (by decide)) (fun _ => ?_)
          refine g_aload_n (pc := 33) dc_M_known_33 rfl ?_
          refine g_iload_n (pc := 34) dc_M_known_34 rfl ?_
          refine g_iconst (pc := 35) (v := 4) dc_M_known_35 rfl ?_
          refine g_v2 (pc := 36) (M' := mt_M_of) dc_M_known_36 mo_M_of im_M_of se_M_of ln_M_415 (mp_o hA) rfl rfl (Nat.le_of_ble_eq_true rfl) (Nat.le_of_ble_eq_true rfl) (am_G.mono (c_M_of (d := d + 1) (S := S.s_fault 0) (i := k) (w := 4) hA (by omega) (by decide) h5) ?_)
          intro r h1 hq
          rw [hq.1, hq.2]
          clear hq h1 r
          refine ⟨am_nti _, ?_⟩
          refine g_if_ge (pc := 39) (tgt := 46) dc_M_known_39 rfl (fun hc => absurd hc (by decide)) (fun _ => ?_)
          refine g_iconst (pc := 42) (v := (-1)) dc_M_known_42 rfl ?_
          refine g_goto (pc := 43) (tgt := 56) dc_M_known_43 rfl ?_
          exact g_ireturn dc_M_known_56 rfl ⟨rfl, rfl⟩
        | some E =>
          rw [hl] at h5
          obtain ⟨kb, hb1, hb2, hb3⟩ := h5
          have h35 := hT.2.2.1
          have e5 : knoA K (nI k) (nI 3) = er (nbr K.ad E) := by unfold knoA; rw [e]; dsimp only; rw [e2]; dsimp only; rw [hl]
          rw [e5, ← hb3]
          refine g_aload_n (pc := 0) dc_M_known_0 rfl ?_
          refine g_iconst (pc := 1) (v := 0) dc_M_known_1 rfl ?_
          refine pf_fault (pc := 2) (v := 0) hA dc_M_known_2 fp_M_known_1 ?_
          refine g_iload_n (pc := 5) dc_M_known_5 rfl ?_
          refine q_if_lt (pc := 6) (tgt := 26) k dc_M_known_6 (by omega) rfl ?_
          refine g_iload_n (pc := 9) dc_M_known_9 rfl ?_
          refine g_aload_n (pc := 10) dc_M_known_10 rfl ?_
          refine g_getfield (pc := 11) (v := .int (nI K.ad.length)) dc_M_known_11 fl_M_412 (mp_o hA) (congrArg (fun z => some (Value.int (nI z))) hK.1) ?_
          refine q_icmp_ge (pc := 14) (tgt := 26) k K.ad.length dc_M_known_14 (by omega) (by omega) rfl (fun hc => absurd hc (by omega)) (fun hc14 => ?_)
          refine g_iload_n (pc := 17) dc_M_known_17 rfl ?_
          refine g_if_lt (pc := 18) (tgt := 26) dc_M_known_18 rfl (fun hc => absurd hc (by decide)) (fun _ => ?_)
          refine g_iload_n (pc := 21) dc_M_known_21 rfl ?_
          refine g_iconst (pc := 22) (v := 3) dc_M_known_22 rfl ?_
          refine g_icmp_le (pc := 23) (tgt := 28) dc_M_known_23 rfl (fun _ => ?_) (fun hc => absurd hc (by decide))
          refine g_iload_n (pc := 28) dc_M_known_28 rfl ?_
          refine g_iconst (pc := 29) (v := 3) dc_M_known_29 rfl ?_
          refine g_icmp_ne (pc := 30) (tgt := 57) dc_M_known_30 rfl (fun hc => absurd hc (by decide)) (fun _ => ?_)
          refine g_aload_n (pc := 33) dc_M_known_33 rfl ?_
          refine g_iload_n (pc := 34) dc_M_known_34 rfl ?_
          refine g_iconst (pc := 35) (v := 4) dc_M_known_35 rfl ?_
          refine g_v2 (pc := 36) (M' := mt_M_of) dc_M_known_36 mo_M_of im_M_of se_M_of ln_M_415 (mp_o hA) rfl rfl (Nat.le_of_ble_eq_true rfl) (Nat.le_of_ble_eq_true rfl) (am_G.mono (c_M_of (d := d + 1) (S := S.s_fault 0) (i := k) (w := 4) hA (by omega) (by decide) hb2) ?_)
          intro r h1 hq
          rw [hq.1, hq.2]
          clear hq h1 r
          refine ⟨am_nti _, ?_⟩
          refine q_if_ge (pc := 39) (tgt := 46) kb dc_M_known_39 (by omega) rfl ?_
          refine g_aload_n (pc := 46) dc_M_known_46 rfl ?_
          refine g_aload_n (pc := 47) dc_M_known_47 rfl ?_
          refine g_iload_n (pc := 48) dc_M_known_48 rfl ?_
          refine g_iconst (pc := 49) (v := 4) dc_M_known_49 rfl ?_
          refine g_v2 (pc := 50) (M' := mt_M_of) dc_M_known_50 mo_M_of im_M_of se_M_of ln_M_415 (mp_o hA) rfl rfl (Nat.le_of_ble_eq_true rfl) (Nat.le_of_ble_eq_true rfl) (am_G.mono (c_M_of (d := d + 1) (S := S.s_fault 0) (i := k) (w := 4) hA (by omega) (by decide) hb2) ?_)
          intro r h1 hq
          rw [hq.1, hq.2]
          clear hq h1 r
          refine ⟨am_nti _, ?_⟩
          refine g_v1 (pc := 53) (M' := mt_M_numberOf) dc_M_known_53 mo_M_numberOf im_M_numberOf se_M_numberOf ln_M_418 (mp_o hA) rfl rfl (Nat.le_of_ble_eq_true rfl) (Nat.le_of_ble_eq_true rfl) (am_G.mono (c_M_numberOf (d := d) (S := S.s_fault 0) hA hT0 hb1 hK0 hw) ?_)
          intro r h1 hq
          rw [hq.1, hq.2]
          clear hq h1 r
          refine ⟨am_nti _, ?_⟩
          exact g_ireturn dc_M_known_56 rfl ⟨rfl, rfl⟩
theorem c_M_made (hA : A.length = 84) (hP : prM S D) : am_C X mt_M_made d [.ref 84] (mput A S B) (fun r h1 => r = some (.int (nI D.length)) ∧ h1 = mput A (S.s_fault 0) B) := by
  show am_G X mt_M_made d 0 [some (.ref 84)] [] (mput A S B) _
  refine g_aload_n (pc := 0) dc_M_made_0 rfl ?_
  refine g_iconst (pc := 1) (v := 0) dc_M_made_1 rfl ?_
  refine pf_fault (pc := 2) (v := 0) hA dc_M_made_2 fp_M_made_1 ?_
  refine g_aload_n (pc := 5) dc_M_made_5 rfl ?_
  refine g_getfield (pc := 6) (v := .int (nI D.length)) dc_M_made_6 fl_M_499 (mp_o hA) (congrArg (fun z => some (Value.int (nI z))) hP.2.1) ?_
  exact g_ireturn dc_M_made_9 rfl ⟨rfl, rfl⟩
theorem c_M_out (hA : A.length = 84) (hP : prM S D) : am_C X mt_M_out d [.ref 84, .int p] (mput A S B) (fun r h1 => r = some (.int (outA D p)) ∧ h1 = mput A (S.s_fault 0) B) := by
  show am_G X mt_M_out d 0 [some (.ref 84), some (.int p)] [] (mput A S B) _
  have h20 := hP.2.2
  cases e : ixo p D.length with
  | none =>
    have hout := ixo_n (by omega) e
    have e5 : outA D p = -1 := by unfold outA; rw [e]
    rw [e5]
    refine g_aload_n (pc := 0) dc_M_out_0 rfl ?_
    refine g_iconst (pc := 1) (v := 0) dc_M_out_1 rfl ?_
    refine pf_fault (pc := 2) (v := 0) hA dc_M_out_2 fp_M_out_1 ?_
    refine g_iload_n (pc := 5) dc_M_out_5 rfl ?_
    refine g_if_lt (pc := 6) (tgt := 30) dc_M_out_6 rfl (fun hc6 => ?_) (fun hc6 => ?_)
    · have hi6 : (p).toInt < (0 : Int) := Int32.lt_iff_toInt_lt.mp hc6
      refine g_iconst (pc := 30) (v := (-1)) dc_M_out_30 rfl ?_
      exact g_ireturn dc_M_out_31 rfl ⟨rfl, rfl⟩
    · have hi6 : ¬ ((p).toInt < (0 : Int)) := fun h9 => hc6 (Int32.lt_iff_toInt_lt.mpr h9)
      refine g_iload_n (pc := 9) dc_M_out_9 rfl ?_
      refine g_aload_n (pc := 10) dc_M_out_10 rfl ?_
      refine g_getfield (pc := 11) (v := .int (nI D.length)) dc_M_out_11 fl_M_499 (mp_o hA) (congrArg (fun z => some (Value.int (nI z))) hP.2.1) ?_
      refine g_icmp_ge (pc := 14) (tgt := 30) dc_M_out_14 rfl (fun hc14 => ?_) (fun hc => absurd hc (fun h8 => h8 (hout.resolve_left hc6)))
      refine g_iconst (pc := 30) (v := (-1)) dc_M_out_30 rfl ?_
      exact g_ireturn dc_M_out_31 rfl ⟨rfl, rfl⟩
  | some k =>
    obtain ⟨hk, rfl⟩ := ixo_s e
    have e5 : outA D (nI k) = gx D k &&& 255 := by unfold outA; rw [e]
    rw [e5]
    refine g_aload_n (pc := 0) dc_M_out_0 rfl ?_
    refine g_iconst (pc := 1) (v := 0) dc_M_out_1 rfl ?_
    refine pf_fault (pc := 2) (v := 0) hA dc_M_out_2 fp_M_out_1 ?_
    refine g_iload_n (pc := 5) dc_M_out_5 rfl ?_
    refine q_if_lt (pc := 6) (tgt := 30) k dc_M_out_6 (by omega) rfl ?_
    refine g_iload_n (pc := 9) dc_M_out_9 rfl ?_
    refine g_aload_n (pc := 10) dc_M_out_10 rfl ?_
    refine g_getfield (pc := 11) (v := .int (nI D.length)) dc_M_out_11 fl_M_499 (mp_o hA) (congrArg (fun z => some (Value.int (nI z))) hP.2.1) ?_
    refine q_icmp_ge (pc := 14) (tgt := 30) k D.length dc_M_out_14 (by omega) (by omega) rfl (fun hc => absurd hc (by omega)) (fun hc14 => ?_)
    refine g_aload_n (pc := 17) dc_M_out_17 rfl ?_
    refine g_getfield (pc := 18) dc_M_out_18 fl_M_337 (mp_o hA) rfl ?_
    refine g_iload_n (pc := 21) dc_M_out_21 rfl ?_
    refine q_tx0 (pc := 22) k dc_M_out_22 (mp_a hA 2 rfl) hP.1 (by omega) (by omega) (by omega) ?_
    refine g_sipush (pc := 23) (v := 255) dc_M_out_23 rfl ?_
    refine g_iand (pc := 26) dc_M_out_26 rfl ?_
    refine g_goto (pc := 27) (tgt := 31) dc_M_out_27 rfl ?_
    exact g_ireturn dc_M_out_31 rfl ⟨rfl, rfl⟩
theorem c_M_noSeeds (hA : A.length = 84) : am_C X mt_M_noSeeds d [.ref 84] (mput A S B) (fun r h1 => r = none ∧ ∃ S1, h1 = mput A S1 B ∧ mA [2, 60] S S1 ∧ sdM S1 T []) := by
  show am_G X mt_M_noSeeds d 0 [some (.ref 84)] [] (mput A S B) _
  refine g_aload_n (pc := 0) dc_M_noSeeds_0 rfl ?_
  refine g_iconst (pc := 1) (v := 0) dc_M_noSeeds_1 rfl ?_
  refine pf_fault (pc := 2) (v := 0) hA dc_M_noSeeds_2 fp_M_noSeeds_1 ?_
  refine g_aload_n (pc := 5) dc_M_noSeeds_5 rfl ?_
  refine g_iconst (pc := 6) (v := 0) dc_M_noSeeds_6 rfl ?_
  refine pf_seedCount (pc := 7) (v := 0) hA dc_M_noSeeds_7 fp_M_noSeeds_517 ?_
  exact g_return dc_M_noSeeds_10 rfl ⟨rfl, _, rfl, ((mA.rf S).a_fault _ (by decide)).a_seedCount _ (by decide), rfl, Nat.zero_le _, fun i hi => absurd hi (Nat.not_lt_zero i)⟩
theorem c_M_use (hA : A.length = 84) (hL : tpM S L) : am_C X mt_M_use d [.ref 84] (mput A S B) (fun r h1 => r = some (.int (nI L.length)) ∧ ∃ S1, h1 = mput A S1 B ∧ mA [1, 2] S S1 ∧ tx S1.coming 0 L ∧ tpM S1 []) := by
  show am_G X mt_M_use d 0 [some (.ref 84), none] [] (mput A S B) _
  refine g_aload_n (pc := 0) dc_M_use_0 rfl ?_
  refine g_iconst (pc := 1) (v := 0) dc_M_use_1 rfl ?_
  refine pf_fault (pc := 2) (v := 0) hA dc_M_use_2 fp_M_use_1 ?_
  refine g_aload_n (pc := 5) dc_M_use_5 rfl ?_
  refine g_getfield (pc := 6) (v := .int (nI L.length)) dc_M_use_6 fl_M_493 (mp_o hA) (congrArg (fun z => some (Value.int (nI z))) hL.2.1) ?_
  refine g_istore_n (pc := 9) dc_M_use_9 (by decide) ?_
  show am_G X mt_M_use _ 10 [some (.ref 84), some (.int (nI L.length))] [] _ _
  refine g_aload_n (pc := 10) dc_M_use_10 rfl ?_
  refine g_iconst (pc := 11) (v := 0) dc_M_use_11 rfl ?_
  refine pf_size (pc := 12) (v := 0) hA dc_M_use_12 fp_M_use_493 ?_
  refine g_iload_n (pc := 15) dc_M_use_15 rfl ?_
  exact g_ireturn dc_M_use_16 rfl ⟨rfl, _, rfl, ((mA.rf S).a_fault _ (by decide)).a_size _ (by decide), hL.1, ⟨fun j hj => absurd hj (Nat.not_lt_zero j), rfl, Nat.zero_le _, btg_nil⟩⟩
/-- the address of the first line; where the rest begins -/
def fsa (L : List Int32) : Option (List Int32) := mrr L 0 (fw (nev 10) L 0 L.length) none
def bhf (L : List Int32) : Nat := min (fw (nev 10) L 0 L.length + 1) L.length
theorem c_M_lineEnd0 {a : Nat} (hx : tt h a 0 L) : am_C X mt_M_lineEnd (d + 1) [.ref a, .int 0, .int (nI L.length)] h (fun r h1 => r = some (.int (nI (0 + lnE L 0 L.length))) ∧ h1 = h) := by
  have h7 := c_M_lineEnd (X := X) (d := d) (s := 0) (L := L) (f := 0) (t := L.length) hx (by omega) (by omega)
  rw [show (0 : Nat) + L.length = L.length by omega] at h7
  exact h7
theorem c_M_readFirst (hA : A.length = 84) (hT : adT S T) (hok : ∀ x, x ∈ T → okD x) (hx : tx S.coming 0 L) (h8 : L.length ≤ 8000) (hb : btg L) : am_C X mt_M_readFirst (d + 6) [.ref 84, .int (nI L.length)] (mput A S B) (fun r h1 => ∃ S1, h1 = mput A S1 B ∧ scA S S1 ∧ match fsa L with | some D => r = some (.int 1) ∧ mad S1 D | none => r = some (.int 0)) := by
  show am_G X mt_M_readFirst (d + 6) 0 [some (.ref 84), some (.int (nI L.length))] [] (mput A S B) _
  have hln := lnE_bd (L := L) (f := 0) (t := L.length) (by omega)
  have hX := txO_coming (B := B) hA hx (by omega)
  refine g_aload_n (pc := 0) dc_M_readFirst_0 rfl ?_
  refine g_aload_n (pc := 1) dc_M_readFirst_1 rfl ?_
  refine g_getfield (pc := 2) dc_M_readFirst_2 fl_M_143 (mp_o hA) rfl ?_
  refine g_iconst (pc := 5) (v := 0) dc_M_readFirst_5 rfl ?_
  refine g_aload_n (pc := 6) dc_M_readFirst_6 rfl ?_
  refine g_getfield (pc := 7) dc_M_readFirst_7 fl_M_143 (mp_o hA) rfl ?_
  refine g_iconst (pc := 10) (v := 0) dc_M_readFirst_10 rfl ?_
  refine g_iload_n (pc := 11) dc_M_readFirst_11 rfl ?_
  refine g_s3 (pc := 12) (M' := mt_M_lineEnd) dc_M_readFirst_12 mo_M_lineEnd st_M_lineEnd ln_M_455 (Nat.le_of_ble_eq_true rfl) (Nat.le_of_ble_eq_true rfl) (am_G.mono (c_M_lineEnd0 (d := d + 4) (L := L) hX.tt) ?_)
  intro r h9 hq
  rw [hq.1, hq.2]
  clear hq h9 r
  refine ⟨am_nti _, ?_⟩
  refine g_iconst (pc := 15) (v := (-1)) dc_M_readFirst_15 rfl ?_
  refine g_v4 (pc := 16) (M' := mt_M_readReference) dc_M_readFirst_16 mo_M_readReference im_M_readReference se_M_readReference ln_M_297 (mp_o hA) rfl rfl (Nat.le_of_ble_eq_true rfl) (Nat.le_of_ble_eq_true rfl) (am_G.mono (c_M_readReference (d := d) (s := 0) (L := L) (f0 := 0) (t0 := lnE L 0 L.length) (bo := none) (ca := 85) hA hT (okT_of hok) hX (by decide) hb (by omega) (by omega) (by omega) (fun q hq => by cases hq)) ?_)
  intro r h9 hz
  obtain ⟨S2, hz2, hz3, hz4⟩ := hz
  rw [hz2]
  clear hz2 h9
  rw [lnE_r (by omega), show Option.map (gT T) (none : Option Nat) = none from rfl, show mrr L 0 (fw (nev 10) L 0 L.length) none = fsa L from rfl] at hz4
  cases hm : fsa L with
  | none =>
    rw [hm] at hz4
    rw [hz4]
    refine ⟨am_nti _, ?_⟩
    exact g_zreturn dc_M_readFirst_19 rfl rfl ⟨S2, rfl, hz3, rfl⟩
  | some D =>
    rw [hm] at hz4
    rw [hz4.1]
    refine ⟨am_nti _, ?_⟩
    exact g_zreturn dc_M_readFirst_19 rfl rfl ⟨S2, rfl, hz3, rfl, hz4.2⟩
theorem c_M_behindFirst (hA : A.length = 84) (hx : tx S.coming 0 L) (h8 : L.length ≤ 8000) : am_C X mt_M_behindFirst (d + 1) [.ref 84, .int (nI L.length)] (mput A S B) (fun r h1 => r = some (.int (nI (bhf L))) ∧ h1 = mput A S B) := by
  show am_G X mt_M_behindFirst (d + 1) 0 [some (.ref 84), some (.int (nI L.length)), none] [] (mput A S B) _
  have hX := txO_coming (B := B) hA hx (by omega)
  have hfb := fw_bd (p := nev 10) (L := L) (f := 0) (t := L.length) (by omega)
  refine g_aload_n (pc := 0) dc_M_behindFirst_0 rfl ?_
  refine g_getfield (pc := 1) dc_M_behindFirst_1 fl_M_143 (mp_o hA) rfl ?_
  refine g_iconst (pc := 4) (v := 0) dc_M_behindFirst_4 rfl ?_
  refine g_iload_n (pc := 5) dc_M_behindFirst_5 rfl ?_
  refine g_bipush (pc := 6) (v := 10) dc_M_behindFirst_6 rfl ?_
  refine g_s4 (pc := 8) (M' := mt_M_seek) dc_M_behindFirst_8 mo_M_seek st_M_seek ln_M_48 (Nat.le_of_ble_eq_true rfl) (Nat.le_of_ble_eq_true rfl) (am_G.mono (t0_M_seek (v := 10) (f := 0) (t := L.length) hX.tt (by omega) (by omega)) ?_)
  intro r h1 hq
  rw [hq.1, hq.2]
  clear hq h1 r
  refine ⟨am_nti _, ?_⟩
  refine g_istore_n (pc := 11) dc_M_behindFirst_11 (by decide) ?_
  show am_G X mt_M_behindFirst _ 12 [some (.ref 84), some (.int (nI L.length)), some (.int (nI (fw (nev 10) L 0 L.length)))] [] _ _
  refine g_iload_n (pc := 12) dc_M_behindFirst_12 rfl ?_
  refine g_iload_n (pc := 13) dc_M_behindFirst_13 rfl ?_
  refine q_icmp_ge (pc := 14) (tgt := 23) (fw (nev 10) L 0 L.length) L.length dc_M_behindFirst_14 (by omega) (by omega) rfl (fun hc14 => ?_) (fun hc14 => ?_)
  · refine g_iload_n (pc := 23) dc_M_behindFirst_23 rfl ?_
    exact g_ireturn dc_M_behindFirst_24 rfl ⟨by rw [show bhf L = L.length by unfold bhf; omega], rfl⟩
  · refine g_iload_n (pc := 17) dc_M_behindFirst_17 rfl ?_
    refine g_iconst (pc := 18) (v := 1) dc_M_behindFirst_18 rfl ?_
    refine g_iadd (pc := 19) (v := (nI (fw (nev 10) L 0 L.length + 1))) dc_M_behindFirst_19 (nI_add (fw (nev 10) L 0 L.length) 1) ?_
    refine g_goto (pc := 20) (tgt := 24) dc_M_behindFirst_20 rfl ?_
    exact g_ireturn dc_M_behindFirst_24 rfl ⟨by rw [show bhf L = fw (nev 10) L 0 L.length + 1 by unfold bhf; omega], rfl⟩
end OP2
