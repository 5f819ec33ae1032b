/-! ===== the model finds documents, and tells of them and of hits ===== -/
abbrev XF : List Nat := [2, 5, 6, 7, 8, 9, 10, 11, 12, 13, 14, 15, 16, 17, 18, 35, 36, 37, 38, 39, 40, 41, 42, 43, 44, 45, 46, 47, 48, 49, 50, 55, 56, 75, 76, 77, 78, 79, 80, 81, 82, 83, 84]
def dcM (S : MS) (T Y : List (List Int32)) (K : Kn) (pn : Nat) : Prop := S.documents = (dcs K).length ∧ (∀ j, j < (dcs K).length → (∃ ka, ka < T.length ∧ S.documentAddress j = nI ka ∧ gT T ka = gT K.ad (gN (dcs K) j)) ∧ (∃ y, y < Y.length ∧ S.documentText j = nI y ∧ gT Y y = K.tx (gN (dcs K) j)) ∧ S.documentNumber j = nI (gN (dcs K) j) ∧ S.documentCopies j = nI (cnL K (srtK K K.ad.length) (K.tx (gN (dcs K) j)) - 1) ∧ S.documentWords j = nI (pgW (K.tx (gN (dcs K) j))).length ∧ S.ranks j = lN (rkS (ldd K) (dcs K).length pn j)) ∧ ldm S (dcs K).length (dcs K).length (ldd K)
def hitM (S : MS) (H : List (Nat × Nat)) : Prop := S.hits = H.length ∧ ∀ j, j < H.length → S.hitDocument j = nI (H.getD j (0, 0)).1 ∧ S.hitScore j = lN (H.getD j (0, 0)).2
section G7S
variable {X : am_X} {d n k j pn : Nat} {A B h : List va_E} {S S1 : MS} {T T1 Y Y1 U : List (List Int32)} {K : Kn} {p x : Int32} {Z : List Nat} {H : List (Nat × Nat)} {st9 : Bool}
theorem dcM.m (z : dcM S T Y K pn) (e : mA Z S S1) (hi : ∀ x, x ∈ [75, 76, 77, 78, 79, 80, 81, 83] → ¬ x ∈ Z) : dcM S1 T Y K pn := by
  obtain ⟨a1, a2, a3⟩ := z
  refine ⟨(e.documents (hi 75 (by decide))).trans a1, fun j hj => ?_, a3.m e (hi 83 (by decide))⟩
  obtain ⟨⟨ka, q1, q2, q3⟩, ⟨y, u1, u2, u3⟩, q4, q5, q6, q7⟩ := a2 j hj
  refine ⟨⟨ka, q1, ?_, q3⟩, ⟨y, u1, ?_, u3⟩, ?_, ?_, ?_, ?_⟩
  · rw [e.documentAddress (hi 76 (by decide))]; exact q2
  · rw [e.documentText (hi 77 (by decide))]; exact u2
  · rw [e.documentNumber (hi 78 (by decide))]; exact q4
  · rw [e.documentCopies (hi 79 (by decide))]; exact q5
  · rw [e.documentWords (hi 80 (by decide))]; exact q6
  · rw [e.ranks (hi 81 (by decide))]; exact q7
theorem dcM.pre (z : dcM S T Y K pn) (hT : T <+: T1) (hY : Y <+: Y1) : dcM S T1 Y1 K pn := by
  obtain ⟨a1, a2, a3⟩ := z
  refine ⟨a1, fun j hj => ?_, a3⟩
  obtain ⟨⟨ka, q1, q2, q3⟩, ⟨y, u1, u2, u3⟩, q4⟩ := a2 j hj
  exact ⟨⟨ka, Nat.lt_of_lt_of_le q1 hT.length_le, q2, (gT_pre hT q1).trans q3⟩, ⟨y, Nat.lt_of_lt_of_le u1 hY.length_le, u2, (gT_pre hY u1).trans u3⟩, q4⟩
theorem hitM.m (z : hitM S H) (e : mA Z S S1) (h1 : ¬ 84 ∈ Z) (h2 : ¬ 85 ∈ Z) (h3 : ¬ 86 ∈ Z) : hitM S1 H := ⟨(e.hits h1).trans z.1, fun j hj => by rw [e.hitDocument h2, e.hitScore h3]; exact z.2 j hj⟩
theorem n_M_find (hA : A.length = 84) (hs : S.isStarted = st9) (hK : knM S T Y K) (hw : wfK K) (hn : fnd st9 K p = none) : am_C X mt_M_find (d + 11) [.ref 84, .int p] (mput A S B) (fun r h1 => r = some (.int (-1)) ∧ h1 = mput A (S.s_fault 0) B) := by
  show am_G X mt_M_find (d + 11) 0 [some (.ref 84), some (.int p)] [] (mput A S B) _
  have hs : S.isStarted = st9 := hs
  refine g_aload_n (pc := 0) dc_M_find_0 rfl ?_
  refine g_iconst (pc := 1) (v := 0) dc_M_find_1 rfl ?_
  refine pf_fault (pc := 2) (v := 0) hA dc_M_find_2 fp_M_find_1 ?_
  refine g_aload_n (pc := 5) dc_M_find_5 rfl ?_
  refine g_getfield (pc := 6) (v := .int (b1 st9)) dc_M_find_6 fl_M_520 (mp_o hA) (congrArg (fun z => some (Value.int (b1 z))) hs) ?_
  refine q_ifb_eq (pc := 9) (tgt := 29) dc_M_find_9 rfl (fun hc9 => ?_) (fun hc9 => ?_)
  · refine g_iconst (pc := 29) (v := (-1)) dc_M_find_29 rfl ?_
    exact g_ireturn dc_M_find_30 rfl ⟨rfl, rfl⟩
  · refine g_aload_n (pc := 12) dc_M_find_12 rfl ?_
    refine g_v0 (pc := 13) (M' := mt_M_isDone) dc_M_find_13 mo_M_isDone im_M_isDone se_M_isDone ln_M_535 (mp_o hA) rfl rfl (Nat.le_of_ble_eq_true rfl) (Nat.le_of_ble_eq_true rfl) (am_G.mono (c_M_isDone (d := d + 8) (S := S.s_fault 0) hA hK hw) ?_)
    intro r h1 hq
    rw [hq.1, hq.2]
    clear hq h1 r
    refine ⟨am_nti _, ?_⟩
    refine q_ifb_eq (pc := 16) (tgt := 29) dc_M_find_16 rfl (fun hc16 => ?_) (fun hc16 => ?_)
    · refine g_iconst (pc := 29) (v := (-1)) dc_M_find_29 rfl ?_
      exact g_ireturn dc_M_find_30 rfl ⟨rfl, rfl⟩
    · refine g_iload_n (pc := 19) dc_M_find_19 rfl ?_
      refine g_if_lt (pc := 20) (tgt := 29) dc_M_find_20 rfl (fun hc20 => ?_) (fun hc20 => ?_)
      · have hi20 : (p).toInt < (0 : Int) := Int32.lt_iff_toInt_lt.mp hc20
        refine g_iconst (pc := 29) (v := (-1)) dc_M_find_29 rfl ?_
        exact g_ireturn dc_M_find_30 rfl ⟨rfl, rfl⟩
      · have hi20 : ¬ ((p).toInt < (0 : Int)) := fun h9 => hc20 (Int32.lt_iff_toInt_lt.mpr h9)
        refine g_iload_n (pc := 23) dc_M_find_23 rfl ?_
        refine g_bipush (pc := 24) (v := 50) dc_M_find_24 rfl ?_
        refine g_icmp_le (pc := 26) (tgt := 31) dc_M_find_26 rfl (fun hc26 => ?_) (fun hc26 => ?_)
        · have hi26 : (p).toInt ≤ (50 : Int) := Int32.le_iff_toInt_le.mp hc26
          exact absurd hn (by unfold fnd; rw [if_pos ⟨hc9, of_decide_eq_true hc16⟩]; intro h9; have := ixo_t h9; omega)
        · have hi26 : ¬ ((p).toInt ≤ (50 : Int)) := fun h9 => hc26 (Int32.le_iff_toInt_le.mpr h9)
          refine g_iconst (pc := 29) (v := (-1)) dc_M_find_29 rfl ?_
          exact g_ireturn dc_M_find_30 rfl ⟨rfl, rfl⟩
theorem w_M_find (hA : A.length = 84) (hUl : U.length < 3500) (hY : yOK Y) (hs : S.isStarted = st9) (hM : tbM S T Y U) (hK : knM S T Y K) (hw : wfK K) (hlt : ldT K) (hgU : ∀ i, i < K.ad.length → K.st i = 2 → pgU U (gT K.ad i) (K.tx i)) (hn : fnd st9 K p = some k) : am_C X mt_M_find (d + 11) [.ref 84, .int p] (mput A S B) (fun r h1 => r = some (.int (nI (dcs K).length)) ∧ ∃ S1 T1, h1 = mput A S1 B ∧ mA XF S S1 ∧ tbM S1 T1 Y U ∧ T <+: T1 ∧ dcM S1 T1 Y K k ∧ hitM S1 []) := by
  show am_G X mt_M_find (d + 11) 0 [some (.ref 84), some (.int p)] [] (mput A S B) _
  have h250 := dcs_250 hw
  have hst : st9 = true ∧ nxw K = none := by
    refine Classical.byContradiction (fun h9 => ?_)
    unfold fnd at hn
    rw [if_neg h9] at hn
    cases hn
  have hix : ixo p 51 = some k := by unfold fnd at hn; rw [if_pos hst] at hn; exact hn
  obtain ⟨hk51, rfl⟩ := ixo_s hix
  have hm0 : mA [2] S (S.s_fault 0) := (mA.rf S).a_fault _ (by decide)
  refine g_aload_n (pc := 0) dc_M_find_0 rfl ?_
  refine g_iconst (pc := 1) (v := 0) dc_M_find_1 rfl ?_
  refine pf_fault (pc := 2) (v := 0) hA dc_M_find_2 fp_M_find_1 ?_
  refine g_aload_n (pc := 5) dc_M_find_5 rfl ?_
  refine g_getfield (pc := 6) (v := .int (b1 st9)) dc_M_find_6 fl_M_520 (mp_o hA) (congrArg (fun z => some (Value.int (b1 z))) hs) ?_
  refine q_ifb_eq (pc := 9) (tgt := 29) dc_M_find_9 rfl (fun hc => absurd hc (by rw [hst.1]; decide)) (fun hc9 => ?_)
  refine g_aload_n (pc := 12) dc_M_find_12 rfl ?_
  refine g_v0 (pc := 13) (M' := mt_M_isDone) dc_M_find_13 mo_M_isDone im_M_isDone se_M_isDone ln_M_535 (mp_o hA) rfl rfl (Nat.le_of_ble_eq_true rfl) (Nat.le_of_ble_eq_true rfl) (am_G.mono (c_M_isDone (d := d + 8) (S := S.s_fault 0) hA hK hw) ?_)
  intro r h1 hq
  rw [hq.1, hq.2]
  clear hq h1 r
  refine ⟨am_nti _, ?_⟩
  refine q_ifb_eq (pc := 16) (tgt := 29) dc_M_find_16 rfl (fun hc => absurd hc (by rw [decide_eq_true hst.2]; decide)) (fun hc16 => ?_)
  refine g_iload_n (pc := 19) dc_M_find_19 rfl ?_
  refine q_if_lt (pc := 20) (tgt := 29) k dc_M_find_20 (by omega) rfl ?_
  refine g_iload_n (pc := 23) dc_M_find_23 rfl ?_
  refine g_bipush (pc := 24) (v := 50) dc_M_find_24 rfl ?_
  refine q_icmp_le (pc := 26) (tgt := 31) k 50 dc_M_find_26 (by omega) (by omega) rfl (fun hc26 => ?_) (fun hc => absurd hc (by omega))
  refine g_aload_n (pc := 31) dc_M_find_31 rfl ?_
  refine g_v0 (pc := 32) (M' := mt_M_gather) dc_M_find_32 mo_M_gather im_M_gather se_M_gather ln_M_538 (mp_o hA) rfl rfl (Nat.le_of_ble_eq_true rfl) (Nat.le_of_ble_eq_true rfl) (am_G.mono (c_M_gather (d := d + 8) (S := S.s_fault 0) hA (hM.1.m hm0 (by decide) (by decide) (by decide) (by decide)) (hM.2.2.2.m hm0 (by decide) (by decide) (by decide) (by decide) (by decide)) hY.1 (fun j hj => (hY.2 j hj).1) (hK.m hm0 (by decide) (by decide)) hw) ?_)
  intro r h9 hz
  obtain ⟨y1, S1, y2, e1, hd1, ha1, hc1⟩ := hz
  rw [y1, y2]
  clear y1 y2 h9 r
  have hm1 : mA XF S S1 := (hm0.mo (by decide)).tr (e1.mo (by decide))
  have hz1 : mA [2, 75, 76, 77, 78, 79] S S1 := (hm0.mo (by decide)).tr (e1.mo (by decide))
  have hM1 : tbM S1 T Y U := ⟨hM.1.m hz1 (by decide) (by decide) (by decide) (by decide), hM.2.1, hM.2.2.1, hM.2.2.2.m hz1 (by decide) (by decide) (by decide) (by decide) (by decide)⟩
  have hK1 := hK.m hz1 (by decide) (by decide)
  refine ⟨am_nt0, ?_⟩
  refine g_aload_n (pc := 35) dc_M_find_35 rfl ?_
  refine g_v0 (pc := 36) (M' := mt_M_connect) dc_M_find_36 mo_M_connect im_M_connect se_M_connect ln_M_541 (mp_o hA) rfl rfl (Nat.le_of_ble_eq_true rfl) (Nat.le_of_ble_eq_true rfl) (am_G.mono (c_M_connect (d := d) hA hUl hY hw hlt hgU hM1 hK1 hd1 ha1) ?_)
  intro r h9 hz
  obtain ⟨y1, S2, T1, y2, e2, hM2, hp2, hl2, hw2⟩ := hz
  rw [y1, y2]
  clear y1 y2 h9 r
  have hd2 := (e2.documents (by decide)).trans hd1
  have ha2 := ha1.m e2 (by decide) (by decide) (by decide) (by decide)
  have hc2 : ∀ e, e < (dcs K).length → S2.documentCopies e = nI (cnL K (srtK K K.ad.length) (K.tx (gN (dcs K) e)) - 1) := fun e he => by rw [e2.documentCopies (by decide)]; exact hc1 e he
  have hm2 : mA XF S S2 := hm1.tr (e2.mo (by decide))
  have hK2 := (hK1.m e2 (by decide) (by decide)).pre hp2 (List.prefix_refl Y)
  refine ⟨am_nt0, ?_⟩
  refine g_aload_n (pc := 39) dc_M_find_39 rfl ?_
  refine g_iload_n (pc := 40) dc_M_find_40 rfl ?_
  refine g_v1 (pc := 41) (M' := mt_M_rank) dc_M_find_41 mo_M_rank im_M_rank se_M_rank ln_M_544 (mp_o hA) rfl rfl (Nat.le_of_ble_eq_true rfl) (Nat.le_of_ble_eq_true rfl) (am_G.mono (c_M_rank (d := d + 9) (p := k) (L := ldd K) hA h250 (by omega) (fun a ha => ⟨(ldd_inv hw).1, fun x hx => ((ldd_inv hw).2.1 x hx).1⟩) hd2 hl2) ?_)
  intro r h9 hz
  obtain ⟨y1, S3, y2, e3, hr3⟩ := hz
  rw [y1, y2]
  clear y1 y2 h9 r
  have hd3 := (e3.documents (by decide)).trans hd2
  have hm3 : mA XF S S3 := hm2.tr (e3.mo (by decide))
  refine ⟨am_nt0, ?_⟩
  refine g_aload_n (pc := 44) dc_M_find_44 rfl ?_
  refine g_iconst (pc := 45) (v := 0) dc_M_find_45 rfl ?_
  refine pf_hits (pc := 46) (v := 0) hA dc_M_find_46 fp_M_find_547 ?_
  refine g_aload_n (pc := 49) dc_M_find_49 rfl ?_
  refine g_getfield (pc := 50) (v := .int (nI ((dcs K).length))) dc_M_find_50 fl_M_467 (mp_o hA) (congrArg (fun z => some (Value.int (nI z))) hd3) ?_
  have hx9 : mA [84] S3 (S3.s_hits 0) := (mA.rf S3).a_hits _ (by decide)
  have hm9 : mA [81, 82, 84] S2 (S3.s_hits 0) := (e3.mo (by decide)).tr (hx9.mo (by decide))
  have hdc : dcM (S3.s_hits 0) T1 Y K k := by
    refine ⟨hd3, fun j hj => ?_, (hl2.m e3 (by decide)).m hx9 (by decide)⟩
    have hmm := dcs_mem (gN_mem hj)
    obtain ⟨k0, k1, k2, k3⟩ := (hK2.2 _ hmm.1).1
    obtain ⟨y0, u1, u2, u3⟩ := (hK2.2 _ hmm.1).2.2.2.2.2 hmm.2
    refine ⟨⟨k0, k1, ?_, k3⟩, ⟨y0, u1, ?_, u3⟩, ?_, ?_, ?_, hr3 j hj⟩
    · rw [hm9.documentAddress (by decide)]; exact (ha2.1 j hj).trans k2
    · rw [hm9.documentText (by decide)]; exact (ha2.2.1 j hj).trans u2
    · rw [hm9.documentNumber (by decide)]; exact ha2.2.2 j hj
    · rw [hm9.documentCopies (by decide)]; exact hc2 j hj
    · rw [hm9.documentWords (by decide)]; exact hw2 j hj
  exact g_ireturn dc_M_find_53 rfl ⟨rfl, (S3.s_hits 0), T1, rfl, hm3.a_hits _ (by decide), ⟨hM2.1.m hm9 (by decide) (by decide) (by decide) (by decide), hM2.2.1, hM2.2.2.1, hM2.2.2.2.m hm9 (by decide) (by decide) (by decide) (by decide) (by decide)⟩, hp2, hdc, rfl, fun j hj => absurd hj (Nat.not_lt_zero j)⟩
theorem n_M_isDocument (hA : A.length = 84) (hd : S.documents = n) (hn9 : n ≤ 250) (hn : ixo p n = none) : am_C X mt_M_isDocument d [.ref 84, .int p] (mput A S B) (fun r h1 => r = some (.int 0) ∧ h1 = mput A (S.s_fault 0) B) := by
  show am_G X mt_M_isDocument d 0 [some (.ref 84), some (.int p)] [] (mput A S B) _
  have hout := ixo_n (by omega) hn
  refine g_aload_n (pc := 0) dc_M_isDocument_0 rfl ?_
  refine g_iconst (pc := 1) (v := 0) dc_M_isDocument_1 rfl ?_
  refine pf_fault (pc := 2) (v := 0) hA dc_M_isDocument_2 fp_M_isDocument_1 ?_
  refine g_iload_n (pc := 5) dc_M_isDocument_5 rfl ?_
  refine g_if_lt (pc := 6) (tgt := 21) dc_M_isDocument_6 rfl (fun hc6 => ?_) (fun hc6 => ?_)
  · have hi6 : (p).toInt < (0 : Int) := Int32.lt_iff_toInt_lt.mp hc6
    refine g_iconst (pc := 21) (v := 0) dc_M_isDocument_21 rfl ?_
    exact g_zreturn dc_M_isDocument_22 rfl rfl ⟨rfl, rfl⟩
  · have hi6 : ¬ ((p).toInt < (0 : Int)) := fun h9 => hc6 (Int32.lt_iff_toInt_lt.mpr h9)
    refine g_iload_n (pc := 9) dc_M_isDocument_9 rfl ?_
    refine g_aload_n (pc := 10) dc_M_isDocument_10 rfl ?_
    refine g_getfield (pc := 11) (v := .int (nI n)) dc_M_isDocument_11 fl_M_467 (mp_o hA) (congrArg (fun z => some (Value.int (nI z))) hd) ?_
    refine g_icmp_ge (pc := 14) (tgt := 21) dc_M_isDocument_14 rfl (fun hc14 => ?_) (fun hc => absurd hc (fun h8 => h8 (hout.resolve_left hc6)))
    refine g_iconst (pc := 21) (v := 0) dc_M_isDocument_21 rfl ?_
    exact g_zreturn dc_M_isDocument_22 rfl rfl ⟨rfl, rfl⟩
theorem c_M_isDocument (hA : A.length = 84) (hd : S.documents = n) (hn9 : n ≤ 250) (hj : j < n) : am_C X mt_M_isDocument d [.ref 84, .int (nI j)] (mput A S B) (fun r h1 => r = some (.int 1) ∧ h1 = mput A (S.s_fault 0) B) := by
  show am_G X mt_M_isDocument d 0 [some (.ref 84), some (.int (nI j))] [] (mput A S B) _
  refine g_aload_n (pc := 0) dc_M_isDocument_0 rfl ?_
  refine g_iconst (pc := 1) (v := 0) dc_M_isDocument_1 rfl ?_
  refine pf_fault (pc := 2) (v := 0) hA dc_M_isDocument_2 fp_M_isDocument_1 ?_
  refine g_iload_n (pc := 5) dc_M_isDocument_5 rfl ?_
  refine q_if_lt (pc := 6) (tgt := 21) j dc_M_isDocument_6 (by omega) rfl ?_
  refine g_iload_n (pc := 9) dc_M_isDocument_9 rfl ?_
  refine g_aload_n (pc := 10) dc_M_isDocument_10 rfl ?_
  refine g_getfield (pc := 11) (v := .int (nI n)) dc_M_isDocument_11 fl_M_467 (mp_o hA) (congrArg (fun z => some (Value.int (nI z))) hd) ?_
  refine q_icmp_ge (pc := 14) (tgt := 21) j n dc_M_isDocument_14 (by omega) (by omega) rfl (fun hc => absurd hc (by omega)) (fun hc14 => ?_)
  refine g_iconst (pc := 17) (v := 1) dc_M_isDocument_17 rfl ?_
  refine g_goto (pc := 18) (tgt := 22) dc_M_isDocument_18 rfl ?_
  exact g_zreturn dc_M_isDocument_22 rfl rfl ⟨rfl, rfl⟩
theorem c_M_document (hA : A.length = 84) (hw : wfK K) (hX : dcM S T Y K pn) : am_C X mt_M_document (d + 1) [.ref 84, .int p, .int x] (mput A S B) (fun r h1 => r = some (.int (docA K pn p x)) ∧ h1 = mput A (S.s_fault 0) B) := by
  show am_G X mt_M_document (d + 1) 0 [some (.ref 84), some (.int p), some (.int x)] [] (mput A S B) _
  have h250 := dcs_250 hw
  have hd := hX.1
  cases e : ixo p (dcs K).length with
  | none =>
    rw [show docA K pn p x = -1 by unfold docA; rw [e]]
    refine g_aload_n (pc := 0) dc_M_document_0 rfl ?_
    refine g_iload_n (pc := 1) dc_M_document_1 rfl ?_
    refine g_v1 (pc := 2) (M' := mt_M_isDocument) dc_M_document_2 mo_M_isDocument im_M_isDocument se_M_isDocument ln_M_550 (mp_o hA) rfl rfl (Nat.le_of_ble_eq_true rfl) (Nat.le_of_ble_eq_true rfl) (am_G.mono (n_M_isDocument (d := d) hA hd h250 e) ?_)
    intro r h1 hq
    rw [hq.1, hq.2]
    clear hq h1 r
    refine ⟨am_nti _, ?_⟩
    refine g_if_eq (pc := 5) (tgt := 17) dc_M_document_5 rfl (fun _ => ?_) (fun hc => absurd hc (by decide))
    refine g_iconst (pc := 17) (v := (-1)) dc_M_document_17 rfl ?_
    exact g_ireturn dc_M_document_18 rfl ⟨rfl, rfl⟩
  | some j =>
    obtain ⟨hj, rfl⟩ := ixo_s e
    obtain ⟨q1, q2, q3, q4, q5, q6⟩ := hX.2.1 j hj
    have hlw := cnb_len (ldd_inv (dd := j) hw).1 (fun x hx => ((ldd_inv (dd := j) hw).2.1 x hx).1)
    cases e2 : ixo x 6 with
    | none =>
      have hout := ixo_t e2
      rw [show docA K pn (nI j) x = -1 by unfold docA; rw [e]; dsimp only; rw [e2]]
      refine g_aload_n (pc := 0) dc_M_document_0 rfl ?_
      refine g_iload_n (pc := 1) dc_M_document_1 rfl ?_
      refine g_v1 (pc := 2) (M' := mt_M_isDocument) dc_M_document_2 mo_M_isDocument im_M_isDocument se_M_isDocument ln_M_550 (mp_o hA) rfl rfl (Nat.le_of_ble_eq_true rfl) (Nat.le_of_ble_eq_true rfl) (am_G.mono (c_M_isDocument (d := d) hA hd h250 hj) ?_)
      intro r h1 hq
      rw [hq.1, hq.2]
      clear hq h1 r
      refine ⟨am_nti _, ?_⟩
      refine g_if_eq (pc := 5) (tgt := 17) dc_M_document_5 rfl (fun hc => absurd hc (by decide)) (fun _ => ?_)
      refine g_iload_n (pc := 8) dc_M_document_8 rfl ?_
      refine g_if_lt (pc := 9) (tgt := 17) dc_M_document_9 rfl (fun hc9 => ?_) (fun hc9 => ?_)
      · have hi9 : (x).toInt < (0 : Int) := Int32.lt_iff_toInt_lt.mp hc9
        refine g_iconst (pc := 17) (v := (-1)) dc_M_document_17 rfl ?_
        exact g_ireturn dc_M_document_18 rfl ⟨rfl, rfl⟩
      · have hi9 : ¬ ((x).toInt < (0 : Int)) := fun h9 => hc9 (Int32.lt_iff_toInt_lt.mpr h9)
        refine g_iload_n (pc := 12) dc_M_document_12 rfl ?_
        refine g_iconst (pc := 13) (v := 5) dc_M_document_13 rfl ?_
        refine g_icmp_le (pc := 14) (tgt := 19) dc_M_document_14 rfl (fun hc => absurd hc (fun h9 => by have h8 := Int32.le_iff_toInt_le.mp h9; have h5 : (5 : Int32).toInt = 5 := rfl; omega)) (fun hc14 => ?_)
        refine g_iconst (pc := 17) (v := (-1)) dc_M_document_17 rfl ?_
        exact g_ireturn dc_M_document_18 rfl ⟨rfl, rfl⟩
    | some t =>
      obtain ⟨ht, rfl⟩ := ixo_s e2
      rw [show docA K pn (nI j) (nI t) = nI (docV K pn j t) by unfold docA; rw [e]; dsimp only; rw [e2]]
      refine g_aload_n (pc := 0) dc_M_document_0 rfl ?_
      refine g_iload_n (pc := 1) dc_M_document_1 rfl ?_
      refine g_v1 (pc := 2) (M' := mt_M_isDocument) dc_M_document_2 mo_M_isDocument im_M_isDocument se_M_isDocument ln_M_550 (mp_o hA) rfl rfl (Nat.le_of_ble_eq_true rfl) (Nat.le_of_ble_eq_true rfl) (am_G.mono (c_M_isDocument (d := d) hA hd h250 hj) ?_)
      intro r h1 hq
      rw [hq.1, hq.2]
      clear hq h1 r
      refine ⟨am_nti _, ?_⟩
      refine g_if_eq (pc := 5) (tgt := 17) dc_M_document_5 rfl (fun hc => absurd hc (by decide)) (fun _ => ?_)
      refine g_iload_n (pc := 8) dc_M_document_8 rfl ?_
      refine q_if_lt (pc := 9) (tgt := 17) t dc_M_document_9 (by omega) rfl ?_
      refine g_iload_n (pc := 12) dc_M_document_12 rfl ?_
      refine g_iconst (pc := 13) (v := 5) dc_M_document_13 rfl ?_
      refine q_icmp_le (pc := 14) (tgt := 19) t 5 dc_M_document_14 (by omega) (by omega) rfl (fun hc14 => ?_) (fun hc => absurd hc (by omega))
      refine g_iload_n (pc := 19) dc_M_document_19 rfl ?_
      rcases (by omega : t = 0 ∨ t = 1 ∨ t = 2 ∨ t = 3 ∨ t = 4 ∨ t = 5) with rfl | rfl | rfl | rfl | rfl | rfl
      · refine g_tableIn (pc := 20) (off := 36) (tgt := 56) dc_M_document_20 (by decide) (by decide) rfl rfl ?_
        refine g_aload_n (pc := 56) dc_M_document_56 rfl ?_
        refine g_getfield (pc := 57) dc_M_document_57 fl_M_380 (mp_o hA) rfl ?_
        refine g_iload_n (pc := 60) dc_M_document_60 rfl ?_
        refine q_ialoadV (pc := 61) j dc_M_document_61 (mp_a hA 41 rfl) (by omega) (by omega) (v := (nI (gN (dcs K) j))) q3 ?_
        exact g_ireturn dc_M_document_62 rfl ⟨rfl, rfl⟩
      · refine g_tableIn (pc := 20) (off := 43) (tgt := 63) dc_M_document_20 (by decide) (by decide) rfl rfl ?_
        refine g_aload_n (pc := 63) dc_M_document_63 rfl ?_
        refine g_getfield (pc := 64) dc_M_document_64 fl_M_389 (mp_o hA) rfl ?_
        refine g_iload_n (pc := 67) dc_M_document_67 rfl ?_
        refine q_laloadV (pc := 68) j dc_M_document_68 (mp_a hA 44 rfl) (by omega) (by omega) (v :=  (lN (rkS (ldd K) (dcs K).length pn j))) q6 ?_
        refine g_l2i (pc := 69) dc_M_document_69 (lN_i _) ?_
        exact g_ireturn dc_M_document_70 rfl ⟨rfl, rfl⟩
      · refine g_tableIn (pc := 20) (off := 51) (tgt := 71) dc_M_document_20 (by decide) (by decide) rfl rfl ?_
        refine g_aload_n (pc := 71) dc_M_document_71 rfl ?_
        refine g_iload_n (pc := 72) dc_M_document_72 rfl ?_
        refine g_v1 (pc := 73) (M' := mt_M_ways) dc_M_document_73 mo_M_ways im_M_ways se_M_ways ln_M_480 (mp_o hA) rfl rfl (Nat.le_of_ble_eq_true rfl) (Nat.le_of_ble_eq_true rfl) (am_G.mono (c_M_ways (d := d) (S := S.s_fault 0) hA hd h250 (ldm_M hX.2.2) hj) ?_)
        intro r h9 hq
        rw [hq.1, hq.2, hlw]
        clear hq h9 r
        refine ⟨am_nti _, ?_⟩
        exact g_ireturn dc_M_document_76 rfl ⟨rfl, rfl⟩
      · refine g_tableIn (pc := 20) (off := 57) (tgt := 77) dc_M_document_20 (by decide) (by decide) rfl rfl ?_
        refine g_aload_n (pc := 77) dc_M_document_77 rfl ?_
        refine g_iload_n (pc := 78) dc_M_document_78 rfl ?_
        refine g_v1 (pc := 79) (M' := mt_M_waysTo) dc_M_document_79 mo_M_waysTo im_M_waysTo se_M_waysTo ln_M_553 (mp_o hA) rfl rfl (Nat.le_of_ble_eq_true rfl) (Nat.le_of_ble_eq_true rfl) (am_G.mono (c_M_waysTo (d := d) (S := S.s_fault 0) hA hd h250 (ldm_M hX.2.2) hj) ?_)
        intro r h1 hq
        rw [hq.1, hq.2]
        clear hq h1 r
        refine ⟨am_nti _, ?_⟩
        exact g_ireturn dc_M_document_82 rfl ⟨rfl, rfl⟩
      · refine g_tableIn (pc := 20) (off := 63) (tgt := 83) dc_M_document_20 (by decide) (by decide) rfl rfl ?_
        refine g_aload_n (pc := 83) dc_M_document_83 rfl ?_
        refine g_getfield (pc := 84) dc_M_document_84 fl_M_383 (mp_o hA) rfl ?_
        refine g_iload_n (pc := 87) dc_M_document_87 rfl ?_
        refine q_ialoadV (pc := 88) j dc_M_document_88 (mp_a hA 42 rfl) (by omega) (by omega) (v := (nI (cnL K (srtK K K.ad.length) (K.tx (gN (dcs K) j)) - 1))) q4 ?_
        exact g_ireturn dc_M_document_89 rfl ⟨rfl, rfl⟩
      · refine g_tableOut (pc := 20) (tgt := 90) dc_M_document_20 (Or.inr (by decide)) rfl ?_
        refine g_aload_n (pc := 90) dc_M_document_90 rfl ?_
        refine g_getfield (pc := 91) dc_M_document_91 fl_M_386 (mp_o hA) rfl ?_
        refine g_iload_n (pc := 94) dc_M_document_94 rfl ?_
        refine q_ialoadV (pc := 95) j dc_M_document_95 (mp_a hA 43 rfl) (by omega) (by omega) (v := (nI ((pgW (K.tx (gN (dcs K) j))).length))) q5 ?_
        exact g_ireturn dc_M_document_96 rfl ⟨rfl, rfl⟩
theorem n_M_where (hA : A.length = 84) (hw : wfK K) (hX : dcM S T Y K pn) (e : ixo p (dcs K).length = none) : am_C X mt_M_where (d + 2) [.ref 84, .int p] (mput A S B) (fun r h1 => r = some (.int (-1)) ∧ h1 = mput A (S.s_fault 0) B) := by
  show am_G X mt_M_where (d + 2) 0 [some (.ref 84), some (.int p)] [] (mput A S B) _
  have h250 := dcs_250 hw
  have hd := hX.1
  refine g_aload_n (pc := 0) dc_M_where_0 rfl ?_
  refine g_iload_n (pc := 1) dc_M_where_1 rfl ?_
  refine g_v1 (pc := 2) (M' := mt_M_isDocument) dc_M_where_2 mo_M_isDocument im_M_isDocument se_M_isDocument ln_M_550 (mp_o hA) rfl rfl (Nat.le_of_ble_eq_true rfl) (Nat.le_of_ble_eq_true rfl) (am_G.mono (n_M_isDocument (d := d + 1) hA hd h250 e) ?_)
  intro r h1 hq
  rw [hq.1, hq.2]
  clear hq h1 r
  refine ⟨am_nti _, ?_⟩
  refine g_if_eq (pc := 5) (tgt := 21) dc_M_where_5 rfl (fun _ => ?_) (fun hc => absurd hc (by decide))
  refine g_iconst (pc := 21) (v := (-1)) dc_M_where_21 rfl ?_
  exact g_ireturn dc_M_where_22 rfl ⟨rfl, rfl⟩
theorem w_M_where (hA : A.length = 84) (hw : wfK K) (hT : adT S T) (hok : ∀ x, x ∈ T → okD x) (hX : dcM S T Y K pn) (hj : j < (dcs K).length) : am_C X mt_M_where (d + 2) [.ref 84, .int (nI j)] (mput A S B) (fun r h1 => r = some (.int (nI (gT K.ad (gN (dcs K) j)).length)) ∧ ∃ S1, h1 = mput A S1 B ∧ mA [2, 3, 4] S S1 ∧ prM S1 (gT K.ad (gN (dcs K) j))) := by
  show am_G X mt_M_where (d + 2) 0 [some (.ref 84), some (.int (nI j))] [] (mput A S B) _
  have h250 := dcs_250 hw
  have hd := hX.1
  obtain ⟨⟨ka, q1, q2, q3⟩, -⟩ := hX.2.1 j hj
  have hm0 : mA [2] S (S.s_fault 0) := (mA.rf S).a_fault _ (by decide)
  have hob := hok _ (gT_mem q1)
  refine g_aload_n (pc := 0) dc_M_where_0 rfl ?_
  refine g_iload_n (pc := 1) dc_M_where_1 rfl ?_
  refine g_v1 (pc := 2) (M' := mt_M_isDocument) dc_M_where_2 mo_M_isDocument im_M_isDocument se_M_isDocument ln_M_550 (mp_o hA) rfl rfl (Nat.le_of_ble_eq_true rfl) (Nat.le_of_ble_eq_true rfl) (am_G.mono (c_M_isDocument (d := d + 1) hA hd h250 hj) ?_)
  intro r h1 hq
  rw [hq.1, hq.2]
  clear hq h1 r
  refine ⟨am_nti _, ?_⟩
  refine g_if_eq (pc := 5) (tgt := 21) dc_M_where_5 rfl (fun hc => absurd hc (by decide)) (fun _ => ?_)
  refine g_aload_n (pc := 8) dc_M_where_8 rfl ?_
  refine g_aload_n (pc := 9) dc_M_where_9 rfl ?_
  refine g_getfield (pc := 10) dc_M_where_10 fl_M_374 (mp_o hA) rfl ?_
  refine g_iload_n (pc := 13) dc_M_where_13 rfl ?_
  refine q_ialoadV (pc := 14) j dc_M_where_14 (mp_a hA 39 rfl) (by omega) (by omega) (v := (nI ka)) q2 ?_
  refine g_v1 (pc := 15) (M' := mt_M_showAddress) dc_M_where_15 mo_M_showAddress im_M_showAddress se_M_showAddress ln_M_532 (mp_o hA) rfl rfl (Nat.le_of_ble_eq_true rfl) (Nat.le_of_ble_eq_true rfl) (am_G.mono (c_M_showAddress (d := d) (S := S.s_fault 0) hA (hT.m hm0 (by decide) (by decide) (by decide) (by decide)) q1 hob.2.2.2.2.2.1) ?_)
  intro r h9 hz
  obtain ⟨z1, S1, z2, z3, z4⟩ := hz
  rw [z1, z2]
  clear z1 z2 h9 r
  rw [q3] at z4
  refine ⟨am_nti _, ?_⟩
  refine g_goto (pc := 18) (tgt := 22) dc_M_where_18 rfl ?_
  exact g_ireturn dc_M_where_22 rfl ⟨by rw [q3], S1, rfl, (hm0.mo (by decide)).tr (z3.mo (by decide)), z4⟩
theorem c_M_hit (hA : A.length = 84) (hH : hitM S H) (h250 : H.length ≤ 250) : am_C X mt_M_hit d [.ref 84, .int p] (mput A S B) (fun r h1 => r = some (.int (hitA H p)) ∧ h1 = mput A (S.s_fault 0) B) := by
  show am_G X mt_M_hit d 0 [some (.ref 84), some (.int p)] [] (mput A S B) _
  cases e : ixo p H.length with
  | none =>
    have hout := ixo_n (by omega) e
    rw [show hitA H p = -1 by unfold hitA; rw [e]]
    refine g_aload_n (pc := 0) dc_M_hit_0 rfl ?_
    refine g_iconst (pc := 1) (v := 0) dc_M_hit_1 rfl ?_
    refine pf_fault (pc := 2) (v := 0) hA dc_M_hit_2 fp_M_hit_1 ?_
    refine g_iload_n (pc := 5) dc_M_hit_5 rfl ?_
    refine g_if_lt (pc := 6) (tgt := 26) dc_M_hit_6 rfl (fun hc6 => ?_) (fun hc6 => ?_)
    · have hi6 : (p).toInt < (0 : Int) := Int32.lt_iff_toInt_lt.mp hc6
      refine g_iconst (pc := 26) (v := (-1)) dc_M_hit_26 rfl ?_
      exact g_ireturn dc_M_hit_27 rfl ⟨rfl, rfl⟩
    · have hi6 : ¬ ((p).toInt < (0 : Int)) := fun h9 => hc6 (Int32.lt_iff_toInt_lt.mpr h9)
      refine g_iload_n (pc := 9) dc_M_hit_9 rfl ?_
      refine g_aload_n (pc := 10) dc_M_hit_10 rfl ?_
      refine g_getfield (pc := 11) (v := .int (nI H.length)) dc_M_hit_11 fl_M_547 (mp_o hA) (congrArg (fun z => some (Value.int (nI z))) hH.1) ?_
      refine g_icmp_ge (pc := 14) (tgt := 26) dc_M_hit_14 rfl (fun hc14 => ?_) (fun hc => absurd hc (fun h8 => h8 (hout.resolve_left hc6)))
      refine g_iconst (pc := 26) (v := (-1)) dc_M_hit_26 rfl ?_
      exact g_ireturn dc_M_hit_27 rfl ⟨rfl, rfl⟩
  | some j =>
    obtain ⟨hj, rfl⟩ := ixo_s e
    rw [show hitA H (nI j) = nI (H.getD j (0, 0)).1 by unfold hitA; rw [e]]
    refine g_aload_n (pc := 0) dc_M_hit_0 rfl ?_
    refine g_iconst (pc := 1) (v := 0) dc_M_hit_1 rfl ?_
    refine pf_fault (pc := 2) (v := 0) hA dc_M_hit_2 fp_M_hit_1 ?_
    refine g_iload_n (pc := 5) dc_M_hit_5 rfl ?_
    refine q_if_lt (pc := 6) (tgt := 26) j dc_M_hit_6 (by omega) rfl ?_
    refine g_iload_n (pc := 9) dc_M_hit_9 rfl ?_
    refine g_aload_n (pc := 10) dc_M_hit_10 rfl ?_
    refine g_getfield (pc := 11) (v := .int (nI H.length)) dc_M_hit_11 fl_M_547 (mp_o hA) (congrArg (fun z => some (Value.int (nI z))) hH.1) ?_
    refine q_icmp_ge (pc := 14) (tgt := 26) j H.length dc_M_hit_14 (by omega) (by omega) rfl (fun hc => absurd hc (by omega)) (fun hc14 => ?_)
    refine g_aload_n (pc := 17) dc_M_hit_17 rfl ?_
    refine g_getfield (pc := 18) dc_M_hit_18 fl_M_400 (mp_o hA) rfl ?_
    refine g_iload_n (pc := 21) dc_M_hit_21 rfl ?_
    refine q_ialoadV (pc := 22) j dc_M_hit_22 (mp_a hA 47 rfl) (by omega) (by omega) (v := (nI ((H.getD j (0, 0)).1))) (hH.2 j hj).1 ?_
    refine g_goto (pc := 23) (tgt := 27) dc_M_hit_23 rfl ?_
    exact g_ireturn dc_M_hit_27 rfl ⟨rfl, rfl⟩
theorem c_M_score (hA : A.length = 84) (hH : hitM S H) (h250 : H.length ≤ 250) : am_C X mt_M_score d [.ref 84, .int p] (mput A S B) (fun r h1 => r = some (.long (scoA H p)) ∧ h1 = mput A (S.s_fault 0) B) := by
  show am_G X mt_M_score d 0 [some (.ref 84), some (.int p)] [] (mput A S B) _
  cases e : ixo p H.length with
  | none =>
    have hout := ixo_n (by omega) e
    rw [show scoA H p = -1 by unfold scoA; rw [e]]
    refine g_aload_n (pc := 0) dc_M_score_0 rfl ?_
    refine g_iconst (pc := 1) (v := 0) dc_M_score_1 rfl ?_
    refine pf_fault (pc := 2) (v := 0) hA dc_M_score_2 fp_M_score_1 ?_
    refine g_iload_n (pc := 5) dc_M_score_5 rfl ?_
    refine g_if_lt (pc := 6) (tgt := 26) dc_M_score_6 rfl (fun hc6 => ?_) (fun hc6 => ?_)
    · have hi6 : (p).toInt < (0 : Int) := Int32.lt_iff_toInt_lt.mp hc6
      refine g_ldc2 (pc := 26) dc_M_score_26 cl_M_563 ?_
      exact g_lreturn dc_M_score_29 rfl ⟨rfl, rfl⟩
    · have hi6 : ¬ ((p).toInt < (0 : Int)) := fun h9 => hc6 (Int32.lt_iff_toInt_lt.mpr h9)
      refine g_iload_n (pc := 9) dc_M_score_9 rfl ?_
      refine g_aload_n (pc := 10) dc_M_score_10 rfl ?_
      refine g_getfield (pc := 11) (v := .int (nI H.length)) dc_M_score_11 fl_M_547 (mp_o hA) (congrArg (fun z => some (Value.int (nI z))) hH.1) ?_
      refine g_icmp_ge (pc := 14) (tgt := 26) dc_M_score_14 rfl (fun hc14 => ?_) (fun hc => absurd hc (fun h8 => h8 (hout.resolve_left hc6)))
      refine g_ldc2 (pc := 26) dc_M_score_26 cl_M_563 ?_
      exact g_lreturn dc_M_score_29 rfl ⟨rfl, rfl⟩
  | some j =>
    obtain ⟨hj, rfl⟩ := ixo_s e
    rw [show scoA H (nI j) = lN (H.getD j (0, 0)).2 by unfold scoA; rw [e]]
    refine g_aload_n (pc := 0) dc_M_score_0 rfl ?_
    refine g_iconst (pc := 1) (v := 0) dc_M_score_1 rfl ?_
    refine pf_fault (pc := 2) (v := 0) hA dc_M_score_2 fp_M_score_1 ?_
    refine g_iload_n (pc := 5) dc_M_score_5 rfl ?_
    refine q_if_lt (pc := 6) (tgt := 26) j dc_M_score_6 (by omega) rfl ?_
    refine g_iload_n (pc := 9) dc_M_score_9 rfl ?_
    refine g_aload_n (pc := 10) dc_M_score_10 rfl ?_
    refine g_getfield (pc := 11) (v := .int (nI H.length)) dc_M_score_11 fl_M_547 (mp_o hA) (congrArg (fun z => some (Value.int (nI z))) hH.1) ?_
    refine q_icmp_ge (pc := 14) (tgt := 26) j H.length dc_M_score_14 (by omega) (by omega) rfl (fun hc => absurd hc (by omega)) (fun hc14 => ?_)
    refine g_aload_n (pc := 17) dc_M_score_17 rfl ?_
    refine g_getfield (pc := 18) dc_M_score_18 fl_M_403 (mp_o hA) rfl ?_
    refine g_iload_n (pc := 21) dc_M_score_21 rfl ?_
    refine q_laloadV (pc := 22) j dc_M_score_22 (mp_a hA 48 rfl) (by omega) (by omega) (v :=  (lN (H.getD j (0, 0)).2)) (hH.2 j hj).2 ?_
    refine g_goto (pc := 23) (tgt := 29) dc_M_score_23 rfl ?_
    exact g_lreturn dc_M_score_29 rfl ⟨rfl, rfl⟩
end G7S
