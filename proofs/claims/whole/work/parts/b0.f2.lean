/-! ===== documents: the got ones, copies folded ===== -/
/-- the first of those with its text -/
def isF (K : Kn) (i : Nat) : Bool := decide (∀ j, j < K.ad.length → K.st j = 2 → ¬ j = i → K.tx j = K.tx i → bfi K i j = true)
def dfk (K : Kn) (l : List Nat) : List Nat := l.filter (isF K)
def dcs (K : Kn) : List Nat := dfk K (srtK K K.ad.length)
def txs (K : Kn) (l : List Nat) : List (List Int32) := l.map K.tx
def cnL (K : Kn) (l : List Nat) (t : List Int32) : Nat := (l.filter (fun j => decide (K.tx j = t))).length
/-- a part of the order, from its beginning on -/
def prO (K : Kn) (l : List Nat) : Prop := l <+: srtK K K.ad.length
section F2P
variable {K : Kn} {l : List Nat} {i j x k : Nat} {t : List Int32}
theorem dfk_app : dfk K (l ++ [i]) = if isF K i = true then dfk K l ++ [i] else dfk K l := by
  unfold dfk
  rw [List.filter_append, List.filter_cons]
  by_cases h : isF K i = true
  · rw [if_pos h, if_pos h]; rfl
  · rw [if_neg h, if_neg h]; exact List.append_nil _
theorem cnL_app : cnL K (l ++ [i]) t = cnL K l t + (if K.tx i = t then 1 else 0) := by
  unfold cnL
  rw [List.filter_append, List.filter_cons, List.length_append]
  by_cases h : K.tx i = t
  · rw [if_pos h, if_pos (decide_eq_true h)]; rfl
  · rw [if_neg h, if_neg (by rw [decide_eq_false h]; decide)]; rfl
theorem cnL_0 (h : ∀ j, j ∈ l → ¬ K.tx j = t) : cnL K l t = 0 := by
  unfold cnL
  rw [List.filter_eq_nil_iff.mpr (fun j hj => by rw [decide_eq_false (h j hj)]; decide)]
  rfl
theorem cnL_1 (h : j ∈ l) (e : K.tx j = t) : 1 ≤ cnL K l t := by
  unfold cnL
  exact List.length_pos_of_mem (List.mem_filter.mpr ⟨h, decide_eq_true e⟩)
theorem prO_mem (h : prO K l) (hi : i ∈ l) : i < K.ad.length ∧ K.st i = 2 := (srtK_mem _).mp (h.subset hi)
theorem prO_srd (hw : wfK K) (h : prO K l) : srd K l := List.Pairwise.sublist h.sublist (srtK_srd hw _ (Nat.le_refl _))
theorem bfi_as (h1 : bfi K i j = true) (h2 : bfi K j i = true) : False := by
  have := bef_tr h1 h2
  rw [bef_ir] at this
  cases this
theorem prO_bf (hw : wfK K) (h : prO K (l ++ [i])) (hj : j ∈ l) : bfi K j i = true := (List.pairwise_append.mp (prO_srd hw h)).2.2 j hj i (List.mem_singleton_self i)
theorem isF_at (h : isF K i = true) (h1 : j < K.ad.length) (h2 : K.st j = 2) (h3 : ¬ j = i) (h4 : K.tx j = K.tx i) : bfi K i j = true := of_decide_eq_true h j h1 h2 h3 h4
/-- a first one has no like before it -/
theorem isF_new (hw : wfK K) (h : prO K (l ++ [i])) (hf : isF K i = true) (hj : j ∈ l) : ¬ K.tx j = K.tx i := fun e => by
  have h1 := prO_bf hw h hj
  have h2 := prO_mem h (List.mem_append_left _ hj)
  by_cases q : j = i
  · rw [q] at h1
    rw [show bfi K i i = false from bef_ir _] at h1
    cases h1
  · exact bfi_as h1 (isF_at hf h2.1 h2.2 q e)
theorem prO_pre (h : prO K (l ++ [i])) : prO K l := (List.prefix_append l [i]).trans h
/-- another one has a first before it -/
theorem notF_old (hw : wfK K) (h : prO K (l ++ [i])) (hf : isF K i = false) : ∃ j, j ∈ dfk K l ∧ K.tx j = K.tx i := by
  have hi := prO_mem h (List.mem_append_right _ (List.mem_singleton_self i))
  have hp := prO_srd hw h
  obtain ⟨r, hr⟩ := h
  have h0 : ∃ j, j < K.ad.length ∧ K.st j = 2 ∧ ¬ j = i ∧ K.tx j = K.tx i ∧ ¬ bfi K i j = true := by
    refine Classical.byContradiction (fun hn => ?_)
    have : isF K i = true := decide_eq_true (fun j a b c d => Classical.byContradiction (fun e => hn ⟨j, a, b, c, d, e⟩))
    rw [hf] at this
    cases this
  obtain ⟨j, j1, j2, j3, j4, j5⟩ := h0
  have hji : bfi K j i = true := bef_to (fun e => j3 (ad_inj hw hi.1 j1 e).symm) (by
    cases e : bef (gT K.ad i) (gT K.ad j) with
    | false => rfl
    | true => exact absurd e j5)
  have hs9 := srtK_srd hw _ (Nat.le_refl K.ad.length)
  have hjl : j ∈ l := by
    have hm : j ∈ srtK K K.ad.length := (srtK_mem _).mpr ⟨j1, j2⟩
    rw [← hr] at hm hs9
    rw [List.append_assoc] at hm hs9
    rcases List.mem_append.mp hm with q | q
    · exact q
    · rcases List.mem_cons.mp q with q2 | q2
      · exact absurd q2 j3
      · have h7 := (List.pairwise_append.mp hs9).2.1
        exact absurd ((List.pairwise_cons.mp h7).1 j q2) (fun e => bfi_as e hji)
  have key : ∀ (l2 l1 : List Nat), (l1 ++ l2) ++ (i :: r) = srtK K K.ad.length → (∀ e, e ∈ l1 → ¬ K.tx e = K.tx i) → (∃ e, e ∈ l2 ∧ K.tx e = K.tx i) → ∃ e, e ∈ dfk K (l1 ++ l2) ∧ K.tx e = K.tx i := by
    intro l2
    induction l2 with
    | nil => intro l1 _ _ ⟨e, he, _⟩; cases he
    | cons a l2 ih =>
      intro l1 hl hno hex
      by_cases ha : K.tx a = K.tx i
      · refine ⟨a, List.mem_filter.mpr ⟨List.mem_append_right _ (List.mem_cons_self ..), decide_eq_true (fun b b1 b2 b3 b4 => ?_)⟩, ha⟩
        have hm : b ∈ srtK K K.ad.length := (srtK_mem _).mpr ⟨b1, b2⟩
        have hs8 := srtK_srd hw _ (Nat.le_refl K.ad.length)
        rw [← hl, List.append_assoc] at hm hs8
        rcases List.mem_append.mp hm with q | q
        · exact absurd (b4.trans ha) (hno b q)
        · rcases List.mem_cons.mp q with q2 | q2
          · exact absurd q2 b3
          · exact (List.pairwise_cons.mp (List.pairwise_append.mp hs8).2.1).1 b q2
      · obtain ⟨e, he, he2⟩ := hex
        have he3 : e ∈ l2 := (List.mem_cons.mp he).resolve_left (fun q => ha (by rw [← q]; exact he2))
        have h9 := ih (l1 ++ [a]) (by rw [List.append_assoc l1 [a] l2]; exact hl) (fun e h8 => by
          rcases List.mem_append.mp h8 with q | q
          · exact hno e q
          · rw [List.mem_singleton.mp q]; exact ha) ⟨e, he3, he2⟩
        rw [List.append_assoc l1 [a] l2] at h9
        exact h9
  have := key l [] (by rw [List.nil_append, ← hr, List.append_assoc]; rfl) (fun e he => by cases he) ⟨j, hjl, j4⟩
  rw [List.nil_append] at this
  exact this
theorem txs_len : (txs K l).length = l.length := List.length_map ..
theorem txs_g (h : k < l.length) : gT (txs K l) k = K.tx (gN l k) := by
  unfold gT txs
  rw [List.getD_eq_getElem?_getD, List.getElem?_map, List.getElem?_eq_getElem h, gN_at h]
  rfl
theorem txs_app : txs K (l ++ [i]) = txs K l ++ [K.tx i] := List.map_append ..
theorem dfk_sub (h : i ∈ dfk K l) : i ∈ l := (List.mem_filter.mp h).1
theorem dfk_len : (dfk K l).length ≤ l.length := List.length_filter_le _ _
theorem nbr_new (hw : wfK K) (h : prO K (l ++ [i])) (hf : isF K i = true) : nbr (txs K (dfk K l)) (K.tx i) = none := nbr_no (fun j hj => by
  rw [txs_len] at hj
  rw [txs_g hj]
  exact isF_new hw h hf (dfk_sub (gN_mem hj)))
theorem nbr_old (hw : wfK K) (h : prO K (l ++ [i])) (hf : isF K i = false) : ∃ d, d < (dfk K l).length ∧ nbr (txs K (dfk K l)) (K.tx i) = some d ∧ K.tx (gN (dfk K l) d) = K.tx i := by
  obtain ⟨j, j1, j2⟩ := notF_old hw h hf
  cases e : nbr (txs K (dfk K l)) (K.tx i) with
  | none => exact absurd (List.mem_map.mpr ⟨j, j1, j2⟩) (nbr_n e)
  | some d =>
    have h9 := nbr_s e
    rw [txs_len] at h9
    exact ⟨d, h9.1, rfl, (txs_g h9.1).symm.trans h9.2⟩
/-- two documents have two texts -/
theorem dfk_two (hw : wfK K) (h : prO K l) (hi : i ∈ dfk K l) (hj : j ∈ dfk K l) (e : K.tx i = K.tx j) : i = j := by
  have a1 := prO_mem h (dfk_sub hi)
  have a2 := prO_mem h (dfk_sub hj)
  refine Classical.byContradiction (fun hne => ?_)
  exact bfi_as (isF_at (List.mem_filter.mp hi).2 a2.1 a2.2 (fun q => hne q.symm) e.symm) (isF_at (List.mem_filter.mp hj).2 a1.1 a1.2 hne e)
theorem txs_nd (hw : wfK K) (h : prO K l) : (txs K (dfk K l)).Nodup := by
  have hs : srd K (dfk K l) := (prO_srd hw h).filter _
  unfold txs List.Nodup
  rw [List.pairwise_map]
  refine List.Pairwise.imp_of_mem (fun {a b} ha hb hab e => ?_) hs
  have := dfk_two hw h ha hb e
  rw [this, show bfi K b b = false from bef_ir _] at hab
  cases hab
end F2P
section F2S
variable {X : am_X} {d i k n x p pg : Nat} {w w0 w1 : Gw} {h h0 h1 : List va_E} {I : List Nat} {K V : Kn} {l : List Nat} {y : Pg}
/-- the pages of documents -/
def dpC (w : Gw) (h : List va_E) (K : Kn) (l : List Nat) : Prop := ∃ gp, pA w h 60 250 gp ∧ ∀ j, j < l.length → ∃ pg, gp j = some pg ∧ gG w h pg (gT K.ad (gN l j), 200, K.tx (gN l j))
theorem dpC.fr (z : dpC w h K l) (f : fr w w1 h h1 I) (i1 : ¬ 60 ∈ I) (i2 : ¬ 99 ∈ I) : dpC w1 h1 K l := by
  obtain ⟨gp, a1, a2⟩ := z
  refine ⟨gp, cO.fr a1 f i1, fun j hj => ?_⟩
  obtain ⟨pg, b1, b2⟩ := a2 j hj
  exact ⟨pg, b1, b2.fr f i2⟩
theorem l_D_documentWithText (hD : dO w h l.length) (hP : dpC w h K l) (h250 : l.length ≤ 250) (hG : gG w h pg y) : ∀ n9 k : Nat, k + n9 = l.length → (∀ j, j < k → ¬ gT (txs K l) j = y.2.2) → am_G X mt_D_documentWithText (d + 2) 2 [some (.ref 59), some (.ref pg), some (.int (nI k))] [] h (fun r h1 => r = some (.int (er (nbr (txs K l) y.2.2))) ∧ h1 = h)
  | 0, k, e, hn => by
    refine g_iload_n (pc := 2) dc_D_documentWithText_2 rfl ?_
    refine g_aload_n (pc := 3) dc_D_documentWithText_3 rfl ?_
    refine g_getfield (pc := 4) dc_D_documentWithText_4 fl_D_91 hD.1 rfl ?_
    refine q_icmp_ge (pc := 7) (tgt := 31) k l.length dc_D_documentWithText_7 (by omega) (by omega) rfl (fun hc7 => ?_) (fun hc => absurd hc (by omega))
    refine g_iconst (pc := 31) (v := (-1)) dc_D_documentWithText_31 rfl ?_
    exact g_ireturn dc_D_documentWithText_32 rfl ⟨by rw [nbr_no (fun j hj => hn j (by rw [txs_len] at hj; omega))]; rfl, rfl⟩
  | n9 + 1, k, e, hn => by
    obtain ⟨g, hg, hg2⟩ := hP
    obtain ⟨pg9, hp1, hp2⟩ := hg2 k (by omega)
    have hpo : ∃ fs, h[pg9]? = some (.inr (10, fs)) := by obtain ⟨a1, a2, q1, -⟩ := hp2; exact ⟨_, q1.1⟩
    obtain ⟨fs, hpgo⟩ := hpo
    refine g_iload_n (pc := 2) dc_D_documentWithText_2 rfl ?_
    refine g_aload_n (pc := 3) dc_D_documentWithText_3 rfl ?_
    refine g_getfield (pc := 4) dc_D_documentWithText_4 fl_D_91 hD.1 rfl ?_
    refine q_icmp_ge (pc := 7) (tgt := 31) k l.length dc_D_documentWithText_7 (by omega) (by omega) rfl (fun hc => absurd hc (by omega)) (fun hc7 => ?_)
    refine g_aload_n (pc := 10) dc_D_documentWithText_10 rfl ?_
    refine g_getfield (pc := 11) dc_D_documentWithText_11 fl_D_11 hD.1 rfl ?_
    refine g_iload_n (pc := 14) dc_D_documentWithText_14 rfl ?_
    refine q_aaload4 (pc := 15) k dc_D_documentWithText_15 hg.1 (by omega) (by omega) hp1 ?_
    refine g_aload_n (pc := 16) dc_D_documentWithText_16 rfl ?_
    refine g_v1 (pc := 17) (M' := mt_G_hasTextOf) dc_D_documentWithText_17 mo_G_hasTextOf im_G_hasTextOf se_G_hasTextOf ln_D_97 hpgo rfl rfl (Nat.le_of_ble_eq_true rfl) (Nat.le_of_ble_eq_true rfl) (am_G.mono (c_G_hasTextOf (d := d) hp2 hG) ?_)
    intro r h1 hq
    rw [hq.1, hq.2]
    clear hq h1 r
    refine ⟨am_nti _, ?_⟩
    refine q_ifb_eq (pc := 20) (tgt := 25) dc_D_documentWithText_20 rfl (fun hc20 => ?_) (fun hc20 => ?_)
    · refine g_iinc (pc := 25) (v := (nI (k + 1))) dc_D_documentWithText_25 rfl (nI_add k 1) (by decide) ?_
      show am_G X mt_D_documentWithText _ 28 [some (.ref 59), some (.ref pg), some (.int (nI (k + 1)))] [] _ _
      refine g_goto (pc := 28) (tgt := 2) dc_D_documentWithText_28 rfl ?_
      exact l_D_documentWithText hD ⟨g, hg, hg2⟩ h250 hG n9 (k + 1) (by omega) (fun j hj => by
        by_cases e9 : j = k
        · rw [e9, txs_g (by omega)]; exact of_decide_eq_false hc20
        · exact hn j (by omega))
    · refine g_iload_n (pc := 23) dc_D_documentWithText_23 rfl ?_
      exact g_ireturn dc_D_documentWithText_24 rfl ⟨by rw [nbr_fst (by rw [txs_len]; omega) ((txs_g (by omega)).trans (of_decide_eq_true hc20)) hn]; rfl, rfl⟩
theorem c_D_documentWithText (hD : dO w h l.length) (hP : dpC w h K l) (h250 : l.length ≤ 250) (hG : gG w h pg y) : am_C X mt_D_documentWithText (d + 2) [.ref 59, .ref pg] h (fun r h1 => r = some (.int (er (nbr (txs K l) y.2.2))) ∧ h1 = h) := by
  show am_G X mt_D_documentWithText (d + 2) 0 [some (.ref 59), some (.ref pg), none] [] h _
  refine g_iconst (pc := 0) (v := 0) dc_D_documentWithText_0 rfl ?_
  refine g_istore_n (pc := 1) dc_D_documentWithText_1 (by decide) ?_
  show am_G X mt_D_documentWithText _ 2 [some (.ref 59), some (.ref pg), some (.int 0)] [] _ _
  exact l_D_documentWithText hD hP h250 hG l.length 0 (by omega) (fun j hj => absurd hj (by omega))
end F2S
