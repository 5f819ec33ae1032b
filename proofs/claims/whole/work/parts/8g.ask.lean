/-! ===== first lines; pages; asking for an address: the model ===== -/
theorem fw_s1 {p : Int32 → Bool} {L : List Int32} : ∀ (n f t : Nat), f + n = t → fw p L f (t + 1) = if fw p L f t < t then fw p L f t else if p (gx L t) = true then t + 1 else t
  | 0, f, t, e => by
    obtain rfl : f = t := by omega
    rw [fw_0 (Nat.le_refl f), if_neg (by omega)]
    split
    · rename_i h; rw [fw_t (by omega) h, fw_0 (Nat.le_refl _)]
    · rename_i h; rw [fw_f h]
  | n + 1, f, t, e => by
    by_cases h : p (gx L f) = true
    · rw [fw_t (by omega) h, fw_t (by omega) h]
      exact fw_s1 n (f + 1) t (by omega)
    · rw [fw_f h, fw_f h, if_pos (by omega)]
theorem mrt_e {L : List Int32} {a b : Nat} {bo : Option (List Int32)} : mrt L a a bo = mrt L b b bo := by
  have ha : ∀ a : Nat, mrt L a a bo = mrs L a a bo := fun a => by
    unfold mrt
    rw [if_pos, if_neg]
    · intro h9
      have := fw_bd (p := nev 58) (L := L) (Nat.le_refl a)
      have := fw_bd (p := nev 47) (L := L) (Nat.le_refl a)
      omega
    · unfold alp
      rw [fx_0 (Nat.le_refl a)]
      exact decide_eq_true (Nat.le_refl a)
  have hs : ∀ a : Nat, mrs L a a bo = match bo with | none => none | some D => fin (sub D 7 (hen D)) (uf D (hen D) (bmk D)) (if bmk D < D.length then some (uf D (bmk D) D.length) else none) := fun a => by
    unfold mrs
    rw [if_neg (by omega)]
    cases bo with
    | none => rfl
    | some D =>
      dsimp only
      unfold bsP bsQ
      rw [fw_0 (Nat.le_refl a), if_pos rfl, if_neg (by omega)]
      congr 1
      by_cases h : bmk D < D.length
      · rw [if_pos ⟨rfl, h⟩, if_pos h]
      · rw [if_neg (fun h9 => h h9.2), if_neg h]
  rw [ha, ha, hs, hs]
theorem mrr_13 {L : List Int32} {f t : Nat} {bo : Option (List Int32)} (hft : f ≤ t) (h : isBl (gx L t) = true) : mrr L f (t + 1) bo = mrr L f t bo := by
  unfold mrr
  have hb := fw_bd (p := isBl) (L := L) hft
  rw [fw_s1 (t - f) f t (by omega)]
  by_cases h1 : fw isBl L f t < t
  · rw [if_pos h1, bw_t (by omega) h]
  · rw [if_neg h1, if_pos h, bw_0 (Nat.le_refl _), fw_0 (Nat.le_refl _)]
    have e : fw isBl L f t = t := by omega
    rw [e, bw_0 (Nat.le_refl _), fw_0 (Nat.le_refl _)]
    exact mrt_e
/-- where the first line ends, without a 13 -/
def lnE (L : List Int32) (f t : Nat) : Nat := if fw (nev 10) L f t < t ∧ f < fw (nev 10) L f t ∧ gx L (fw (nev 10) L f t - 1) = 13 then fw (nev 10) L f t - 1 else fw (nev 10) L f t
theorem lnE_bd {L : List Int32} {f t : Nat} (h : f ≤ t) : f ≤ lnE L f t ∧ lnE L f t ≤ t := by
  have := fw_bd (p := nev 10) (L := L) h
  unfold lnE
  split <;> omega
theorem lnE_r {L : List Int32} {f t : Nat} {bo : Option (List Int32)} (h : f ≤ t) : mrr L f (lnE L f t) bo = mrr L f (fw (nev 10) L f t) bo := by
  unfold lnE
  split
  · rename_i h9
    have e := mrr_13 (L := L) (f := f) (t := fw (nev 10) L f t - 1) (bo := bo) (by omega) (by rw [h9.2.2]; rfl)
    rw [show fw (nev 10) L f t - 1 + 1 = fw (nev 10) L f t by omega] at e
    exact e.symm
  · rfl
theorem txO_texts {A B : List va_E} {S : MS} {s : Nat} {L : List Int32} (hA : A.length = 84) (hX : tx S.texts s L) (hs : s + L.length ≤ 24000) : txO A B S 96 s L := fun S1 _ _ a3 _ _ => ⟨24000, S1.texts, mp_a hA 12 rfl, by rw [a3]; exact hX, hs, by omega⟩
theorem txO_coming {A B : List va_E} {S : MS} {L : List Int32} (hA : A.length = 84) (hX : tx S.coming 0 L) (hs : L.length ≤ 8020) : txO A B S 85 0 L := fun S1 a1 _ _ _ _ => ⟨8020, S1.coming, mp_a hA 1 rfl, by rw [a1]; exact hX, by omega, by omega⟩
/-- a page: address, status, text -/
abbrev Pg : Type := List Int32 × Nat × List Int32
def gP (P : List Pg) (k : Nat) : Pg := P.getD k ([], 0, [])
def pad (P : List Pg) : List (List Int32) := P.map (fun x => x.1)
theorem pad_len (P : List Pg) : (pad P).length = P.length := List.length_map ..
theorem pad_g {P : List Pg} {k : Nat} (h : k < P.length) : gT (pad P) k = (gP P k).1 := by
  rw [gT_eq (by rw [pad_len]; exact h)]
  unfold pad gP
  rw [List.getElem_map, List.getD_eq_getElem?_getD, List.getElem?_eq_getElem h]
  rfl
def pagM (S : MS) (T Y : List (List Int32)) (P : List Pg) : Prop := S.pageCount = P.length ∧ P.length ≤ 60 ∧ (pad P).Nodup ∧ ∀ k, k < P.length → (∃ ka, ka < T.length ∧ S.pageAddress k = nI ka ∧ gT T ka = (gP P k).1) ∧ (S.pageStatus k = nI (gP P k).2.1 ∧ (gP P k).2.1 ≤ 599) ∧ ∃ j, j < Y.length ∧ S.pageText k = nI j ∧ gT Y j = (gP P k).2.2
theorem pagM.m {S S1 : MS} {T Y : List (List Int32)} {P : List Pg} {Z : List Nat} (h : pagM S T Y P) (e : mA Z S S1) (h1 : ¬ 51 ∈ Z) (h2 : ¬ 52 ∈ Z) (h3 : ¬ 53 ∈ Z) (h4 : ¬ 54 ∈ Z) : pagM S1 T Y P := by
  unfold pagM at h ⊢
  rw [e.pageAddress h1, e.pageStatus h2, e.pageText h3, e.pageCount h4]
  exact h
theorem pagM.pre {S : MS} {T T1 Y Y1 : List (List Int32)} {P : List Pg} (h : pagM S T Y P) (hT : T <+: T1) (hY : Y <+: Y1) : pagM S T1 Y1 P := ⟨h.1, h.2.1, h.2.2.1, fun k hk => by
  obtain ⟨⟨ka, a1, a2, a3⟩, b, j, j1, j2, j3⟩ := h.2.2.2 k hk
  exact ⟨⟨ka, (gT_pre2 hT a1).1, a2, (gT_pre2 hT a1).2.trans a3⟩, b, j, (gT_pre2 hY j1).1, j2, (gT_pre2 hY j1).2.trans j3⟩⟩
section ASK
variable {X : am_X} {d k ka s f t a : Nat} {A B h : List va_E} {S : MS} {T Y : List (List Int32)} {K : Kn} {lim : Nat → Nat} {P : List Pg} {L : List Int32}
theorem c_M_lineEnd (hx : tt h a s L) (hft : f ≤ t) (ht : t ≤ L.length) : am_C X mt_M_lineEnd (d + 1) [.ref a, .int (nI (s + f)), .int (nI (s + t))] h (fun r h1 => r = some (.int (nI (s + lnE L f t))) ∧ h1 = h) := by
  show am_G X mt_M_lineEnd (d + 1) 0 [some (.ref a), some (.int (nI (s + f))), some (.int (nI (s + t))), none] [] h _
  have hx0 := hx
  obtain ⟨cap, g, ha, hT, hs, hc⟩ := hx
  have hfb := fw_bd (p := nev 10) (L := L) hft
  refine g_aload_n (pc := 0) dc_M_lineEnd_0 rfl ?_
  refine g_iload_n (pc := 1) dc_M_lineEnd_1 rfl ?_
  refine g_iload_n (pc := 2) dc_M_lineEnd_2 rfl ?_
  refine g_bipush (pc := 3) (v := 10) dc_M_lineEnd_3 rfl ?_
  refine g_s4 (pc := 5) (M' := mt_M_seek) dc_M_lineEnd_5 mo_M_seek st_M_seek ln_M_48 (Nat.le_of_ble_eq_true rfl) (Nat.le_of_ble_eq_true rfl) (am_G.mono (t_M_seek (v := 10) (f := f) (t := t) hx0 (by omega) (by omega)) ?_)
  intro r h1 hq
  rw [hq.1, hq.2]
  clear hq h1 r
  refine ⟨am_nti _, ?_⟩
  have hb5 := fw_bd (p := nev 10) (L := L) (f := f) (t := t) (by omega)
  refine g_istore_n (pc := 8) dc_M_lineEnd_8 (by decide) ?_
  show am_G X mt_M_lineEnd _ 9 [some (.ref a), some (.int (nI (s + f))), some (.int (nI (s + t))), some (.int (nI (s + (fw (nev 10) L f t))))] [] _ _
  refine g_iload_n (pc := 9) dc_M_lineEnd_9 rfl ?_
  refine g_iload_n (pc := 10) dc_M_lineEnd_10 rfl ?_
  refine q_icmp_ge (pc := 11) (tgt := 35) (s + (fw (nev 10) L f t)) (s + t) dc_M_lineEnd_11 (by omega) (by omega) rfl (fun hc11 => ?_) (fun hc11 => ?_)
  · refine g_iload_n (pc := 35) dc_M_lineEnd_35 rfl ?_
    exact g_ireturn dc_M_lineEnd_36 rfl ⟨by rw [show lnE L f t = fw (nev 10) L f t from if_neg (by omega)], rfl⟩
  · refine g_iload_n (pc := 14) dc_M_lineEnd_14 rfl ?_
    refine g_iload_n (pc := 15) dc_M_lineEnd_15 rfl ?_
    refine q_icmp_le (pc := 16) (tgt := 35) (s + (fw (nev 10) L f t)) (s + f) dc_M_lineEnd_16 (by omega) (by omega) rfl (fun hc16 => ?_) (fun hc16 => ?_)
    · refine g_iload_n (pc := 35) dc_M_lineEnd_35 rfl ?_
      exact g_ireturn dc_M_lineEnd_36 rfl ⟨by rw [show lnE L f t = fw (nev 10) L f t from if_neg (by omega)], rfl⟩
    · refine g_aload_n (pc := 19) dc_M_lineEnd_19 rfl ?_
      refine g_iload_n (pc := 20) dc_M_lineEnd_20 rfl ?_
      refine g_iconst (pc := 21) (v := 1) dc_M_lineEnd_21 rfl ?_
      refine g_isub (pc := 22) (v := (nI (s + (fw (nev 10) L f t - 1)))) dc_M_lineEnd_22 (q_sn (s := s) (a := fw (nev 10) L f t) (b := 1) (by omega)) ?_
      refine q_tx (pc := 23) (fw (nev 10) L f t - 1) dc_M_lineEnd_23 ha hT hs (by omega) hc ?_
      refine g_bipush (pc := 24) (v := 13) dc_M_lineEnd_24 rfl ?_
      refine g_icmp_ne (pc := 26) (tgt := 35) dc_M_lineEnd_26 rfl (fun hc26 => ?_) (fun hc26 => ?_)
      · refine g_iload_n (pc := 35) dc_M_lineEnd_35 rfl ?_
        exact g_ireturn dc_M_lineEnd_36 rfl ⟨by rw [show lnE L f t = fw (nev 10) L f t from if_neg (by intro h9; exact hc26 h9.2.2)], rfl⟩
      · refine g_iload_n (pc := 29) dc_M_lineEnd_29 rfl ?_
        refine g_iconst (pc := 30) (v := 1) dc_M_lineEnd_30 rfl ?_
        refine g_isub (pc := 31) (v := (nI (s + (fw (nev 10) L f t - 1)))) dc_M_lineEnd_31 (q_sn (s := s) (a := fw (nev 10) L f t) (b := 1) (by omega)) ?_
        refine g_goto (pc := 32) (tgt := 36) dc_M_lineEnd_32 rfl ?_
        exact g_ireturn dc_M_lineEnd_36 rfl ⟨by rw [show lnE L f t = fw (nev 10) L f t - 1 from if_pos ⟨by omega, by omega, hc26⟩], rfl⟩
theorem l_M_pageOf (hA : A.length = 84) (hT : adT S T) (hka : ka < T.length) (hP : pagM S T Y P) : ∀ (n k : Nat) (oo : Option Nat), k + n = P.length → lst (pad P) (gT T ka) k oo → am_G X mt_M_pageOf d 4 [some (.ref 84), some (.int (nI ka)), some (.int (er oo)), some (.int (nI k))] [] (mput A S B) (fun r h1 => r = some (.int (er (nbr (pad P) (gT T ka)))) ∧ h1 = mput A S B)
  | 0, k, oo, hn, hl => by
    have h60 := hP.2.1
    refine g_iload_n (pc := 4) dc_M_pageOf_4 rfl ?_
    refine g_aload_n (pc := 5) dc_M_pageOf_5 rfl ?_
    refine g_getfield (pc := 6) (v := .int (nI P.length)) dc_M_pageOf_6 fl_M_312 (mp_o hA) (congrArg (fun z => some (Value.int (nI z))) hP.1) ?_
    refine q_icmp_ge (pc := 9) (tgt := 34) k P.length dc_M_pageOf_9 (by omega) (by omega) rfl (fun hc9 => ?_) (fun hc => absurd hc (by omega))
    refine g_iload_n (pc := 34) dc_M_pageOf_34 rfl ?_
    exact g_ireturn dc_M_pageOf_35 rfl ⟨by rw [lst_end (show lst (pad P) (gT T ka) (pad P).length oo by rw [pad_len, ← show k = P.length by omega]; exact hl) hP.2.2.1], rfl⟩
  | n + 1, k, oo, hn, hl => by
    have h60 := hP.2.1
    have h35 := hT.2.2.1
    obtain ⟨kb, hk1, hk2, hk3⟩ := (hP.2.2.2 k (by omega)).1
    refine g_iload_n (pc := 4) dc_M_pageOf_4 rfl ?_
    refine g_aload_n (pc := 5) dc_M_pageOf_5 rfl ?_
    refine g_getfield (pc := 6) (v := .int (nI P.length)) dc_M_pageOf_6 fl_M_312 (mp_o hA) (congrArg (fun z => some (Value.int (nI z))) hP.1) ?_
    refine q_icmp_ge (pc := 9) (tgt := 34) k P.length dc_M_pageOf_9 (by omega) (by omega) rfl (fun hc => absurd hc (by omega)) (fun hc9 => ?_)
    refine g_aload_n (pc := 12) dc_M_pageOf_12 rfl ?_
    refine g_getfield (pc := 13) dc_M_pageOf_13 fl_M_315 (mp_o hA) rfl ?_
    refine g_iload_n (pc := 16) dc_M_pageOf_16 rfl ?_
    refine q_ialoadV (pc := 17) k dc_M_pageOf_17 (mp_a hA 26 rfl) (by omega) (by omega) (v := (nI kb)) hk2 ?_
    refine g_iload_n (pc := 18) dc_M_pageOf_18 rfl ?_
    refine q_icmp_ne (pc := 19) (tgt := 26) kb ka dc_M_pageOf_19 (by omega) (by omega) rfl (fun hc19 => ?_) (fun hc19 => ?_)
    · refine g_iload_n (pc := 26) dc_M_pageOf_26 rfl ?_
      refine g_istore_n (pc := 27) dc_M_pageOf_27 (by decide) ?_
      show am_G X mt_M_pageOf _ 28 [some (.ref 84), some (.int (nI ka)), some (.int (er oo)), some (.int (nI k))] [] _ _
      refine g_iinc (pc := 28) (v := (nI (k + 1))) dc_M_pageOf_28 rfl (nI_add k 1) (by decide) ?_
      show am_G X mt_M_pageOf _ 31 [some (.ref 84), some (.int (nI ka)), some (.int (er oo)), some (.int (nI (k + 1)))] [] _ _
      refine g_goto (pc := 31) (tgt := 4) dc_M_pageOf_31 rfl ?_
      exact l_M_pageOf hA hT hka hP n (k + 1) oo (by omega) (lst_miss hl (fun h9 => hc19 (gT_inj hT.2.2.2.2 hk1 hka (hk3.trans ((pad_g (by omega)).symm.trans h9)))))
    · refine g_iload_n (pc := 22) dc_M_pageOf_22 rfl ?_
      refine g_goto (pc := 23) (tgt := 27) dc_M_pageOf_23 rfl ?_
      refine g_istore_n (pc := 27) dc_M_pageOf_27 (by decide) ?_
      show am_G X mt_M_pageOf _ 28 [some (.ref 84), some (.int (nI ka)), some (.int (nI k)), some (.int (nI k))] [] _ _
      refine g_iinc (pc := 28) (v := (nI (k + 1))) dc_M_pageOf_28 rfl (nI_add k 1) (by decide) ?_
      show am_G X mt_M_pageOf _ 31 [some (.ref 84), some (.int (nI ka)), some (.int (nI k)), some (.int (nI (k + 1)))] [] _ _
      refine g_goto (pc := 31) (tgt := 4) dc_M_pageOf_31 rfl ?_
      exact l_M_pageOf hA hT hka hP n (k + 1) (some k) (by omega) (lst_hit (by rw [pad_g (by omega), ← hk3, hc19]))
theorem c_M_pageOf (hA : A.length = 84) (hT : adT S T) (hka : ka < T.length) (hP : pagM S T Y P) : am_C X mt_M_pageOf d [.ref 84, .int (nI ka)] (mput A S B) (fun r h1 => r = some (.int (er (nbr (pad P) (gT T ka)))) ∧ h1 = mput A S B) := by
  show am_G X mt_M_pageOf d 0 [some (.ref 84), some (.int (nI ka)), none, none] [] (mput A S B) _
  refine g_iconst (pc := 0) (v := (-1)) dc_M_pageOf_0 rfl ?_
  refine g_istore_n (pc := 1) dc_M_pageOf_1 (by decide) ?_
  show am_G X mt_M_pageOf _ 2 [some (.ref 84), some (.int (nI ka)), some (.int (-1)), none] [] _ _
  refine g_iconst (pc := 2) (v := 0) dc_M_pageOf_2 rfl ?_
  refine g_istore_n (pc := 3) dc_M_pageOf_3 (by decide) ?_
  show am_G X mt_M_pageOf _ 4 [some (.ref 84), some (.int (nI ka)), some (.int (-1)), some (.int 0)] [] _ _
  exact l_M_pageOf hA hT hka hP P.length 0 none (by omega) lst_0
/-- the crawl besides the known: clock, askings, askings since it was saved, when it was lost, the askings told and their clocks -/
abbrev Cw : Type := Nat × Nat × Nat × Option Nat × List (List Int32) × (Nat → Nat)
def Cw.ck (c : Cw) : Nat := c.1
def Cw.an (c : Cw) : Nat := c.2.1
def Cw.sn (c : Cw) : Nat := c.2.2.1
def Cw.cr (c : Cw) : Option Nat := c.2.2.2.1
def Cw.aq (c : Cw) : List (List Int32) := c.2.2.2.2.1
def Cw.ac (c : Cw) : Nat → Nat := c.2.2.2.2.2
/-- when the site of D was asked last, among the first n of the known -/
def lsf (K : Kn) (cr : Option Nat) (D : List Int32) : Nat → Option Nat
  | 0 => cr
  | i + 1 => if lgv (lsf K cr D i) < lgv (K.at i) ∧ sit (gT K.ad i) = sit D then K.at i else lsf K cr D i
/-- the clock at which it may be asked for -/
def ckr (lim : Nat → Nat) (K : Kn) (c : Cw) (D : List Int32) : Nat := match lsf K c.cr D K.ad.length with
  | none => c.ck
  | some z => max c.ck (z + lim 2)
def asC (lim : Nat → Nat) (K : Kn) (c : Cw) (D : List Int32) : Cw := (ckr lim K c D + 1, c.an + 1, c.sn + 1, c.cr, (if c.an < 1000 then c.aq ++ [D] else c.aq), upf c.ac c.an (ckr lim K c D))
def stK (K : Kn) (k v : Nat) : Kn := (K.ad, upf K.st k v, K.dp, K.ch, K.ld, K.tx, K.at)
def asK (lim : Nat → Nat) (K : Kn) (c : Cw) (k : Nat) : Kn := (K.ad, K.st, K.dp, K.ch, K.ld, K.tx, upf K.at k (some (ckr lim K c (gT K.ad k))))
/-- what holds of the crawl whoever keeps it -/
def wfC (K : Kn) (c : Cw) : Prop := (∀ i z, i < K.ad.length → K.at i = some z → z < c.ck) ∧ (∀ z, c.cr = some z → z ≤ c.ck) ∧ c.ck ≤ 1001 * c.an ∧ c.an ≤ 128000 ∧ c.aq.length = min c.an 1000 ∧ (∀ x, x ∈ c.aq → okD x) ∧ c.sn ≤ c.an
theorem lgv_inj {x y : Option Nat} (h : lgv x = lgv y) : x = y := by
  cases x <;> cases y <;> simp [lgv] at h
  · rfl
  · rw [h]
theorem lsf_ge {K : Kn} {cr : Option Nat} {D : List Int32} : ∀ n : Nat, lgv cr ≤ lgv (lsf K cr D n) ∧ (∀ i, i < n → sit (gT K.ad i) = sit D → lgv (K.at i) ≤ lgv (lsf K cr D n)) ∧ (lsf K cr D n = cr ∨ ∃ i, i < n ∧ sit (gT K.ad i) = sit D ∧ lsf K cr D n = K.at i)
  | 0 => ⟨Nat.le_refl _, fun i hi => absurd hi (Nat.not_lt_zero i), Or.inl rfl⟩
  | n + 1 => by
    obtain ⟨h1, h2, h3⟩ := lsf_ge (K := K) (cr := cr) (D := D) n
    have e : lsf K cr D (n + 1) = if lgv (lsf K cr D n) < lgv (K.at n) ∧ sit (gT K.ad n) = sit D then K.at n else lsf K cr D n := rfl
    rw [e]
    split
    · rename_i h9
      refine ⟨by omega, fun i hi hs => ?_, Or.inr ⟨n, by omega, h9.2, rfl⟩⟩
      by_cases q : i = n
      · rw [q]; exact Nat.le_refl _
      · have := h2 i (by omega) hs; omega
    · rename_i h9
      refine ⟨h1, fun i hi hs => ?_, ?_⟩
      · by_cases q : i = n
        · rw [q] at hs ⊢
          exact Nat.le_of_not_lt (fun h8 => h9 ⟨h8, hs⟩)
        · exact h2 i (by omega) hs
      · rcases h3 with q | ⟨i, a, b, c⟩
        · exact Or.inl q
        · exact Or.inr ⟨i, by omega, b, c⟩
theorem ckr_bd {c : Cw} {D : List Int32} (hw : wfC K c) (hl : lim 2 ≤ 1000) : c.ck ≤ ckr lim K c D ∧ ckr lim K c D ≤ c.ck + 1000 := by
  unfold ckr
  cases e : lsf K c.cr D K.ad.length with
  | none => show c.ck ≤ c.ck ∧ c.ck ≤ c.ck + 1000; omega
  | some z =>
    have hz : z ≤ c.ck := by
      rcases (lsf_ge (K := K) (cr := c.cr) (D := D) K.ad.length).2.2 with q | ⟨i, a, b, q⟩
      · rw [e] at q; exact hw.2.1 z q.symm
      · rw [e] at q; have := hw.1 i z a q.symm; omega
    show c.ck ≤ max c.ck (z + lim 2) ∧ max c.ck (z + lim 2) ≤ c.ck + 1000
    omega
/-- the model's crawl besides the known -/
def cwM (S : MS) (T : List (List Int32)) (c : Cw) : Prop := S.clock = c.ck ∧ S.asked = c.an ∧ S.askedSince = c.sn ∧ S.otherTime = c.cr ∧ ∀ i, i < c.aq.length → S.askedClock i = nI (c.ac i) ∧ ∃ kb, kb < T.length ∧ S.askedAddress i = nI kb ∧ gT T kb = gT c.aq i
/-- the model's sites -/
def siM (S : MS) (T : List (List Int32)) (K : Kn) (cr : Option Nat) : Prop := ∃ (Q : List (List Int32)) (tm : Nat → Nat) (J : List (List Int32)), S.siteCount = Q.length ∧ Q.Nodup ∧ (Q.length ≤ J.length ∧ J.Nodup ∧ ∀ x, x ∈ J → ∃ i, i < K.ad.length ∧ gT K.ad i = x ∧ ¬ K.st i = 1) ∧ (∀ s, s < Q.length → (∃ kb, kb < T.length ∧ S.siteOf s = nI kb ∧ sit (gT T kb) = gT Q s) ∧ S.siteTime s = nI (tm s) ∧ (∃ i, i < K.ad.length ∧ sit (gT K.ad i) = gT Q s ∧ K.at i = some (tm s)) ∧ (∀ i, i < K.ad.length → sit (gT K.ad i) = gT Q s → lgv (K.at i) ≤ tm s + 1) ∧ lgv cr ≤ tm s + 1) ∧ ∀ i, i < K.ad.length → lgv cr < lgv (K.at i) → sit (gT K.ad i) ∈ Q
theorem l_M_askFor {Q : List (List Int32)} {R : Option Value → List va_E → Prop} (hA : A.length = 84) (hT : adT S T) (hka : ka < T.length) (hQ1 : S.siteCount = Q.length) (hQ2 : Q.length ≤ 250) (hQ3 : ∀ s, s < Q.length → ∃ kb, kb < T.length ∧ S.siteOf s = nI kb ∧ sit (gT T kb) = gT Q s) (KK : ∀ i, i ≤ Q.length → (i < Q.length → gT Q i = sit (gT T ka)) → (i = Q.length → ∀ j, j < Q.length → ¬ gT Q j = sit (gT T ka)) → am_G X mt_M_askFor (d + 3) 30 [some (.ref 84), some (.int (nI ka)), some (.int (nI i)), none] [] (mput A S B) R) : ∀ (n i : Nat), i + n = Q.length → (∀ j, j < i → ¬ gT Q j = sit (gT T ka)) → am_G X mt_M_askFor (d + 3) 2 [some (.ref 84), some (.int (nI ka)), some (.int (nI i)), none] [] (mput A S B) R
  | 0, i, e, hp => by
    refine g_iload_n (pc := 2) dc_M_askFor_2 rfl ?_
    refine g_aload_n (pc := 3) dc_M_askFor_3 rfl ?_
    refine g_getfield (pc := 4) (v := .int (nI Q.length)) dc_M_askFor_4 fl_M_427 (mp_o hA) (congrArg (fun z => some (Value.int (nI z))) hQ1) ?_
    refine q_icmp_ge (pc := 7) (tgt := 30) i Q.length dc_M_askFor_7 (by omega) (by omega) rfl (fun hc7 => ?_) (fun hc => absurd hc (by omega))
    exact KK i (by omega) (fun h9 => absurd h9 (by omega)) (fun _ j hj => hp j (by omega))
  | n + 1, i, e, hp => by
    obtain ⟨kb, hk1, hk2, hk3⟩ := hQ3 i (by omega)
    refine g_iload_n (pc := 2) dc_M_askFor_2 rfl ?_
    refine g_aload_n (pc := 3) dc_M_askFor_3 rfl ?_
    refine g_getfield (pc := 4) (v := .int (nI Q.length)) dc_M_askFor_4 fl_M_427 (mp_o hA) (congrArg (fun z => some (Value.int (nI z))) hQ1) ?_
    refine q_icmp_ge (pc := 7) (tgt := 30) i Q.length dc_M_askFor_7 (by omega) (by omega) rfl (fun hc => absurd hc (by omega)) (fun hc7 => ?_)
    refine g_aload_n (pc := 10) dc_M_askFor_10 rfl ?_
    refine g_aload_n (pc := 11) dc_M_askFor_11 rfl ?_
    refine g_getfield (pc := 12) dc_M_askFor_12 fl_M_368 (mp_o hA) rfl ?_
    refine g_iload_n (pc := 15) dc_M_askFor_15 rfl ?_
    refine q_ialoadV (pc := 16) i dc_M_askFor_16 (mp_a hA 37 rfl) (by omega) (by omega) (v := (nI kb)) hk2 ?_
    refine g_iload_n (pc := 17) dc_M_askFor_17 rfl ?_
    refine g_v2 (pc := 18) (M' := mt_M_isSameSite) dc_M_askFor_18 mo_M_isSameSite im_M_isSameSite se_M_isSameSite ln_M_155 (mp_o hA) rfl rfl (Nat.le_of_ble_eq_true rfl) (Nat.le_of_ble_eq_true rfl) (am_G.mono (c_M_isSameSite (d := d) hA hT hk1 hka) ?_)
    intro r h1 hq
    rw [hq.1, hq.2]
    clear hq h1 r
    refine ⟨am_nti _, ?_⟩
    refine q_ifb_ne (pc := 21) (tgt := 30) dc_M_askFor_21 rfl (fun hc21 => ?_) (fun hc21 => ?_)
    · exact KK i (by omega) (fun _ => by rw [← hk3]; exact of_decide_eq_true hc21) (fun h9 => absurd h9 (by omega))
    · refine g_iinc (pc := 24) (v := (nI (i + 1))) dc_M_askFor_24 rfl (nI_add i 1) (by decide) ?_
      show am_G X mt_M_askFor _ 27 [some (.ref 84), some (.int (nI ka)), some (.int (nI (i + 1))), none] [] _ _
      refine g_goto (pc := 27) (tgt := 2) dc_M_askFor_27 rfl ?_
      exact l_M_askFor hA hT hka hQ1 hQ2 hQ3 KK n (i + 1) (by omega) (fun j hj => by
        by_cases e9 : j = i
        · rw [e9, ← hk3]; exact of_decide_eq_false hc21
        · exact hp j (by omega))
theorem nd_nat {J : List (List Int32)} {D : List Int32} (hJ : J.Nodup) (hD : ¬ D ∈ J) (hs : ∀ x, x ∈ J → x ∈ K.ad) (hk : D ∈ K.ad) : J.length < K.ad.length := by
  have h := nd_len (T := D :: J) (U := K.ad) (List.nodup_cons.mpr ⟨hD, hJ⟩) (fun x hx => by
    rcases List.mem_cons.mp hx with e | e
    · rw [e]; exact hk
    · exact hs x e)
  exact h
theorem siM.j {cr : Option Nat} (h : siM S T K cr) (hn : K.ad.Nodup) (hk : k < K.ad.length) (hs : K.st k = 1) : ∃ (Q : List (List Int32)) (tm : Nat → Nat) (J : List (List Int32)), (Q.length < K.ad.length ∧ ¬ gT K.ad k ∈ J) ∧ S.siteCount = Q.length ∧ Q.Nodup ∧ (Q.length ≤ J.length ∧ J.Nodup ∧ ∀ x, x ∈ J → ∃ i, i < K.ad.length ∧ gT K.ad i = x ∧ ¬ K.st i = 1) ∧ (∀ s, s < Q.length → (∃ kb, kb < T.length ∧ S.siteOf s = nI kb ∧ sit (gT T kb) = gT Q s) ∧ S.siteTime s = nI (tm s) ∧ (∃ i, i < K.ad.length ∧ sit (gT K.ad i) = gT Q s ∧ K.at i = some (tm s)) ∧ (∀ i, i < K.ad.length → sit (gT K.ad i) = gT Q s → lgv (K.at i) ≤ tm s + 1) ∧ lgv cr ≤ tm s + 1) ∧ ∀ i, i < K.ad.length → lgv cr < lgv (K.at i) → sit (gT K.ad i) ∈ Q := by
  obtain ⟨Q, tm, J, h1, h2, h3, h4, h5⟩ := h
  have hD : ¬ gT K.ad k ∈ J := fun h9 => by
    obtain ⟨i, a, b, c⟩ := h3.2.2 _ h9
    rw [gT_inj hn a hk b] at c
    exact c hs
  have := nd_nat (K := K) h3.2.1 hD (fun x hx => by
    obtain ⟨i, a, b, c⟩ := h3.2.2 x hx
    rw [← b]; exact gT_mem a) (gT_mem hk)
  exact ⟨Q, tm, J, ⟨by omega, hD⟩, h1, h2, h3, h4, h5⟩
end ASK
