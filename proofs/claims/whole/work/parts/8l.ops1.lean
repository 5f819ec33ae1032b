/-! ===== start, and what is asked of the crawl: the model ===== -/
/-- a number below n, or none -/
def ixo (p : Int32) (n : Nat) : Option Nat := if 0 ≤ p.toInt ∧ p.toInt < (n : Int) then some p.toInt.toNat else none
theorem nI_tn {p : Int32} (h : 0 ≤ p.toInt) : p = nI p.toInt.toNat := by
  have hlt : p.toInt.toNat < 2 ^ 31 := by
    have := Int32.toInt_lt p
    omega
  apply Int32.toInt_inj.mp
  rw [nI_toInt hlt]
  omega
theorem ixo_s {p : Int32} {n k : Nat} (h : ixo p n = some k) : k < n ∧ p = nI k := by
  unfold ixo at h
  split at h
  · rename_i h9
    cases h
    exact ⟨by omega, nI_tn h9.1⟩
  · cases h
theorem ixo_n {p : Int32} {n : Nat} (hn : n < 2 ^ 31) (h : ixo p n = none) : p < 0 ∨ nI n ≤ p := by
  unfold ixo at h
  split at h
  · cases h
  · rename_i h9
    by_cases e : 0 ≤ p.toInt
    · refine Or.inr (Int32.le_iff_toInt_le.mpr ?_)
      rw [nI_toInt hn]
      omega
    · refine Or.inl (Int32.lt_iff_toInt_lt.mpr ?_)
      show p.toInt < 0
      omega
theorem ixo_in {n k : Nat} (hk : k < n) (hn : n < 2 ^ 31) : ixo (nI k) n = some k := by
  unfold ixo
  rw [nI_toInt (by omega), if_pos (by omega)]
  congr 1
/-- what was told of the settings -/
def tdM (S : MS) (sett : Nat → Nat) : Prop := (∀ i, i < 4 → S.told i = nI (sett i)) ∧ sett 0 ≤ 20 ∧ sett 1 ≤ 8 ∧ sett 2 ≤ 1000 ∧ sett 3 ≤ 50
theorem tdM.m {S S1 : MS} {sett : Nat → Nat} {Z : List Nat} (h : tdM S sett) (e : mA Z S S1) (h1 : ¬ 57 ∈ Z) : tdM S1 sett := by
  unfold tdM at h ⊢
  rw [e.told h1]
  exact h
def sdM (S : MS) (T Sd : List (List Int32)) : Prop := S.seedCount = Sd.length ∧ Sd.length ≤ 20 ∧ ∀ i, i < Sd.length → ∃ ka, ka < T.length ∧ S.seeds i = nI ka ∧ gT T ka = gT Sd i
theorem sdM.m {S S1 : MS} {T Sd : List (List Int32)} {Z : List Nat} (h : sdM S T Sd) (e : mA Z S S1) (h1 : ¬ 59 ∈ Z) (h2 : ¬ 60 ∈ Z) : sdM S1 T Sd := by
  unfold sdM at h ⊢
  rw [e.seeds h1, e.seedCount h2]
  exact h
theorem sdM.pre {S : MS} {T T1 Sd : List (List Int32)} (h : sdM S T Sd) (hT : T <+: T1) : sdM S T1 Sd := ⟨h.1, h.2.1, fun i hi => by
  obtain ⟨ka, a1, a2, a3⟩ := h.2.2 i hi
  exact ⟨ka, (gT_pre2 hT a1).1, a2, (gT_pre2 hT a1).2.trans a3⟩⟩
def K00 : Kn := ([], fun _ => 0, fun _ => 0, fun _ => 0, fun _ => none, fun _ => [], fun _ => none)
def c00 : Cw := (0, 0, 0, none, [], fun _ => 0)
/-- the crawl as it starts -/
def sta (sett : Nat → Nat) (Sd : List (List Int32)) : Cr := (lkf sett 0 Sd K00, c00, lkf sett 0 Sd K00)
theorem wf00 : wfK K00 ∧ wfC K00 c00 := ⟨⟨Nat.zero_le _, List.nodup_nil, fun x hx => absurd hx List.not_mem_nil, fun i hi => absurd hi (Nat.not_lt_zero i)⟩, ⟨fun i z hi => absurd hi (Nat.not_lt_zero i), fun z hz => (by cases hz), Nat.zero_le _, Nat.zero_le _, rfl, fun x hx => absurd hx List.not_mem_nil, Nat.zero_le _⟩⟩
theorem lkf_at {lim : Nat → Nat} {dp : Nat} {c : Cw} (h0 : lim 0 ≤ 20) (h1 : lim 1 ≤ 8) (hd : dp ≤ 21) (Ls : List (List Int32)) (ho : ∀ x, x ∈ Ls → okD x) : wfK (lkf lim dp Ls K00) ∧ wfC (lkf lim dp Ls K00) c00 := lkf_wf h0 h1 hd Ls K00 ho wf00.1 wf00.2
section OP1
variable {X : am_X} {d k ka j i : Nat} {A B h : List va_E} {S : MS} {T Y U Ls Rs Rt Sd : List (List Int32)} {K V : Kn} {lim sett : Nat → Nat} {c : Cw} {P : List Pg} {D L : List Int32} {q : Cr} {p w : Int32}
theorem l37_M_start {Q : Option Value → List va_E → Prop} (hA : A.length = 84) (ht : tdM S sett) (KK : ∀ g, (∀ j, j < 4 → g j = nI (sett j)) → am_G X mt_M_start (d + 3) 60 [some (.ref 84), none] [] (mput A (S.s_held g) B) Q) : ∀ (n i : Nat) (g : Nat → Int32), i + n = 4 → (∀ j, j < i → g j = nI (sett j)) → am_G X mt_M_start (d + 3) 37 [some (.ref 84), some (.int (nI i))] [] (mput A (S.s_held g) B) Q
  | 0, i, g, e, hp => by
    refine g_iload_n (pc := 37) dc_M_start_37 rfl ?_
    refine g_iconst (pc := 38) (v := 4) dc_M_start_38 rfl ?_
    refine q_icmp_ge (pc := 39) (tgt := 60) i 4 dc_M_start_39 (by omega) (by omega) rfl (fun hc39 => ?_) (fun hc => absurd hc (by omega))
    refine am_wk (am_le_s (am_le_n am_le_0)) ?_
    exact KK g (fun j hj => hp j (by omega))
  | n + 1, i, g, e, hp => by
    refine g_iload_n (pc := 37) dc_M_start_37 rfl ?_
    refine g_iconst (pc := 38) (v := 4) dc_M_start_38 rfl ?_
    refine q_icmp_ge (pc := 39) (tgt := 60) i 4 dc_M_start_39 (by omega) (by omega) rfl (fun hc => absurd hc (by omega)) (fun hc39 => ?_)
    refine g_aload_n (pc := 42) dc_M_start_42 rfl ?_
    refine g_getfield (pc := 43) dc_M_start_43 fl_M_350 (mp_o hA) rfl ?_
    refine g_iload_n (pc := 46) dc_M_start_46 rfl ?_
    refine g_aload_n (pc := 47) dc_M_start_47 rfl ?_
    refine g_getfield (pc := 48) dc_M_start_48 fl_M_347 (mp_o hA) rfl ?_
    refine g_iload_n (pc := 51) dc_M_start_51 rfl ?_
    refine q_ialoadV (pc := 52) i dc_M_start_52 (mp_a hA 30 rfl) (by omega) (by omega) (v := (nI (sett i))) (ht.1 i (by omega)) ?_
    refine asE_held (pc := 53) i (g := upd g i (nI (sett i))) hA dc_M_start_53 (by omega) (rfl) ?_
    rw [MS.ss_held]
    refine g_iinc (pc := 54) (v := (nI (i + 1))) dc_M_start_54 rfl (nI_add i 1) (by decide) ?_
    show am_G X mt_M_start _ 57 [some (.ref 84), some (.int (nI (i + 1)))] [] _ _
    refine g_goto (pc := 57) (tgt := 37) dc_M_start_57 rfl ?_
    exact l37_M_start hA ht KK n (i + 1) _ (by omega) (fun j hj => by
      by_cases e9 : j = i
      · rw [e9, upd_s]
      · rw [upd_n e9]; exact hp j (by omega))
theorem l62_M_start (hA : A.length = 84) (hok : ∀ x, x ∈ Sd → okD x) : ∀ (n i : Nat) (S : MS) (K : Kn), i + n = Sd.length → adT S T → knM S T Y K → wfK K → hdM S lim → sdM S T Sd → am_G X mt_M_start (d + 3) 62 [some (.ref 84), some (.int (nI i))] [] (mput A S B) (fun r h1 => r = some (.int (nI (lkf lim 0 (Sd.drop i) K).ad.length)) ∧ ∃ S1, h1 = mput A S1 B ∧ mA [63, 64, 65, 66, 67] S S1 ∧ knM S1 T Y (lkf lim 0 (Sd.drop i) K) ∧ svM S1 T Y (lkf lim 0 (Sd.drop i) K) ∧ S1.askedSince = 0)
  | 0, i, S, K, e, hT, hK, hw, hl, hs => by
    rw [List.drop_eq_nil_of_le (by omega)]
    have h20 := hs.2.1
    have h250 := hw.1
    refine g_iload_n (pc := 62) dc_M_start_62 rfl ?_
    refine g_aload_n (pc := 63) dc_M_start_63 rfl ?_
    refine g_getfield (pc := 64) (v := .int (nI Sd.length)) dc_M_start_64 fl_M_517 (mp_o hA) (congrArg (fun z => some (Value.int (nI z))) hs.1) ?_
    refine q_icmp_ge (pc := 67) (tgt := 88) i Sd.length dc_M_start_67 (by omega) (by omega) rfl (fun hc67 => ?_) (fun hc => absurd hc (by omega))
    refine g_aload_n (pc := 88) dc_M_start_88 rfl ?_
    refine g_v0 (pc := 89) (M' := mt_M_save) dc_M_start_89 mo_M_save im_M_save se_M_save ln_M_523 (mp_o hA) rfl rfl (Nat.le_of_ble_eq_true rfl) (Nat.le_of_ble_eq_true rfl) (am_G.mono (c_M_save (d := d + 2) hA hK hw.1) ?_)
    intro r h9 hz
    obtain ⟨q1, S2, q2, q3, q4, q5, q6⟩ := hz
    rw [q1, q2]
    clear q1 q2 h9 r
    have hn2 : S2.knownCount = K.ad.length := (q3.knownCount (by decide)).trans hK.1
    refine ⟨am_nt0, ?_⟩
    refine g_aload_n (pc := 92) dc_M_start_92 rfl ?_
    refine g_getfield (pc := 93) (v := .int (nI K.ad.length)) dc_M_start_93 fl_M_412 (mp_o hA) (congrArg (fun z => some (Value.int (nI z))) hn2) ?_
    exact g_ireturn dc_M_start_96 rfl ⟨rfl, S2, rfl, q3.mo (by decide), hK.m q3 (by decide) (by decide), ⟨q4, q5⟩, q6⟩
  | n + 1, i, S, K, e, hT, hK, hw, hl, hs => by
    rw [drop_s (show i < Sd.length by omega)]
    obtain ⟨kb, hb1, hb2, hb3⟩ := hs.2.2 i (by omega)
    have h20 := hs.2.1
    refine g_iload_n (pc := 62) dc_M_start_62 rfl ?_
    refine g_aload_n (pc := 63) dc_M_start_63 rfl ?_
    refine g_getfield (pc := 64) (v := .int (nI Sd.length)) dc_M_start_64 fl_M_517 (mp_o hA) (congrArg (fun z => some (Value.int (nI z))) hs.1) ?_
    refine q_icmp_ge (pc := 67) (tgt := 88) i Sd.length dc_M_start_67 (by omega) (by omega) rfl (fun hc => absurd hc (by omega)) (fun hc67 => ?_)
    refine g_aload_n (pc := 70) dc_M_start_70 rfl ?_
    refine g_aload_n (pc := 71) dc_M_start_71 rfl ?_
    refine g_getfield (pc := 72) dc_M_start_72 fl_M_353 (mp_o hA) rfl ?_
    refine g_iload_n (pc := 75) dc_M_start_75 rfl ?_
    refine q_ialoadV (pc := 76) i dc_M_start_76 (mp_a hA 32 rfl) (by omega) (by omega) (v := (nI kb)) hb2 ?_
    refine g_iconst (pc := 77) (v := 0) dc_M_start_77 rfl ?_
    refine g_iconst (pc := 78) (v := 0) dc_M_start_78 rfl ?_
    refine g_v3 (pc := 79) (M' := mt_M_meet) dc_M_start_79 mo_M_meet im_M_meet se_M_meet ln_M_452 (mp_o hA) rfl rfl (Nat.le_of_ble_eq_true rfl) (Nat.le_of_ble_eq_true rfl) (am_G.mono (c_M_meet (d := d) (dp := 0) (ch := 0) hA hT hb1 hK hw hl (by omega) (by omega)) ?_)
    intro r h9 hz
    obtain ⟨hz1, S2, hz2, hz3, hz4⟩ := hz
    rw [hz1, hz2]
    clear hz1 hz2 h9 r
    rw [hb3] at hz4
    refine ⟨am_nt0, ?_⟩
    refine g_iinc (pc := 82) (v := (nI (i + 1))) dc_M_start_82 rfl (nI_add i 1) (by decide) ?_
    show am_G X mt_M_start _ 85 [some (.ref 84), some (.int (nI (i + 1)))] [] _ _
    refine g_goto (pc := 85) (tgt := 62) dc_M_start_85 rfl ?_
    refine am_G.mono (l62_M_start hA hok n (i + 1) S2 _ (by omega) (hT.m hz3 (by decide) (by decide) (by decide) (by decide)) hz4 (mee_wf hl.2.1 hl.2.2.1 (hok _ (gT_mem (by omega))) (by omega) (by omega) hw) (hl.m hz3 (by decide)) (hs.m hz3 (by decide) (by decide))) (fun r h9 hz => ?_)
    obtain ⟨y1, S1, y2, y3, y4⟩ := hz
    exact ⟨y1, S1, y2, (hz3.mo (by decide)).tr y3, y4⟩
theorem c_M_start (hA : A.length = 84) (hM : tbM S T Y U) (hp : pagM S T Y P) (hr : rulM S T Y Rs Rt) (ht : tdM S sett) (hs : sdM S T Sd) (hok : ∀ x, x ∈ Sd → okD x) : am_C X mt_M_start (d + 3) [.ref 84] (mput A S B) (fun r h1 => r = some (.int (nI (sta sett Sd).1.ad.length)) ∧ ∃ S1, h1 = mput A S1 B ∧ mA [2, 58, 61, 62, 63, 64, 65, 66, 67, 68, 73, 74] S S1 ∧ S1.isStarted = true ∧ cqM S1 T Y U P Rs Rt sett (sta sett Sd)) := by
  show am_G X mt_M_start (d + 3) 0 [some (.ref 84), none] [] (mput A S B) _
  refine g_aload_n (pc := 0) dc_M_start_0 rfl ?_
  refine g_iconst (pc := 1) (v := 0) dc_M_start_1 rfl ?_
  refine pf_fault (pc := 2) (v := 0) hA dc_M_start_2 fp_M_start_1 ?_
  refine g_aload_n (pc := 5) dc_M_start_5 rfl ?_
  refine g_iconst (pc := 6) (v := 1) dc_M_start_6 rfl ?_
  refine pf_isStarted (pc := 7) (v := true) hA dc_M_start_7 fp_M_start_520 ?_
  have hma_S1 : mA [2, 61] S ((S.s_fault 0).s_isStarted true) := (((mA.rf S).a_fault _ (by decide)).a_isStarted _ (by decide))
  have hk_S1_isStarted : ((S.s_fault 0).s_isStarted true).isStarted = true := rfl
  show am_G X mt_M_start _ 10 [some (.ref 84), none] [] (mput A ((S.s_fault 0).s_isStarted true) B) _
  generalize ((S.s_fault 0).s_isStarted true) = S1 at hma_S1 hk_S1_isStarted ⊢
  refine g_aload_n (pc := 10) dc_M_start_10 rfl ?_
  refine g_iconst (pc := 11) (v := 0) dc_M_start_11 rfl ?_
  refine pf_clock (pc := 12) (v := 0) hA dc_M_start_12 fp_M_start_433 ?_
  refine g_aload_n (pc := 15) dc_M_start_15 rfl ?_
  refine g_iconst (pc := 16) (v := 0) dc_M_start_16 rfl ?_
  refine pf_knownCount (pc := 17) (v := 0) hA dc_M_start_17 fp_M_start_412 ?_
  have hma_S2 : mA [62, 64] S1 ((S1.s_clock 0).s_knownCount 0) := (((mA.rf S1).a_clock _ (by decide)).a_knownCount _ (by decide))
  have hk_S2_isStarted : ((S1.s_clock 0).s_knownCount 0).isStarted = true := hk_S1_isStarted
  have hk_S2_clock : ((S1.s_clock 0).s_knownCount 0).clock = 0 := rfl
  have hk_S2_knownCount : ((S1.s_clock 0).s_knownCount 0).knownCount = 0 := rfl
  show am_G X mt_M_start _ 20 [some (.ref 84), none] [] (mput A ((S1.s_clock 0).s_knownCount 0) B) _
  generalize ((S1.s_clock 0).s_knownCount 0) = S2 at hma_S2 hk_S2_isStarted hk_S2_clock hk_S2_knownCount ⊢
  refine g_aload_n (pc := 20) dc_M_start_20 rfl ?_
  refine g_iconst (pc := 21) (v := 0) dc_M_start_21 rfl ?_
  refine pf_asked (pc := 22) (v := 0) hA dc_M_start_22 fp_M_start_436 ?_
  refine g_aload_n (pc := 25) dc_M_start_25 rfl ?_
  refine g_iconst (pc := 26) (v := 0) dc_M_start_26 rfl ?_
  refine pf_siteCount (pc := 27) (v := 0) hA dc_M_start_27 fp_M_start_427 ?_
  refine g_aload_n (pc := 30) dc_M_start_30 rfl ?_
  refine g_iconst (pc := 31) (v := (-1)) dc_M_start_31 rfl ?_
  refine pf_otherTime (pc := 32) (v := none) hA dc_M_start_32 fp_M_start_430 ?_
  refine g_iconst (pc := 35) (v := 0) dc_M_start_35 rfl ?_
  refine g_istore_n (pc := 36) dc_M_start_36 (by decide) ?_
  show am_G X mt_M_start _ 37 [some (.ref 84), some (.int 0)] [] _ _
  have hma_S3 : mA [68, 73, 74] S2 (((S2.s_asked 0).s_siteCount 0).s_otherTime none) := ((((mA.rf S2).a_asked _ (by decide)).a_siteCount _ (by decide)).a_otherTime _ (by decide))
  have hk_S3_asked : (((S2.s_asked 0).s_siteCount 0).s_otherTime none).asked = 0 := rfl
  have hk_S3_siteCount : (((S2.s_asked 0).s_siteCount 0).s_otherTime none).siteCount = 0 := rfl
  have hk_S3_otherTime : (((S2.s_asked 0).s_siteCount 0).s_otherTime none).otherTime = none := rfl
  have hk_S3_isStarted : (((S2.s_asked 0).s_siteCount 0).s_otherTime none).isStarted = true := hk_S2_isStarted
  have hk_S3_clock : (((S2.s_asked 0).s_siteCount 0).s_otherTime none).clock = 0 := hk_S2_clock
  have hk_S3_knownCount : (((S2.s_asked 0).s_siteCount 0).s_otherTime none).knownCount = 0 := hk_S2_knownCount
  show am_G X mt_M_start _ 37 [some (.ref 84), some (.int 0)] [] (mput A (((S2.s_asked 0).s_siteCount 0).s_otherTime none) B) _
  generalize (((S2.s_asked 0).s_siteCount 0).s_otherTime none) = S3 at hma_S3 hk_S3_asked hk_S3_siteCount hk_S3_otherTime hk_S3_isStarted hk_S3_clock hk_S3_knownCount ⊢
  have hm3 : mA [2, 61, 62, 64, 68, 73, 74] S S3 := ((hma_S1.mo (by decide)).tr (hma_S2.mo (by decide))).tr (hma_S3.mo (by decide))
  refine l37_M_start (S := S3) (sett := sett) hA (ht.m hm3 (by decide)) (fun g hg => ?_) 4 0 S3.held (by omega) (fun j hj => absurd hj (by omega))
  have hm4 : mA [58] S3 (S3.s_held g) := (mA.rf S3).a_held _ (by decide)
  have hh4 : (S3.s_held g).held = g := rfl
  generalize (S3.s_held g) = S4 at hm4 hh4 ⊢
  have hm5 : mA [2, 58, 61, 62, 64, 68, 73, 74] S S4 := (hm3.mo (by decide)).tr (hm4.mo (by decide))
  have hl4 : hdM S4 sett := ⟨fun i hi => by rw [hh4]; exact hg i hi, ht.2⟩
  have hK4 : knM S4 T Y K00 := ⟨(hm4.knownCount (by decide)).trans hk_S3_knownCount, fun i hi => absurd hi (Nat.not_lt_zero i)⟩
  refine g_iconst (pc := 60) (v := 0) dc_M_start_60 rfl ?_
  refine g_istore_n (pc := 61) dc_M_start_61 (by decide) ?_
  show am_G X mt_M_start _ 62 [some (.ref 84), some (.int 0)] [] _ _
  refine am_G.mono (l62_M_start (lim := sett) hA hok Sd.length 0 S4 K00 (by omega) (hM.1.m hm5 (by decide) (by decide) (by decide) (by decide)) hK4 wf00.1 hl4 (hs.m hm5 (by decide) (by decide))) (fun r h9 hz => ?_)
  obtain ⟨y1, S1, y2, y3, y4, y5, y6⟩ := hz
  rw [List.drop_zero] at y1 y4 y5
  have hm6 : mA [2, 58, 61, 62, 63, 64, 65, 66, 67, 68, 73, 74] S S1 := (hm5.mo (by decide)).tr (y3.mo (by decide))
  refine ⟨y1, S1, y2, hm6, (y3.isStarted (by decide)).trans ((hm4.isStarted (by decide)).trans hk_S3_isStarted), ⟨⟨hM.1.m hm6 (by decide) (by decide) (by decide) (by decide), hM.2.1, hM.2.2.1, hM.2.2.2.m hm6 (by decide) (by decide) (by decide) (by decide) (by decide)⟩, hp.m hm6 (by decide) (by decide) (by decide) (by decide), hr.m hm6 (by decide) (by decide) (by decide), hl4.m y3 (by decide), y4, ⟨(y3.clock (by decide)).trans ((hm4.clock (by decide)).trans hk_S3_clock), (y3.asked (by decide)).trans ((hm4.asked (by decide)).trans hk_S3_asked), y6, (y3.otherTime (by decide)).trans ((hm4.otherTime (by decide)).trans hk_S3_otherTime), fun i hi => absurd hi (Nat.not_lt_zero i)⟩, ?_⟩, y5⟩
  exact siM.lkm Sd K00 ⟨[], fun _ => 0, [], (y3.siteCount (by decide)).trans ((hm4.siteCount (by decide)).trans hk_S3_siteCount), List.nodup_nil, ⟨Nat.le_refl _, List.nodup_nil, fun x hx => absurd hx List.not_mem_nil⟩, fun s hs9 => absurd hs9 (Nat.not_lt_zero s), fun i hi => absurd hi (Nat.not_lt_zero i)⟩
theorem c_M_clock (hA : A.length = 84) {ck : Nat} (hc : S.clock = ck) : am_C X mt_M_clock d [.ref 84] (mput A S B) (fun r h1 => r = some (.int (if S.isStarted = true then nI ck else -1)) ∧ h1 = mput A (S.s_fault 0) B) := by
  show am_G X mt_M_clock d 0 [some (.ref 84)] [] (mput A S B) _
  refine g_aload_n (pc := 0) dc_M_clock_0 rfl ?_
  refine g_iconst (pc := 1) (v := 0) dc_M_clock_1 rfl ?_
  refine pf_fault (pc := 2) (v := 0) hA dc_M_clock_2 fp_M_clock_1 ?_
  refine g_aload_n (pc := 5) dc_M_clock_5 rfl ?_
  refine g_getfield (pc := 6) dc_M_clock_6 fl_M_520 (mp_o hA) rfl ?_
  refine q_ifb_eq (pc := 9) (tgt := 19) dc_M_clock_9 rfl (fun hc9 => ?_) (fun hc9 => ?_)
  · refine g_iconst (pc := 19) (v := (-1)) dc_M_clock_19 rfl ?_
    exact g_ireturn dc_M_clock_20 rfl ⟨by rw [if_neg (by rw [show S.isStarted = false from hc9]; decide)], rfl⟩
  · refine g_aload_n (pc := 12) dc_M_clock_12 rfl ?_
    refine g_getfield (pc := 13) (v := .int (nI ck)) dc_M_clock_13 fl_M_433 (mp_o hA) (congrArg (fun z => some (Value.int (nI z))) hc) ?_
    refine g_goto (pc := 16) (tgt := 20) dc_M_clock_16 rfl ?_
    exact g_ireturn dc_M_clock_20 rfl ⟨by rw [if_pos (show S.isStarted = true from hc9)], rfl⟩
theorem wtc_le {st : Nat → Nat} : ∀ n, wtc st n ≤ n
  | 0 => Nat.le_refl _
  | n + 1 => by
    have := wtc_le (st := st) n
    show (if st n = 1 then wtc st n + 1 else wtc st n) ≤ n + 1
    split <;> omega
def cnt5 (P : List Pg) (Sd : List (List Int32)) (K : Kn) (an : Nat) (p : Int32) : Int32 := match ixo p 5 with
  | some 0 => nI P.length
  | some 1 => nI Sd.length
  | some 2 => nI K.ad.length
  | some 3 => nI (wtc K.st K.ad.length)
  | some (_ + 4) => nI an
  | none => -1
theorem l_M_count {Q : Option Value → List va_E → Prop} {v1 : Int32} (hA : A.length = 84) (hK : knM S T Y K) (hw : wfK K) (KK : am_G X mt_M_count (d + 1) 77 [some (.ref 84), some (.int v1), some (.int (nI (wtc K.st K.ad.length))), none] [] (mput A S B) Q) : ∀ (n i : Nat), i + n = K.ad.length → am_G X mt_M_count (d + 1) 45 [some (.ref 84), some (.int v1), some (.int (nI (wtc K.st i))), some (.int (nI i))] [] (mput A S B) Q
  | 0, i, e => by
    have h250 := hw.1
    obtain rfl : i = K.ad.length := by omega
    refine g_iload_n (pc := 45) dc_M_count_45 rfl ?_
    refine g_aload_n (pc := 46) dc_M_count_46 rfl ?_
    refine g_getfield (pc := 47) (v := .int (nI K.ad.length)) dc_M_count_47 fl_M_412 (mp_o hA) (congrArg (fun z => some (Value.int (nI z))) hK.1) ?_
    refine q_icmp_ge (pc := 50) (tgt := 77) K.ad.length K.ad.length dc_M_count_50 (by omega) (by omega) rfl (fun hc50 => ?_) (fun hc => absurd hc (by omega))
    refine am_wk (am_le_s (am_le_s (am_le_s (am_le_n am_le_0)))) ?_
    exact KK
  | n + 1, i, e => by
    have h250 := hw.1
    have hwl := wtc_le (st := K.st) i
    have hwi := hw.2.2.2 i (by omega)
    refine g_iload_n (pc := 45) dc_M_count_45 rfl ?_
    refine g_aload_n (pc := 46) dc_M_count_46 rfl ?_
    refine g_getfield (pc := 47) (v := .int (nI K.ad.length)) dc_M_count_47 fl_M_412 (mp_o hA) (congrArg (fun z => some (Value.int (nI z))) hK.1) ?_
    refine q_icmp_ge (pc := 50) (tgt := 77) i K.ad.length dc_M_count_50 (by omega) (by omega) rfl (fun hc => absurd hc (by omega)) (fun hc50 => ?_)
    refine g_aload_n (pc := 53) dc_M_count_53 rfl ?_
    refine g_iload_n (pc := 54) dc_M_count_54 rfl ?_
    refine g_iconst (pc := 55) (v := 1) dc_M_count_55 rfl ?_
    refine g_v2 (pc := 56) (M' := mt_M_of) dc_M_count_56 mo_M_of im_M_of se_M_of ln_M_415 (mp_o hA) rfl rfl (Nat.le_of_ble_eq_true rfl) (Nat.le_of_ble_eq_true rfl) (am_G.mono (c1_M_of (d := d) (i := i) hA hK (by omega) (by omega)) ?_)
    intro r h1 hq
    rw [hq.1, hq.2]
    clear hq h1 r
    refine ⟨am_nti _, ?_⟩
    refine g_iconst (pc := 59) (v := 1) dc_M_count_59 rfl ?_
    refine q_icmp_ne (pc := 60) (tgt := 69) (K.st i) 1 dc_M_count_60 (by omega) (by omega) rfl (fun hc60 => ?_) (fun hc60 => ?_)
    · refine g_iload_n (pc := 69) dc_M_count_69 rfl ?_
      refine g_istore_n (pc := 70) dc_M_count_70 (by decide) ?_
      show am_G X mt_M_count _ 71 [some (.ref 84), some (.int v1), some (.int (nI (wtc K.st i))), some (.int (nI i))] [] _ _
      refine g_iinc (pc := 71) (v := (nI (i + 1))) dc_M_count_71 rfl (nI_add i 1) (by decide) ?_
      show am_G X mt_M_count _ 74 [some (.ref 84), some (.int v1), some (.int (nI (wtc K.st i))), some (.int (nI (i + 1)))] [] _ _
      refine g_goto (pc := 74) (tgt := 45) dc_M_count_74 rfl ?_
      have e9 : wtc K.st (i + 1) = wtc K.st i := if_neg hc60
      rw [← e9]
      exact l_M_count hA hK hw KK n (i + 1) (by omega)
    · refine g_iload_n (pc := 63) dc_M_count_63 rfl ?_
      refine g_iconst (pc := 64) (v := 1) dc_M_count_64 rfl ?_
      refine g_iadd (pc := 65) (v := (nI (wtc K.st i + 1))) dc_M_count_65 (nI_add (wtc K.st i) 1) ?_
      refine g_goto (pc := 66) (tgt := 70) dc_M_count_66 rfl ?_
      refine g_istore_n (pc := 70) dc_M_count_70 (by decide) ?_
      show am_G X mt_M_count _ 71 [some (.ref 84), some (.int v1), some (.int (nI (wtc K.st i + 1))), some (.int (nI i))] [] _ _
      refine g_iinc (pc := 71) (v := (nI (i + 1))) dc_M_count_71 rfl (nI_add i 1) (by decide) ?_
      show am_G X mt_M_count _ 74 [some (.ref 84), some (.int v1), some (.int (nI (wtc K.st i + 1))), some (.int (nI (i + 1)))] [] _ _
      refine g_goto (pc := 74) (tgt := 45) dc_M_count_74 rfl ?_
      have e9 : wtc K.st (i + 1) = wtc K.st i + 1 := if_pos hc60
      rw [← e9]
      exact l_M_count hA hK hw KK n (i + 1) (by omega)
theorem c_M_count {an : Nat} (hA : A.length = 84) (hP : S.pageCount = P.length) (hS : S.seedCount = Sd.length) (hK : knM S T Y K) (hw : wfK K) (ha : S.asked = an) : am_C X mt_M_count (d + 1) [.ref 84, .int p] (mput A S B) (fun r h1 => r = some (.int (cnt5 P Sd K an p)) ∧ h1 = mput A (S.s_fault 0) B) := by
  show am_G X mt_M_count (d + 1) 0 [some (.ref 84), some (.int p), none, none] [] (mput A S B) _
  have h250 := hw.1
  have hm0 : mA [2] S (S.s_fault 0) := (mA.rf S).a_fault _ (by decide)
  have hK0 := hK.m hm0 (by decide) (by decide)
  cases e : ixo p 5 with
  | none =>
    have hout := ixo_n (by decide) e
    have e5 : cnt5 P Sd K an p = -1 := by unfold cnt5; rw [e]
    rw [e5]
    have hn0 : ¬ p = 0 := fun h9 => by rw [h9] at e; cases e
    have hn1 : ¬ p = 1 := fun h9 => by rw [h9] at e; cases e
    refine g_aload_n (pc := 0) dc_M_count_0 rfl ?_
    refine g_iconst (pc := 1) (v := 0) dc_M_count_1 rfl ?_
    refine pf_fault (pc := 2) (v := 0) hA dc_M_count_2 fp_M_count_1 ?_
    refine g_iload_n (pc := 5) dc_M_count_5 rfl ?_
    refine g_if_eq (pc := 6) (tgt := 14) dc_M_count_6 rfl (fun hc => absurd hc (hn0)) (fun hc6 => ?_)
    refine g_iload_n (pc := 9) dc_M_count_9 rfl ?_
    refine g_iconst (pc := 10) (v := 1) dc_M_count_10 rfl ?_
    refine g_icmp_ne (pc := 11) (tgt := 30) dc_M_count_11 rfl (fun hc11 => ?_) (fun hc => absurd hc (hn1))
    refine g_iload_n (pc := 30) dc_M_count_30 rfl ?_
    refine g_if_lt (pc := 31) (tgt := 39) dc_M_count_31 rfl (fun hc31 => ?_) (fun hc31 => ?_)
    · have hi31 : (p).toInt < (0 : Int) := Int32.lt_iff_toInt_lt.mp hc31
      refine g_iconst (pc := 39) (v := (-1)) dc_M_count_39 rfl ?_
      exact g_ireturn dc_M_count_40 rfl ⟨rfl, rfl⟩
    · have hi31 : ¬ ((p).toInt < (0 : Int)) := fun h9 => hc31 (Int32.lt_iff_toInt_lt.mpr h9)
      refine g_iload_n (pc := 34) dc_M_count_34 rfl ?_
      refine g_iconst (pc := 35) (v := 4) dc_M_count_35 rfl ?_
      refine g_icmp_le (pc := 36) (tgt := 41) dc_M_count_36 rfl (fun hc => absurd hc (fun h8 => absurd (hout.resolve_left hc31) (Int32.not_le.mpr (Int32.lt_of_le_of_lt h8 (by decide))))) (fun hc36 => ?_)
      refine g_iconst (pc := 39) (v := (-1)) dc_M_count_39 rfl ?_
      exact g_ireturn dc_M_count_40 rfl ⟨rfl, rfl⟩
  | some k =>
    obtain ⟨hk5, rfl⟩ := ixo_s e
    rcases (by omega : k = 0 ∨ k = 1 ∨ k = 2 ∨ k = 3 ∨ k = 4) with rfl | rfl | rfl | rfl | rfl
    · have e5 : cnt5 P Sd K an (nI 0) = nI P.length := by unfold cnt5; rw [e]
      rw [e5]
      show am_G X mt_M_count (d + 1) 0 [some (.ref 84), some (.int 0), none, none] [] (mput A S B) _
      refine g_aload_n (pc := 0) dc_M_count_0 rfl ?_
      refine g_iconst (pc := 1) (v := 0) dc_M_count_1 rfl ?_
      refine pf_fault (pc := 2) (v := 0) hA dc_M_count_2 fp_M_count_1 ?_
      refine g_iload_n (pc := 5) dc_M_count_5 rfl ?_
      refine g_if_eq (pc := 6) (tgt := 14) dc_M_count_6 rfl (fun _ => ?_) (fun hc => absurd hc (by decide))
      refine g_iload_n (pc := 14) dc_M_count_14 rfl ?_
      refine g_if_ne (pc := 15) (tgt := 25) dc_M_count_15 rfl (fun hc => absurd hc (by decide)) (fun _ => ?_)
      refine g_aload_n (pc := 18) dc_M_count_18 rfl ?_
      refine g_getfield (pc := 19) (v := .int (nI P.length)) dc_M_count_19 fl_M_312 (mp_o hA) (congrArg (fun z => some (Value.int (nI z))) hP) ?_
      refine g_goto (pc := 22) (tgt := 29) dc_M_count_22 rfl ?_
      exact g_ireturn dc_M_count_29 rfl ⟨rfl, rfl⟩
    · have e5 : cnt5 P Sd K an (nI 1) = nI Sd.length := by unfold cnt5; rw [e]
      rw [e5]
      show am_G X mt_M_count (d + 1) 0 [some (.ref 84), some (.int 1), none, none] [] (mput A S B) _
      refine g_aload_n (pc := 0) dc_M_count_0 rfl ?_
      refine g_iconst (pc := 1) (v := 0) dc_M_count_1 rfl ?_
      refine pf_fault (pc := 2) (v := 0) hA dc_M_count_2 fp_M_count_1 ?_
      refine g_iload_n (pc := 5) dc_M_count_5 rfl ?_
      refine g_if_eq (pc := 6) (tgt := 14) dc_M_count_6 rfl (fun hc => absurd hc (by decide)) (fun _ => ?_)
      refine g_iload_n (pc := 9) dc_M_count_9 rfl ?_
      refine g_iconst (pc := 10) (v := 1) dc_M_count_10 rfl ?_
      refine g_icmp_ne (pc := 11) (tgt := 30) dc_M_count_11 rfl (fun hc => absurd hc (by decide)) (fun _ => ?_)
      refine g_iload_n (pc := 14) dc_M_count_14 rfl ?_
      refine g_if_ne (pc := 15) (tgt := 25) dc_M_count_15 rfl (fun _ => ?_) (fun hc => absurd hc (by decide))
      refine g_aload_n (pc := 25) dc_M_count_25 rfl ?_
      refine g_getfield (pc := 26) (v := .int (nI Sd.length)) dc_M_count_26 fl_M_517 (mp_o hA) (congrArg (fun z => some (Value.int (nI z))) hS) ?_
      exact g_ireturn dc_M_count_29 rfl ⟨rfl, rfl⟩
    · have e5 : cnt5 P Sd K an (nI 2) = nI K.ad.length := by unfold cnt5; rw [e]
      rw [e5]
      show am_G X mt_M_count (d + 1) 0 [some (.ref 84), some (.int 2), none, none] [] (mput A S B) _
      refine g_aload_n (pc := 0) dc_M_count_0 rfl ?_
      refine g_iconst (pc := 1) (v := 0) dc_M_count_1 rfl ?_
      refine pf_fault (pc := 2) (v := 0) hA dc_M_count_2 fp_M_count_1 ?_
      refine g_iload_n (pc := 5) dc_M_count_5 rfl ?_
      refine g_if_eq (pc := 6) (tgt := 14) dc_M_count_6 rfl (fun hc => absurd hc (by decide)) (fun _ => ?_)
      refine g_iload_n (pc := 9) dc_M_count_9 rfl ?_
      refine g_iconst (pc := 10) (v := 1) dc_M_count_10 rfl ?_
      refine g_icmp_ne (pc := 11) (tgt := 30) dc_M_count_11 rfl (fun _ => ?_) (fun hc => absurd hc (by decide))
      refine g_iload_n (pc := 30) dc_M_count_30 rfl ?_
      refine g_if_lt (pc := 31) (tgt := 39) dc_M_count_31 rfl (fun hc => absurd hc (by decide)) (fun _ => ?_)
      refine g_iload_n (pc := 34) dc_M_count_34 rfl ?_
      refine g_iconst (pc := 35) (v := 4) dc_M_count_35 rfl ?_
      refine g_icmp_le (pc := 36) (tgt := 41) dc_M_count_36 rfl (fun _ => ?_) (fun hc => absurd hc (by decide))
      refine g_iconst (pc := 41) (v := 0) dc_M_count_41 rfl ?_
      refine g_istore_n (pc := 42) dc_M_count_42 (by decide) ?_
      show am_G X mt_M_count _ 43 [some (.ref 84), some (.int 2), some (.int 0), none] [] _ _
      refine g_iconst (pc := 43) (v := 0) dc_M_count_43 rfl ?_
      refine g_istore_n (pc := 44) dc_M_count_44 (by decide) ?_
      show am_G X mt_M_count _ 45 [some (.ref 84), some (.int 2), some (.int 0), some (.int 0)] [] _ _
      refine l_M_count (S := S.s_fault 0) hA hK0 hw ?_ K.ad.length 0 (by omega)
      refine g_iload_n (pc := 77) dc_M_count_77 rfl ?_
      refine g_iconst (pc := 78) (v := 2) dc_M_count_78 rfl ?_
      refine g_icmp_ne (pc := 79) (tgt := 89) dc_M_count_79 rfl (fun hc => absurd hc (by decide)) (fun _ => ?_)
      refine g_aload_n (pc := 82) dc_M_count_82 rfl ?_
      refine g_getfield (pc := 83) (v := .int (nI K.ad.length)) dc_M_count_83 fl_M_412 (mp_o hA) (congrArg (fun z => some (Value.int (nI z))) hK.1) ?_
      refine g_goto (pc := 86) (tgt := 102) dc_M_count_86 rfl ?_
      exact g_ireturn dc_M_count_102 rfl ⟨rfl, rfl⟩
    · have e5 : cnt5 P Sd K an (nI 3) = nI (wtc K.st K.ad.length) := by unfold cnt5; rw [e]
      rw [e5]
      show am_G X mt_M_count (d + 1) 0 [some (.ref 84), some (.int 3), none, none] [] (mput A S B) _
      refine g_aload_n (pc := 0) dc_M_count_0 rfl ?_
      refine g_iconst (pc := 1) (v := 0) dc_M_count_1 rfl ?_
      refine pf_fault (pc := 2) (v := 0) hA dc_M_count_2 fp_M_count_1 ?_
      refine g_iload_n (pc := 5) dc_M_count_5 rfl ?_
      refine g_if_eq (pc := 6) (tgt := 14) dc_M_count_6 rfl (fun hc => absurd hc (by decide)) (fun _ => ?_)
      refine g_iload_n (pc := 9) dc_M_count_9 rfl ?_
      refine g_iconst (pc := 10) (v := 1) dc_M_count_10 rfl ?_
      refine g_icmp_ne (pc := 11) (tgt := 30) dc_M_count_11 rfl (fun _ => ?_) (fun hc => absurd hc (by decide))
      refine g_iload_n (pc := 30) dc_M_count_30 rfl ?_
      refine g_if_lt (pc := 31) (tgt := 39) dc_M_count_31 rfl (fun hc => absurd hc (by decide)) (fun _ => ?_)
      refine g_iload_n (pc := 34) dc_M_count_34 rfl ?_
      refine g_iconst (pc := 35) (v := 4) dc_M_count_35 rfl ?_
      refine g_icmp_le (pc := 36) (tgt := 41) dc_M_count_36 rfl (fun _ => ?_) (fun hc => absurd hc (by decide))
      refine g_iconst (pc := 41) (v := 0) dc_M_count_41 rfl ?_
      refine g_istore_n (pc := 42) dc_M_count_42 (by decide) ?_
      show am_G X mt_M_count _ 43 [some (.ref 84), some (.int 3), some (.int 0), none] [] _ _
      refine g_iconst (pc := 43) (v := 0) dc_M_count_43 rfl ?_
      refine g_istore_n (pc := 44) dc_M_count_44 (by decide) ?_
      show am_G X mt_M_count _ 45 [some (.ref 84), some (.int 3), some (.int 0), some (.int 0)] [] _ _
      refine l_M_count (S := S.s_fault 0) hA hK0 hw ?_ K.ad.length 0 (by omega)
      refine g_iload_n (pc := 77) dc_M_count_77 rfl ?_
      refine g_iconst (pc := 78) (v := 2) dc_M_count_78 rfl ?_
      refine g_icmp_ne (pc := 79) (tgt := 89) dc_M_count_79 rfl (fun _ => ?_) (fun hc => absurd hc (by decide))
      refine g_iload_n (pc := 89) dc_M_count_89 rfl ?_
      refine g_iconst (pc := 90) (v := 3) dc_M_count_90 rfl ?_
      refine g_icmp_ne (pc := 91) (tgt := 98) dc_M_count_91 rfl (fun hc => absurd hc (by decide)) (fun _ => ?_)
      refine g_iload_n (pc := 94) dc_M_count_94 rfl ?_
      refine g_goto (pc := 95) (tgt := 102) dc_M_count_95 rfl ?_
      exact g_ireturn dc_M_count_102 rfl ⟨rfl, rfl⟩
    · have e5 : cnt5 P Sd K an (nI 4) = nI an := by unfold cnt5; rw [e]
      rw [e5]
      show am_G X mt_M_count (d + 1) 0 [some (.ref 84), some (.int 4), none, none] [] (mput A S B) _
      refine g_aload_n (pc := 0) dc_M_count_0 rfl ?_
      refine g_iconst (pc := 1) (v := 0) dc_M_count_1 rfl ?_
      refine pf_fault (pc := 2) (v := 0) hA dc_M_count_2 fp_M_count_1 ?_
      refine g_iload_n (pc := 5) dc_M_count_5 rfl ?_
      refine g_if_eq (pc := 6) (tgt := 14) dc_M_count_6 rfl (fun hc => absurd hc (by decide)) (fun _ => ?_)
      refine g_iload_n (pc := 9) dc_M_count_9 rfl ?_
      refine g_iconst (pc := 10) (v := 1) dc_M_count_10 rfl ?_
      refine g_icmp_ne (pc := 11) (tgt := 30) dc_M_count_11 rfl (fun _ => ?_) (fun hc => absurd hc (by decide))
      refine g_iload_n (pc := 30) dc_M_count_30 rfl ?_
      refine g_if_lt (pc := 31) (tgt := 39) dc_M_count_31 rfl (fun hc => absurd hc (by decide)) (fun _ => ?_)
      refine g_iload_n (pc := 34) dc_M_count_34 rfl ?_
      refine g_iconst (pc := 35) (v := 4) dc_M_count_35 rfl ?_
      refine g_icmp_le (pc := 36) (tgt := 41) dc_M_count_36 rfl (fun _ => ?_) (fun hc => absurd hc (by decide))
      refine g_iconst (pc := 41) (v := 0) dc_M_count_41 rfl ?_
      refine g_istore_n (pc := 42) dc_M_count_42 (by decide) ?_
      show am_G X mt_M_count _ 43 [some (.ref 84), some (.int 4), some (.int 0), none] [] _ _
      refine g_iconst (pc := 43) (v := 0) dc_M_count_43 rfl ?_
      refine g_istore_n (pc := 44) dc_M_count_44 (by decide) ?_
      show am_G X mt_M_count _ 45 [some (.ref 84), some (.int 4), some (.int 0), some (.int 0)] [] _ _
      refine l_M_count (S := S.s_fault 0) hA hK0 hw ?_ K.ad.length 0 (by omega)
      refine g_iload_n (pc := 77) dc_M_count_77 rfl ?_
      refine g_iconst (pc := 78) (v := 2) dc_M_count_78 rfl ?_
      refine g_icmp_ne (pc := 79) (tgt := 89) dc_M_count_79 rfl (fun _ => ?_) (fun hc => absurd hc (by decide))
      refine g_iload_n (pc := 89) dc_M_count_89 rfl ?_
      refine g_iconst (pc := 90) (v := 3) dc_M_count_90 rfl ?_
      refine g_icmp_ne (pc := 91) (tgt := 98) dc_M_count_91 rfl (fun _ => ?_) (fun hc => absurd hc (by decide))
      refine g_aload_n (pc := 98) dc_M_count_98 rfl ?_
      refine g_getfield (pc := 99) (v := .int (nI an)) dc_M_count_99 fl_M_436 (mp_o hA) (congrArg (fun z => some (Value.int (nI z))) ha) ?_
      exact g_ireturn dc_M_count_102 rfl ⟨rfl, rfl⟩
end OP1
