/-! ===== take, step, run: the model ===== -/
theorem lkf_k {lim : Nat → Nat} {dp k : Nat} : ∀ (Ls : List (List Int32)) (K : Kn), k < K.ad.length → ¬ K.st k = 1 → k < (lkf lim dp Ls K).ad.length ∧ (lkf lim dp Ls K).st k = K.st k
  | [], K, h1, h2 => ⟨h1, rfl⟩
  | E :: Ls, K, h1, h2 => by
    have h := mee_k (lim := lim) (D := E) (dp := dp) (ch := 0) h1 h2
    have h3 := lkf_k (lim := lim) (dp := dp) Ls (mee lim E dp 0 K) h.1 (by rw [h.2.1]; exact h2)
    exact ⟨h3.1, h3.2.trans h.2.1⟩
/-- the model's crawl -/
def crM (S : MS) (T Y U : List (List Int32)) (P : List Pg) (Rs Rt : List (List Int32)) (lim : Nat → Nat) (K : Kn) (c : Cw) : Prop := tbM S T Y U ∧ pagM S T Y P ∧ rulM S T Y Rs Rt ∧ hdM S lim ∧ knM S T Y K ∧ cwM S T c ∧ siM S T K c.cr
def pgP (U : List (List Int32)) (P : List Pg) : Prop := ∀ j, j < P.length → pgU U (gP P j).1 (gP P j).2.2
theorem asK_wf {lim : Nat → Nat} {K : Kn} {c : Cw} {k : Nat} (h : wfK K) : wfK (asK lim K c k) := h
theorem ne51 {K : Kn} {k v i : Nat} (hv : ¬ v = 1) (h : ¬ upf K.st k 5 i = 1) : ¬ upf K.st k v i = 1 := by
  by_cases q : i = k
  · rw [q, upf_s]; exact hv
  · rw [upf_n q] at h ⊢; exact h
section STP
variable {X : am_X} {d k ka j i y : Nat} {A B h : List va_E} {S : MS} {T Y U Ls Rs Rt : List (List Int32)} {K V : Kn} {lim : Nat → Nat} {c : Cw} {P : List Pg} {D L : List Int32}
theorem stk_ne {v : Nat} (hv : ¬ v = 1) (h : ¬ K.st i = 1) : ¬ (stK K k v).st i = 1 := by
  show ¬ upf K.st k v i = 1
  by_cases q : i = k
  · rw [q, upf_s]; exact hv
  · rw [upf_n q]; exact h
theorem c_M_take (hA : A.length = 84) (hUl : U.length < 3500) (hY : yOK Y) (hpU : pgP U P) (hC : crM S T Y U P Rs Rt lim K c) (hw : wfK K) (hwc : wfC K c) (hk : k < K.ad.length) (hst : K.st k = 1) : am_C X mt_M_take (d + 10) [.ref 84, .int (nI k)] (mput A S B) (fun r h1 => r = some (.int (nI (tak lim P Rs Rt K c k).1)) ∧ ∃ S1 T1 K9, h1 = mput A S1 B ∧ mA XT S S1 ∧ tbM S1 T1 Y U ∧ T <+: T1 ∧ knM S1 T1 Y K9 ∧ ((tak lim P Rs Rt K c k).1 = 2 → K9.st k = 2) ∧ stK K9 k (tak lim P Rs Rt K c k).1 = (tak lim P Rs Rt K c k).2.1 ∧ cwM S1 T1 (tak lim P Rs Rt K c k).2.2 ∧ siM S1 T1 (tak lim P Rs Rt K c k).2.1 c.cr) := by
  show am_G X mt_M_take (d + 10) 0 [some (.ref 84), some (.int (nI k)), none, none, none, none, none] [] (mput A S B) _
  obtain ⟨hM, hp, hr, hl, hK, hc, hs⟩ := hC
  have hM0 := hM
  obtain ⟨hT, hok, hU, hX⟩ := hM
  have h250 := hw.1
  have hp6 := hp.2.1
  obtain ⟨ka, hka, hk0, hD⟩ := (hK.2 k hk).1
  have hnp : ∀ j, nbr (pad P) (gT K.ad k) = some j → j < 2 ^ 31 := fun j hj => by have := (nbr_s hj).1; rw [pad_len] at this; omega
  refine g_aload_n (pc := 0) dc_M_take_0 rfl ?_
  refine g_iload_n (pc := 1) dc_M_take_1 rfl ?_
  refine g_iconst (pc := 2) (v := 0) dc_M_take_2 rfl ?_
  refine g_v2 (pc := 3) (M' := mt_M_of) dc_M_take_3 mo_M_of im_M_of se_M_of ln_M_415 (mp_o hA) rfl rfl (Nat.le_of_ble_eq_true rfl) (Nat.le_of_ble_eq_true rfl) (am_G.mono (c_M_of (d := d + 9) (i := k) (w := 0) hA (by omega) (by decide) hk0) ?_)
  intro r h1 hq
  rw [hq.1, hq.2]
  clear hq h1 r
  refine ⟨am_nti _, ?_⟩
  refine g_istore_n (pc := 6) dc_M_take_6 (by decide) ?_
  show am_G X mt_M_take _ 7 [some (.ref 84), some (.int (nI k)), some (.int (nI ka)), none, none, none, none] [] _ _
  refine g_aload_n (pc := 7) dc_M_take_7 rfl ?_
  refine g_iload_n (pc := 8) dc_M_take_8 rfl ?_
  refine g_v1 (pc := 9) (M' := mt_M_judge) dc_M_take_9 mo_M_judge im_M_judge se_M_judge ln_M_439 (mp_o hA) rfl rfl (Nat.le_of_ble_eq_true rfl) (Nat.le_of_ble_eq_true rfl) (am_G.mono (c_M_judge (d := d + 2) hA hT hka (hok _ (gT_mem hka)) hX hY.1 (fun j hj => ⟨(hY.2 j hj).1, by have := (hY.2 j hj).2; omega⟩) hr) ?_)
  intro r h9 hz
  obtain ⟨hz1, S1, hz2, hz3, hz4, hz5⟩ := hz
  rw [hz1, hz2]
  clear hz1 hz2 h9 r
  rw [hD] at hz5
  have hm1 := hz3.m
  have hT1 := hT.m hm1 (by decide) (by decide) (by decide) (by decide)
  refine ⟨am_nt0, ?_⟩
  refine g_aload_n (pc := 12) dc_M_take_12 rfl ?_
  refine g_getfield (pc := 13) (v := .int (b1 (jgL (gT K.ad k) Rs Rt))) dc_M_take_13 fl_M_197 (mp_o hA) (congrArg (fun z => some (Value.int (b1 z))) hz5) ?_
  refine q_ifb_ne (pc := 16) (tgt := 21) dc_M_take_16 rfl (fun hc16 => ?_) (fun hc16 => ?_)
  · refine g_aload_n (pc := 21) dc_M_take_21 rfl ?_
    refine g_iload_n (pc := 22) dc_M_take_22 rfl ?_
    refine g_v1 (pc := 23) (M' := mt_M_askFor) dc_M_take_23 mo_M_askFor im_M_askFor se_M_askFor ln_M_443 (mp_o hA) rfl rfl (Nat.le_of_ble_eq_true rfl) (Nat.le_of_ble_eq_true rfl) (am_G.mono (c_M_askFor (d := d + 6) (K := K) (k := k) hA hT1 hka hD hw hwc (hl.m hm1 (by decide)) hk hst (hc.m hm1 (by decide) (by decide) (by decide) (by decide) (by decide) (by decide)) (hs.m hm1 (by decide) (by decide) (by decide))) ?_)
    intro r h9 hy9
    obtain ⟨q1, S2, q2, q3, q4, q5⟩ := hy9
    rw [q1, q2]
    clear q1 q2 h9 r
    have hm2 : mA XT S S2 := (hm1.mo (by decide)).tr (q3.mo (by decide))
    have hT2 := hT1.m q3 (by decide) (by decide) (by decide) (by decide)
    have hX2 := hX.m hm2 (by decide) (by decide) (by decide) (by decide) (by decide)
    have hp2 := hp.m hm2 (by decide) (by decide) (by decide) (by decide)
    have hl2 := hl.m hm2 (by decide)
    have hK2 : knM S2 T Y (asK lim K c k) := (hK.m hm1 (by decide) (by decide)).m q3 (by decide) (by decide)
    have hM2 : tbM S2 T Y U := ⟨hT2, hok, hU, hX2⟩
    refine ⟨am_nt0, ?_⟩
    refine g_aload_n (pc := 26) dc_M_take_26 rfl ?_
    refine g_iload_n (pc := 27) dc_M_take_27 rfl ?_
    refine g_v1 (pc := 28) (M' := mt_M_pageOf) dc_M_take_28 mo_M_pageOf im_M_pageOf se_M_pageOf ln_M_446 (mp_o hA) rfl rfl (Nat.le_of_ble_eq_true rfl) (Nat.le_of_ble_eq_true rfl) (am_G.mono (c_M_pageOf (d := d + 9) hA hT2 hka hp2) ?_)
    intro r h9 hq
    rw [hq.1, hq.2, hD]
    clear hq h9 r
    obtain ⟨oo, hoo⟩ : ∃ oo, oo = nbr (pad P) (gT K.ad k) := ⟨_, rfl⟩
    rw [← hoo]
    have hnp2 : ∀ j, oo = some j → j < 2 ^ 31 := fun j hj => hnp j (hoo.symm.trans hj)
    refine ⟨am_nti _, ?_⟩
    refine g_istore_n (pc := 31) dc_M_take_31 (by decide) ?_
    show am_G X mt_M_take _ 32 [some (.ref 84), some (.int (nI k)), some (.int (nI ka)), some (.int (er oo)), none, none, none] [] _ _
    refine g_iload_n (pc := 32) dc_M_take_32 rfl ?_
    refine q_o_ge (pc := 33) (tgt := 40) dc_M_take_33 hnp2 rfl (fun k33 hc33 => ?_) (fun hc33 => ?_)
    · rw [hc33]
      rw [show er (some k33) = nI k33 from rfl]
      have hk33 := hnp2 k33 hc33
      have hc33o := hc33
      have hc33 : nbr (pad P) (gT K.ad k) = some k33 := hoo.symm.trans hc33o
      have hj33 : k33 < P.length := by have := (nbr_s hc33).1; rw [pad_len] at this; exact this
      have ha33 : (gP P k33).1 = gT K.ad k := (pad_g hj33).symm.trans (nbr_s hc33).2
      have hu33 : pgU U (gT K.ad k) (gP P k33).2.2 := by rw [← ha33]; exact hpU k33 hj33
      have h599 := (hp2.2.2.2 k33 hj33).2.1.2
      refine g_aload_n (pc := 40) dc_M_take_40 rfl ?_
      refine g_getfield (pc := 41) dc_M_take_41 fl_M_341 (mp_o hA) rfl ?_
      refine g_iload_n (pc := 44) dc_M_take_44 rfl ?_
      refine q_ialoadV (pc := 45) k33 dc_M_take_45 (mp_a hA 27 rfl) (by omega) (by omega) (v := (nI ((gP P k33).2.1))) ((hp2.2.2.2 k33 hj33).2.1).1 ?_
      refine g_istore (pc := 46) dc_M_take_46 (by decide) ?_
      show am_G X mt_M_take _ 48 [some (.ref 84), some (.int (nI k)), some (.int (nI ka)), some (.int (nI k33)), some (.int (nI ((gP P k33).2.1))), none, none] [] _ _
      refine g_iload (pc := 48) dc_M_take_48 rfl ?_
      refine g_sipush (pc := 50) (v := 200) dc_M_take_50 rfl ?_
      refine q_icmp_ne (pc := 53) (tgt := 136) ((gP P k33).2.1) 200 dc_M_take_53 (by omega) (by omega) rfl (fun hc53 => ?_) (fun hc53 => ?_)
      · refine g_iload (pc := 136) dc_M_take_136 rfl ?_
        refine g_sipush (pc := 138) (v := 300) dc_M_take_138 rfl ?_
        refine q_icmp_lt (pc := 141) (tgt := 271) ((gP P k33).2.1) 300 dc_M_take_141 (by omega) (by omega) rfl (fun hc141 => ?_) (fun hc141 => ?_)
        · refine g_iconst (pc := 271) (v := 5) dc_M_take_271 rfl ?_
          have ht : tak lim P Rs Rt K c k = (5, stK (asK lim K c k) k 5, asC lim K c (gT K.ad k)) := by unfold tak; rw [if_pos hc16]; rw [hc33]; dsimp only; rw [if_neg (by omega), if_neg (by omega)]
          rw [ht]
          exact g_ireturn dc_M_take_272 rfl ⟨rfl, S2, T, asK lim K c k, rfl, hm2, hM2, List.prefix_refl T, hK2, fun h9 => (by cases h9), rfl, q4, q5⟩
        · refine g_iload (pc := 144) dc_M_take_144 rfl ?_
          refine g_sipush (pc := 146) (v := 400) dc_M_take_146 rfl ?_
          refine q_icmp_ge (pc := 149) (tgt := 271) ((gP P k33).2.1) 400 dc_M_take_149 (by omega) (by omega) rfl (fun hc149 => ?_) (fun hc149 => ?_)
          · refine g_iconst (pc := 271) (v := 5) dc_M_take_271 rfl ?_
            have ht : tak lim P Rs Rt K c k = (5, stK (asK lim K c k) k 5, asC lim K c (gT K.ad k)) := by unfold tak; rw [if_pos hc16]; rw [hc33]; dsimp only; rw [if_neg (by omega), if_neg (by omega)]
            rw [ht]
            exact g_ireturn dc_M_take_272 rfl ⟨rfl, S2, T, asK lim K c k, rfl, hm2, hM2, List.prefix_refl T, hK2, fun h9 => (by cases h9), rfl, q4, q5⟩
          · refine am_wk (am_le_s (am_le_s (am_le_s (am_le_s (am_le_n (am_le_n (am_le_n am_le_0))))))) ?_
            refine am_G.mono (w152_M_take (K := asK lim K c k) (d := d) hA hUl hY hM2 hka hD hK2 hw hl2 hk hp2 hj33 hu33) (fun r h9 hz => ?_)
            rcases hz with ⟨y1, y2, E, S3, T1, y3, y4, y5, y6, y7, y8⟩ | ⟨y1, y2, S3, y4, y5, y6, y7⟩
            · have y3b : ldl (gP P k33).2.2 (gT K.ad k) = some E := y3
              have y2b : K.ch k < lim 1 := y2
              have ht : tak lim P Rs Rt K c k = (3, mee lim E (K.dp k) (K.ch k + 1) (ldK (asK lim K c k) k E), asC lim K c (gT K.ad k)) := by unfold tak; rw [if_pos hc16, hc33]; dsimp only; rw [if_neg (by omega), if_pos ⟨by omega, by omega, y2b⟩, y3b]
              rw [ht]
              have hmk := mee_k (lim := lim) (D := E) (dp := K.dp k) (ch := K.ch k + 1) (k := k) (K := ldK (asK lim K c k) k E) hk (by show ¬ upf K.st k 3 k = 1; rw [upf_s]; decide)
              have hm9 : (mee lim E (K.dp k) (K.ch k + 1) (ldK (asK lim K c k) k E)).st k = 3 := hmk.2.1.trans (by show upf K.st k 3 k = 3; rw [upf_s])
              exact ⟨y1, S3, T1, _, y4, hm2.tr (y5.mo (by decide)), y6, y7, y8, fun h9 => (by cases h9), stK_id hm9, (q4.m y5 (by decide) (by decide) (by decide) (by decide) (by decide) (by decide)).pre y7, siM.met (((q5.m y5 (by decide) (by decide) (by decide)).pre y7).cg rfl rfl (fun i h9 => ne51 (by decide) h9))⟩
            · have ht : tak lim P Rs Rt K c k = (5, stK (asK lim K c k) k 5, asC lim K c (gT K.ad k)) := by
                unfold tak; rw [if_pos hc16, hc33]; dsimp only; rw [if_neg (by omega)]
                rcases y2 with q | q
                · have q2 : ¬ K.ch k < lim 1 := q
                  rw [if_neg (by omega)]
                · have q2 : ldl (gP P k33).2.2 (gT K.ad k) = none := q
                  split
                  · rw [q2]
                  · rfl
              rw [ht]
              exact ⟨y1, S3, T, asK lim K c k, y4, hm2.tr (y5.mo (by decide)), y6, List.prefix_refl T, y7, fun h9 => (by cases h9), rfl, q4.m y5 (by decide) (by decide) (by decide) (by decide) (by decide) (by decide), q5.m y5 (by decide) (by decide) (by decide)⟩
      · have ht : tak lim P Rs Rt K c k = (2, lkf lim (K.dp k + 1) (pgL (gP P k33).2.2 (gT K.ad k)) (txK (asK lim K c k) k (gP P k33).2.2), asC lim K c (gT K.ad k)) := by unfold tak; rw [if_pos hc16, hc33]; dsimp only; rw [if_pos hc53]
        rw [ht]
        refine am_wk (am_le_s (am_le_s (am_le_s (am_le_s (am_le_n (am_le_n (am_le_n am_le_0))))))) ?_
        refine am_G.mono (w56_M_take (K := asK lim K c k) (d := d) hA hUl hY hM2 hka hD hK2 hw hl2 hk hp2 hj33 hu33) (fun r h9 hz => ?_)
        obtain ⟨y1, S3, T1, y2, y3, y4, y5, y6⟩ := hz
        have hlk := lkf_k (lim := lim) (dp := K.dp k + 1) (k := k) (pgL (gP P k33).2.2 (gT K.ad k)) (txK (asK lim K c k) k (gP P k33).2.2) hk (by show ¬ upf K.st k 2 k = 1; rw [upf_s]; decide)
        have hl9 : (lkf lim (K.dp k + 1) (pgL (gP P k33).2.2 (gT K.ad k)) (txK (asK lim K c k) k (gP P k33).2.2)).st k = 2 := hlk.2.trans (by show upf K.st k 2 k = 2; rw [upf_s])
        exact ⟨y1, S3, T1, _, y2, hm2.tr (y3.mo (by decide)), y4, y5, y6, fun _ => hl9, stK_id hl9, (q4.m y3 (by decide) (by decide) (by decide) (by decide) (by decide) (by decide)).pre y5, siM.lkm _ _ (((q5.m y3 (by decide) (by decide) (by decide)).pre y5).cg rfl rfl (fun i h9 => ne51 (by decide) h9))⟩
    · rw [hc33]
      have hc33o := hc33
      have hc33 : nbr (pad P) (gT K.ad k) = none := hoo.symm.trans hc33o
      refine g_iconst (pc := 36) (v := 0) dc_M_take_36 rfl ?_
      refine g_goto (pc := 37) (tgt := 46) dc_M_take_37 rfl ?_
      refine g_istore (pc := 46) dc_M_take_46 (by decide) ?_
      show am_G X mt_M_take _ 48 [some (.ref 84), some (.int (nI k)), some (.int (nI ka)), some (.int (-1)), some (.int 0), none, none] [] _ _
      refine g_iload (pc := 48) dc_M_take_48 rfl ?_
      refine g_sipush (pc := 50) (v := 200) dc_M_take_50 rfl ?_
      refine g_icmp_ne (pc := 53) (tgt := 136) dc_M_take_53 rfl (fun _ => ?_) (fun hc => absurd hc (by decide))
      refine g_iload (pc := 136) dc_M_take_136 rfl ?_
      refine g_sipush (pc := 138) (v := 300) dc_M_take_138 rfl ?_
      refine g_icmp_lt (pc := 141) (tgt := 271) dc_M_take_141 rfl (fun _ => ?_) (fun hc => absurd hc (by decide))
      refine g_iconst (pc := 271) (v := 5) dc_M_take_271 rfl ?_
      have ht : tak lim P Rs Rt K c k = (5, stK (asK lim K c k) k 5, asC lim K c (gT K.ad k)) := by unfold tak; rw [if_pos hc16]; rw [hc33]
      rw [ht]
      exact g_ireturn dc_M_take_272 rfl ⟨rfl, S2, T, asK lim K c k, rfl, hm2, hM2, List.prefix_refl T, hK2, fun h9 => (by cases h9), rfl, q4, q5⟩
  · refine g_iconst (pc := 19) (v := 4) dc_M_take_19 rfl ?_
    have ht : tak lim P Rs Rt K c k = (4, stK K k 4, c) := by unfold tak; rw [if_neg (by rw [hc16]; decide)]
    rw [ht]
    exact g_ireturn dc_M_take_20 rfl ⟨rfl, S1, T, K, rfl, hm1.mo (by decide), ⟨hT1, hok, hU, hX.m hm1 (by decide) (by decide) (by decide) (by decide) (by decide)⟩, List.prefix_refl T, hK.m hm1 (by decide) (by decide), fun h9 => (by cases h9), rfl, hc.m hm1 (by decide) (by decide) (by decide) (by decide) (by decide) (by decide), (hs.m hm1 (by decide) (by decide) (by decide)).cg rfl rfl (fun i h9 => stk_ne (by decide) h9)⟩
/-- since saved: none -/
def snz (c : Cw) : Cw := (c.ck, c.an, 0, c.cr, c.aq, c.ac)
/-- the known, the crawl, the known as saved -/
abbrev Cr : Type := Kn × Cw × Kn
/-- one step: its answer, and the crawl behind it -/
def stp (lim : Nat → Nat) (P : List Pg) (Rs Rt : List (List Int32)) (q : Cr) : Option (Nat × Cr) := match nxw q.1 with
  | none => none
  | some k => some ((tak lim P Rs Rt q.1 q.2.1 k).1, if lim 3 ≤ (tak lim P Rs Rt q.1 q.2.1 k).2.2.sn then ((tak lim P Rs Rt q.1 q.2.1 k).2.1, snz (tak lim P Rs Rt q.1 q.2.1 k).2.2, (tak lim P Rs Rt q.1 q.2.1 k).2.1) else ((tak lim P Rs Rt q.1 q.2.1 k).2.1, (tak lim P Rs Rt q.1 q.2.1 k).2.2, q.2.2))
def svM (S : MS) (T Y : List (List Int32)) (V : Kn) : Prop := S.savedCount = V.ad.length ∧ knG S.saved T Y V
theorem svM.m {S1 : MS} {Z : List Nat} (h : svM S T Y V) (e : mA Z S S1) (h1 : ¬ 65 ∈ Z) (h2 : ¬ 66 ∈ Z) : svM S1 T Y V := by
  unfold svM at h ⊢
  rw [e.savedCount h2, e.saved h1]
  exact h
theorem svM.pre {T1 Y1 : List (List Int32)} (h : svM S T Y V) (hT : T <+: T1) (hY : Y <+: Y1) : svM S T1 Y1 V := ⟨h.1, h.2.pre hT hY⟩
/-- the model's crawl with what was saved -/
def cqM (S : MS) (T Y U : List (List Int32)) (P : List Pg) (Rs Rt : List (List Int32)) (lim : Nat → Nat) (q : Cr) : Prop := crM S T Y U P Rs Rt lim q.1 q.2.1 ∧ svM S T Y q.2.2
abbrev XQ : List Nat := [2, 5, 6, 7, 8, 9, 10, 11, 12, 13, 14, 15, 16, 17, 18, 27, 28, 29, 30, 31, 32, 33, 34, 35, 36, 37, 38, 39, 40, 41, 42, 43, 44, 45, 46, 47, 48, 49, 50, 55, 56, 62, 63, 64, 65, 66, 67, 68, 69, 70, 71, 72, 73]
theorem tak_st {v : Nat × Kn × Cw} (h : tak lim P Rs Rt K c k = v) : v.1 = 2 ∨ v.1 = 3 ∨ v.1 = 4 ∨ v.1 = 5 := by
  rw [← h]
  unfold tak
  repeat' split
  all_goals simp
theorem tak_sn {v : Nat × Kn × Cw} (h : tak lim P Rs Rt K c k = v) : v.2.2.sn ≤ c.sn + 1 ∧ v.2.2.cr = c.cr := by
  rw [← h]
  unfold tak
  repeat' split
  all_goals first | exact ⟨Nat.le_refl _, rfl⟩ | exact ⟨Nat.le_succ _, rfl⟩
abbrev XT2 : List Nat := [2, 5, 6, 7, 8, 9, 10, 11, 12, 13, 14, 15, 16, 17, 18, 27, 28, 29, 30, 31, 32, 33, 34, 35, 36, 37, 38, 39, 40, 41, 42, 43, 44, 45, 46, 47, 48, 49, 50, 55, 56, 62, 63, 64, 67, 68, 69, 70, 71, 72, 73]
theorem c_M_step {q : Cr} (hA : A.length = 84) (hUl : U.length < 3500) (hY : yOK Y) (hpU : pgP U P) (hC : cqM S T Y U P Rs Rt lim q) (hP : wfP P) (han : q.2.1.an < 128000) (hw : wfK q.1) (hwc : wfC q.1 q.2.1) (hbS : S.isStarted = true) : am_C X mt_M_step (d + 11) [.ref 84] (mput A S B) (fun r h1 => match stp lim P Rs Rt q with | none => r = some (.int (-1)) ∧ ∃ S1, h1 = mput A S1 B ∧ mA XQ S S1 ∧ cqM S1 T Y U P Rs Rt lim q | some z => r = some (.int (nI z.1)) ∧ ∃ S1 T1, h1 = mput A S1 B ∧ mA XQ S S1 ∧ T <+: T1 ∧ cqM S1 T1 Y U P Rs Rt lim z.2) := by
  show am_G X mt_M_step (d + 11) 0 [some (.ref 84), none, none] [] (mput A S B) _
  obtain ⟨K, c, V⟩ := q
  obtain ⟨hC, hV⟩ := hC
  have hC : crM S T Y U P Rs Rt lim K c := hC
  have hV : svM S T Y V := hV
  have hw : wfK K := hw
  have hwc : wfC K c := hwc
  obtain ⟨hM, hp, hr, hl, hK, hc, hs⟩ := hC
  have h250 := hw.1
  have hl3 := hl.1 3 (by decide)
  have hl9 := hl.2.2.2.2
  have hm0 : mA [2] S (S.s_fault 0) := (mA.rf S).a_fault _ (by decide)
  have hnx : ∀ k, nxw K = some k → k < 2 ^ 31 := fun k hk => by have := (nwf_b _ k hk).1; omega
  obtain ⟨hT, hok, hU, hX⟩ := hM
  have hC0 : crM (S.s_fault 0) T Y U P Rs Rt lim K c := ⟨⟨hT.m hm0 (by decide) (by decide) (by decide) (by decide), hok, hU, hX.m hm0 (by decide) (by decide) (by decide) (by decide) (by decide)⟩, hp.m hm0 (by decide) (by decide) (by decide) (by decide), hr.m hm0 (by decide) (by decide) (by decide), hl.m hm0 (by decide), hK.m hm0 (by decide) (by decide), hc.m hm0 (by decide) (by decide) (by decide) (by decide) (by decide) (by decide), hs.m hm0 (by decide) (by decide) (by decide)⟩
  have hV0 := hV.m hm0 (by decide) (by decide)
  have hsc : c.sn ≤ 128000 := by have := hwc.2.2.2.1; have := hwc.2.2.2.2.2.2; omega
  refine g_aload_n (pc := 0) dc_M_step_0 rfl ?_
  refine g_iconst (pc := 1) (v := 0) dc_M_step_1 rfl ?_
  refine pf_fault (pc := 2) (v := 0) hA dc_M_step_2 fp_M_step_1 ?_
  refine g_aload_n (pc := 5) dc_M_step_5 rfl ?_
  refine g_getfield (pc := 6) (v := .int 1) dc_M_step_6 fl_M_520 (mp_o hA) (congrArg (fun z => some (Value.int (b1 z))) hbS) ?_
  refine g_if_eq (pc := 9) (tgt := 19) dc_M_step_9 rfl (fun hc => absurd hc (by decide)) (fun _ => ?_)
  refine g_aload_n (pc := 12) dc_M_step_12 rfl ?_
  refine g_v0 (pc := 13) (M' := mt_M_next) dc_M_step_13 mo_M_next im_M_next se_M_next ln_M_458 (mp_o hA) rfl rfl (Nat.le_of_ble_eq_true rfl) (Nat.le_of_ble_eq_true rfl) (am_G.mono (c_M_next (d := d + 9) (S := S.s_fault 0) hA (hK.m hm0 (by decide) (by decide)) hw) ?_)
  intro r h9 hq
  rw [hq.1, hq.2]
  clear hq h9 r
  obtain ⟨oo, hoo⟩ : ∃ oo, oo = nxw K := ⟨_, rfl⟩
  rw [← hoo]
  have hnx2 : ∀ j, oo = some j → j < 2 ^ 31 := fun j hj => hnx j (hoo.symm.trans hj)
  refine ⟨am_nti _, ?_⟩
  refine g_goto (pc := 16) (tgt := 20) dc_M_step_16 rfl ?_
  refine g_istore_n (pc := 20) dc_M_step_20 (by decide) ?_
  show am_G X mt_M_step _ 21 [some (.ref 84), some (.int (er oo)), none] [] _ _
  refine g_iload_n (pc := 21) dc_M_step_21 rfl ?_
  refine q_o_ge (pc := 22) (tgt := 27) dc_M_step_22 hnx2 rfl (fun k22 hc22 => ?_) (fun hc22 => ?_)
  · rw [hc22]
    rw [show er (some k22) = nI k22 from rfl]
    have hk22 := hnx2 k22 hc22
    have hc22n : nxw K = some k22 := hoo.symm.trans hc22
    refine g_aload_n (pc := 27) dc_M_step_27 rfl ?_
    refine g_iload_n (pc := 28) dc_M_step_28 rfl ?_
    have hk22b := nwf_b _ k22 (show nwf K K.ad.length = some k22 from hc22n)
    obtain ⟨v, hv⟩ : ∃ v, v = tak lim P Rs Rt K c k22 := ⟨_, rfl⟩
    have hv2 := tak_st hv.symm
    have hv3 := tak_sn hv.symm
    have hv4 : v.1 ≤ 5 := by omega
    refine g_v1 (pc := 29) (M' := mt_M_take) dc_M_step_29 mo_M_take im_M_take se_M_take ln_M_526 (mp_o hA) rfl rfl (Nat.le_of_ble_eq_true rfl) (Nat.le_of_ble_eq_true rfl) (am_G.mono (c_M_take (d := d) (k := k22) (S := S.s_fault 0) hA hUl hY hpU hC0 hw hwc hk22b.1 hk22b.2) ?_)
    intro r h9 hz
    rw [← hv] at hz
    obtain ⟨hz1, S2, T1, K9, hz2, hz3, hz4, hz5, hz6, hz7, hz8, hz9, hza⟩ := hz
    rw [hz1, hz2]
    clear hz1 hz2 h9 r
    have hm2 : mA XQ S S2 := (hm0.mo (by decide)).tr (hz3.mo (by decide))
    have hk9 : k22 < 250 := by omega
    refine ⟨am_nti _, ?_⟩
    refine g_istore_n (pc := 32) dc_M_step_32 (by decide) ?_
    show am_G X mt_M_step _ 33 [some (.ref 84), some (.int (nI k22)), some (.int (nI v.1))] [] _ _
    refine g_aload_n (pc := 33) dc_M_step_33 rfl ?_
    refine g_getfield (pc := 34) dc_M_step_34 fl_M_356 (mp_o hA) rfl ?_
    refine g_bipush (pc := 37) (v := 6) dc_M_step_37 rfl ?_
    refine g_iload_n (pc := 39) dc_M_step_39 rfl ?_
    refine g_imul (pc := 40) (v := (nI (6 * k22))) dc_M_step_40 (pk_mul 6 k22) ?_
    refine g_iconst (pc := 41) (v := 1) dc_M_step_41 rfl ?_
    refine g_iadd (pc := 42) (v := (nI (6 * k22 + 1))) dc_M_step_42 (nI_add (6 * k22) 1) ?_
    refine g_iload_n (pc := 43) dc_M_step_43 rfl ?_
    refine as_known (pc := 44) (6 * k22 + 1) hA dc_M_step_44 (by omega) ?_
    have hm3 : mA [63] S2 (S2.s_known (upd S2.known (6 * k22 + 1) (nI v.1))) := (mA.rf S2).a_known _ (by decide)
    have hK3 : knM (S2.s_known (upd S2.known (6 * k22 + 1) (nI v.1))) T1 Y v.2.1 := by rw [← hz8]; exact ⟨hz6.1.trans (by rw [← show (stK K9 k22 v.1).ad = K9.ad from rfl]), hz6.2.stk hz7⟩
    have hm4 : mA XQ S (S2.s_known (upd S2.known (6 * k22 + 1) (nI v.1))) := hm2.tr (hm3.mo (by decide))
    have hC3 : crM (S2.s_known (upd S2.known (6 * k22 + 1) (nI v.1))) T1 Y U P Rs Rt lim v.2.1 v.2.2 := ⟨⟨hz4.1.m hm3 (by decide) (by decide) (by decide) (by decide), hz4.2.1, hz4.2.2.1, hz4.2.2.2.m hm3 (by decide) (by decide) (by decide) (by decide) (by decide)⟩, (hp.m hm4 (by decide) (by decide) (by decide) (by decide)).pre hz5 (List.prefix_refl Y), (hr.m hm4 (by decide) (by decide) (by decide)).pre hz5 (List.prefix_refl Y), hl.m hm4 (by decide), hK3, hz9.m hm3 (by decide) (by decide) (by decide) (by decide) (by decide) (by decide), by rw [hv3.2]; exact hza.m hm3 (by decide) (by decide) (by decide)⟩
    have hV3 : svM (S2.s_known (upd S2.known (6 * k22 + 1) (nI v.1))) T1 Y V := ((hV.m (hm0.mo (by decide : ∀ x, x ∈ [2] → x ∈ XT2)) (by decide) (by decide)).m (hz3.mo (by decide : ∀ x, x ∈ XT → x ∈ XT2)) (by decide) (by decide)).m hm3 (by decide) (by decide) |>.pre hz5 (List.prefix_refl Y)
    have hst : stp lim P Rs Rt (K, c, V) = some (v.1, if lim 3 ≤ v.2.2.sn then (v.2.1, snz v.2.2, v.2.1) else (v.2.1, v.2.2, V)) := by unfold stp; dsimp only; rw [hc22n, hv]
    have e9 : K9.ad = v.2.1.ad := by rw [← hz8]; rfl
    have hw9 : K9.ad.length ≤ 250 := by rw [e9, hv]; exact (tak_wf hl.2.1 hl.2.2.1 hl.2.2.2.1 hP hw hwc hk22b.1 han).1.1
    refine g_aload_n (pc := 45) dc_M_step_45 rfl ?_
    refine g_getfield (pc := 46) (v := .int (nI v.2.2.sn)) dc_M_step_46 fl_M_424 (mp_o hA) (congrArg (fun z => some (Value.int (nI z))) hz9.2.2.1) ?_
    refine g_aload_n (pc := 49) dc_M_step_49 rfl ?_
    refine g_getfield (pc := 50) dc_M_step_50 fl_M_350 (mp_o hA) rfl ?_
    refine g_iconst (pc := 53) (v := 3) dc_M_step_53 rfl ?_
    refine q_ialoadV (pc := 54) 3 dc_M_step_54 (mp_a hA 31 rfl) (by omega) (by omega) (v := (nI (lim 3))) ((hl.m hm2 (by decide)).1 3 (by decide)) ?_
    refine q_icmp_lt (pc := 55) (tgt := 62) v.2.2.sn (lim 3) dc_M_step_55 (by omega) (by omega) rfl (fun hc55 => ?_) (fun hc55 => ?_)
    · refine g_iload_n (pc := 62) dc_M_step_62 rfl ?_
      have hif : ¬ lim 3 ≤ v.2.2.sn := by omega
      rw [hst, if_neg hif]
      exact g_ireturn dc_M_step_63 rfl ⟨rfl, _, T1, rfl, hm4, hz5, hC3, hV3⟩
    · refine g_aload_n (pc := 58) dc_M_step_58 rfl ?_
      refine g_v0 (pc := 59) (M' := mt_M_save) dc_M_step_59 mo_M_save im_M_save se_M_save ln_M_523 (mp_o hA) rfl rfl (Nat.le_of_ble_eq_true rfl) (Nat.le_of_ble_eq_true rfl) (am_G.mono (c_M_save (d := d + 10) (S := (S2.s_known (upd S2.known (6 * k22 + 1) (nI v.1)))) hA hK3 (by rw [← hz8]; exact hw9)) ?_)
      intro r h9 hy9
      obtain ⟨q1, S4, q2, q3, q4, q5, q6⟩ := hy9
      rw [q1, q2]
      clear q1 q2 h9 r
      refine ⟨am_nt0, ?_⟩
      refine g_iload_n (pc := 62) dc_M_step_62 rfl ?_
      have hif : lim 3 ≤ v.2.2.sn := by omega
      rw [hst, if_pos hif]
      have hm5 : mA XQ S S4 := hm4.tr (q3.mo (by decide))
      obtain ⟨⟨t1, t2, t3, t4⟩, cp, cr, cl, ck, cc, cs⟩ := hC3
      have hc5 : cwM S4 T1 (snz v.2.2) := ⟨(q3.clock (by decide)).trans cc.1, (q3.asked (by decide)).trans cc.2.1, q6, (q3.otherTime (by decide)).trans cc.2.2.2.1, fun i hi => by
        have := cc.2.2.2.2 i hi
        rw [q3.askedClock (by decide), q3.askedAddress (by decide)]
        exact this⟩
      exact g_ireturn dc_M_step_63 rfl ⟨rfl, S4, T1, rfl, hm5, hz5, ⟨⟨t1.m q3 (by decide) (by decide) (by decide) (by decide), t2, t3, t4.m q3 (by decide) (by decide) (by decide) (by decide) (by decide)⟩, cp.m q3 (by decide) (by decide) (by decide) (by decide), cr.m q3 (by decide) (by decide) (by decide), cl.m q3 (by decide), ck.m q3 (by decide) (by decide), hc5, cs.m q3 (by decide) (by decide) (by decide)⟩, q4, q5⟩
  · rw [hc22]
    have hst : stp lim P Rs Rt (K, c, V) = none := by unfold stp; dsimp only; rw [← hoo, hc22]
    refine g_iconst (pc := 25) (v := (-1)) dc_M_step_25 rfl ?_
    exact g_ireturn dc_M_step_26 rfl (by rw [hst]; exact ⟨rfl, S.s_fault 0, rfl, hm0.mo (by decide), hC0, hV0⟩)
end STP
