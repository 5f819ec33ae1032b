/-! ===== the model asks for an address ===== -/
/-- the sites as they stand in the arrays -/
def siP (so sm : Nat → Int32) (T : List (List Int32)) (K : Kn) (cr : Option Nat) (Q : List (List Int32)) (tm : Nat → Nat) (J : List (List Int32)) : Prop := Q.Nodup ∧ (Q.length ≤ J.length ∧ J.Nodup ∧ ∀ x, x ∈ J → ∃ i, i < K.ad.length ∧ gT K.ad i = x ∧ ¬ K.st i = 1) ∧ (∀ s, s < Q.length → (∃ kb, kb < T.length ∧ so s = nI kb ∧ sit (gT T kb) = gT Q s) ∧ sm s = nI (tm s) ∧ (∃ i, i < K.ad.length ∧ sit (gT K.ad i) = gT Q s ∧ K.at i = some (tm s)) ∧ (∀ i, i < K.ad.length → sit (gT K.ad i) = gT Q s → lgv (K.at i) ≤ tm s + 1) ∧ lgv cr ≤ tm s + 1) ∧ ∀ i, i < K.ad.length → lgv cr < lgv (K.at i) → sit (gT K.ad i) ∈ Q
section AS2
variable {X : am_X} {d k ka i c1 : Nat} {A B h : List va_E} {S : MS} {T Y Q J : List (List Int32)} {K : Kn} {lim tm : Nat → Nat} {c : Cw} {cr : Option Nat} {D : List Int32} {so sm : Nat → Int32}
theorem lsf_found (h : siP so sm T K cr Q tm J) (hi : i < Q.length) (e : gT Q i = sit D) : lsf K cr D K.ad.length = some (tm i) := by
  obtain ⟨h1, h2, h3, h4⟩ := h
  obtain ⟨-, -, ⟨i0, a, b, c⟩, f, g⟩ := h3 i hi
  obtain ⟨k1, k2, k3⟩ := lsf_ge (K := K) (cr := cr) (D := D) K.ad.length
  have k4 := k2 i0 a (b.trans e)
  rw [c] at k4
  have k5 : lgv (some (tm i)) = tm i + 1 := rfl
  refine lgv_inj ?_
  rcases k3 with q | ⟨i1, x, y, q⟩
  · have : lgv (lsf K cr D K.ad.length) = lgv cr := by rw [q]
    omega
  · have := f i1 x (y.trans e.symm)
    rw [← q] at this
    omega
theorem lsf_new (h : siP so sm T K cr Q tm J) (hn : ∀ j, j < Q.length → ¬ gT Q j = sit D) : lsf K cr D K.ad.length = cr := by
  obtain ⟨h1, h2, h3, h4⟩ := h
  obtain ⟨k1, k2, k3⟩ := lsf_ge (K := K) (cr := cr) (D := D) K.ad.length
  rcases k3 with q | ⟨i1, x, y, q⟩
  · exact q
  · refine lgv_inj (Nat.le_antisymm (Nat.le_of_not_lt (fun h9 => ?_)) k1)
    rw [q] at h9
    obtain ⟨j, j1, j2⟩ := gT_in (h4 i1 x h9)
    exact hn j j1 (j2.trans y)
theorem siP.ask (h : siP so sm T K cr Q tm J) (hn : K.ad.Nodup) (hk : k < K.ad.length) (hst : K.st k = 1) (hJ : ¬ gT K.ad k ∈ J) (hka : ka < T.length) (hD : gT T ka = gT K.ad k) (hi : i ≤ Q.length) (hf : i < Q.length → gT Q i = sit (gT K.ad k)) (hnw : i = Q.length → ∀ j, j < Q.length → ¬ gT Q j = sit (gT K.ad k)) (hat : ∀ j z, j < K.ad.length → K.at j = some z → z < c1) (hcr : ∀ z, cr = some z → z ≤ c1) {K2 : Kn} (hK2 : K2.ad = K.ad ∧ K2.st = upf K.st k 5 ∧ K2.at = upf K.at k (some c1)) : siP (upd so i (nI ka)) (upd sm i (nI c1)) T K2 cr (if i = Q.length then Q ++ [sit (gT K.ad k)] else Q) (upf tm i c1) (gT K.ad k :: J) := by
  obtain ⟨h1, h2, h3, h4⟩ := h
  unfold siP
  rw [hK2.1, hK2.2.1, hK2.2.2]
  have hlcr : lgv cr ≤ c1 + 1 := by
    cases e : cr with
    | none => exact Nat.zero_le _
    | some z => have := hcr z e; show z + 1 ≤ c1 + 1; omega
  have hlat : ∀ j, j < K.ad.length → lgv (upf K.at k (some c1) j) ≤ c1 + 1 := fun j hj => by
    by_cases e : j = k
    · rw [e, upf_s]; exact Nat.le_refl _
    · rw [upf_n e]
      cases e2 : K.at j with
      | none => exact Nat.zero_le _
      | some z => have := hat j z hj e2; show z + 1 ≤ c1 + 1; omega
  have hQl : (if i = Q.length then Q ++ [sit (gT K.ad k)] else Q).length = if i = Q.length then Q.length + 1 else Q.length := by
    split
    · rw [List.length_append]; rfl
    · rfl
  have hQo : ∀ s, s < Q.length → gT (if i = Q.length then Q ++ [sit (gT K.ad k)] else Q) s = gT Q s := fun s hs => by
    split
    · exact gT_app hs
    · rfl
  have hQi : gT (if i = Q.length then Q ++ [sit (gT K.ad k)] else Q) i = sit (gT K.ad k) := by
    split
    · rename_i e; rw [e]; exact gT_new
    · exact hf (by omega)
  have hoth : ∀ s, s < Q.length → ¬ s = i → ¬ gT Q s = sit (gT K.ad k) := fun s hs hne e => by
    by_cases q : i = Q.length
    · exact hnw q s hs e
    · exact hne (gT_inj h1 hs (by omega) (e.trans (hf (by omega)).symm))
  have hmem : sit (gT K.ad k) ∈ (if i = Q.length then Q ++ [sit (gT K.ad k)] else Q) := by
    split
    · exact List.mem_append_right _ (List.mem_singleton_self _)
    · rw [← hf (by omega)]; exact gT_mem (by omega)
  refine ⟨?_, ⟨?_, List.nodup_cons.mpr ⟨hJ, h2.2.1⟩, fun x hx => ?_⟩, fun s hs => ?_, fun j hj hl => ?_⟩
  · split
    · rename_i e
      refine List.nodup_append.mpr ⟨h1, List.nodup_cons.mpr ⟨List.not_mem_nil, List.nodup_nil⟩, fun x hx y hy e9 => ?_⟩
      rw [List.mem_singleton.mp hy] at e9
      obtain ⟨j, j1, j2⟩ := gT_in hx
      exact hnw e j j1 (j2.trans e9)
    · exact h1
  · rw [hQl, List.length_cons]
    split <;> omega
  · rcases List.mem_cons.mp hx with e | e
    · exact ⟨k, hk, e.symm, by rw [upf_s]; decide⟩
    · obtain ⟨j, a, b, c⟩ := h2.2.2 x e
      refine ⟨j, a, b, ?_⟩
      by_cases q : j = k
      · rw [q, upf_s]; decide
      · rw [upf_n q]; exact c
  · by_cases e : s = i
    · subst e
      rw [upd_s, upd_s, upf_s, hQi]
      exact ⟨⟨ka, hka, rfl, by rw [hD]⟩, rfl, ⟨k, hk, rfl, upf_s⟩, fun j hj _ => hlat j hj, hlcr⟩
    · have hs2 : s < Q.length := by
        rw [hQl] at hs
        split at hs <;> omega
      rw [upd_n e, upd_n e, upf_n e, hQo s hs2]
      obtain ⟨a, b, ⟨i0, x, y, z⟩, f, g⟩ := h3 s hs2
      have hne : ∀ j, sit (gT K.ad j) = gT Q s → ¬ j = k := fun j hj q => hoth s hs2 e (by rw [← hj, q])
      exact ⟨a, b, ⟨i0, x, y, by rw [upf_n (hne i0 y)]; exact z⟩, fun j hj hq => by rw [upf_n (hne j hq)]; exact f j hj hq, g⟩
  · by_cases e : j = k
    · rw [e]; exact hmem
    · rw [upf_n e] at hl
      have := h4 j hj hl
      split
      · exact List.mem_append_left _ this
      · exact this
theorem siM_of {S : MS} (h : siP so sm T K cr Q tm J) (e1 : S.siteOf = so) (e2 : S.siteTime = sm) (e3 : S.siteCount = Q.length) : siM S T K cr := ⟨Q, tm, J, e3, h.1, h.2.1, by rw [e1, e2]; exact h.2.2.1, h.2.2.2⟩
def rwA (S : MS) (T : List (List Int32)) (c : Cw) : Prop := ∀ i, i < c.aq.length → S.askedClock i = nI (c.ac i) ∧ ∃ kb, kb < T.length ∧ S.askedAddress i = nI kb ∧ gT T kb = gT c.aq i
theorem w158_M_askFor {an sn c1 : Nat} (hA : A.length = 84) (h1 : S.clock = c1) (h2 : S.asked = an) (h3 : S.askedSince = sn) : am_G X mt_M_askFor (d + 3) 158 [some (.ref 84), some (.int (nI ka)), some (.int (nI i)), none] [] (mput A S B) (fun r h1 => r = none ∧ ∃ S1, h1 = mput A S1 B ∧ mA [62, 67, 68] S S1 ∧ S1.clock = c1 + 1 ∧ S1.asked = an + 1 ∧ S1.askedSince = sn + 1) := by
  refine g_aload_n (pc := 158) dc_M_askFor_158 rfl ?_
  refine g_dup (pc := 159) dc_M_askFor_159 rfl ?_
  refine g_getfield (pc := 160) (v := .int (nI an)) dc_M_askFor_160 fl_M_436 (mp_o hA) (congrArg (fun z => some (Value.int (nI z))) h2) ?_
  refine g_iconst (pc := 163) (v := 1) dc_M_askFor_163 rfl ?_
  refine g_iadd (pc := 164) (v := (nI (an + 1))) dc_M_askFor_164 (nI_add an 1) ?_
  refine pf_asked (pc := 165) (v := an + 1) hA dc_M_askFor_165 fp_M_askFor_436 ?_
  refine g_aload_n (pc := 168) dc_M_askFor_168 rfl ?_
  refine g_dup (pc := 169) dc_M_askFor_169 rfl ?_
  refine g_getfield (pc := 170) (v := .int (nI sn)) dc_M_askFor_170 fl_M_424 (mp_o hA) (congrArg (fun z => some (Value.int (nI z))) h3) ?_
  refine g_iconst (pc := 173) (v := 1) dc_M_askFor_173 rfl ?_
  refine g_iadd (pc := 174) (v := (nI (sn + 1))) dc_M_askFor_174 (nI_add sn 1) ?_
  refine pf_askedSince (pc := 175) (v := sn + 1) hA dc_M_askFor_175 fp_M_askFor_424 ?_
  refine g_aload_n (pc := 178) dc_M_askFor_178 rfl ?_
  refine g_dup (pc := 179) dc_M_askFor_179 rfl ?_
  refine g_getfield (pc := 180) (v := .int (nI c1)) dc_M_askFor_180 fl_M_433 (mp_o hA) (congrArg (fun z => some (Value.int (nI z))) h1) ?_
  refine g_iconst (pc := 183) (v := 1) dc_M_askFor_183 rfl ?_
  refine g_iadd (pc := 184) (v := (nI (c1 + 1))) dc_M_askFor_184 (nI_add c1 1) ?_
  refine pf_clock (pc := 185) (v := c1 + 1) hA dc_M_askFor_185 fp_M_askFor_433 ?_
  exact g_return dc_M_askFor_188 rfl ⟨rfl, _, rfl, (((mA.rf S).a_asked _ (by decide)).a_askedSince _ (by decide)).a_clock _ (by decide), rfl, rfl, rfl⟩
theorem w125_M_askFor {an sn c1 : Nat} (hA : A.length = 84) (h1 : S.clock = c1) (h2 : S.asked = an) (h3 : S.askedSince = sn) (hb : an < 2 ^ 20) : am_G X mt_M_askFor (d + 3) 125 [some (.ref 84), some (.int (nI ka)), some (.int (nI i)), none] [] (mput A S B) (fun r h1 => r = none ∧ ∃ S1, h1 = mput A S1 B ∧ mA [62, 67, 68, 69, 70] S S1 ∧ S1.clock = c1 + 1 ∧ S1.asked = an + 1 ∧ S1.askedSince = sn + 1 ∧ ((¬ an < 1000 ∧ S1.askedClock = S.askedClock ∧ S1.askedAddress = S.askedAddress) ∨ (an < 1000 ∧ S1.askedClock = upd S.askedClock an (nI c1) ∧ S1.askedAddress = upd S.askedAddress an (nI ka)))) := by
  refine g_aload_n (pc := 125) dc_M_askFor_125 rfl ?_
  refine g_getfield (pc := 126) (v := .int (nI an)) dc_M_askFor_126 fl_M_436 (mp_o hA) (congrArg (fun z => some (Value.int (nI z))) h2) ?_
  refine g_sipush (pc := 129) (v := 1000) dc_M_askFor_129 rfl ?_
  refine q_icmp_ge (pc := 132) (tgt := 158) an 1000 dc_M_askFor_132 (by omega) (by omega) rfl (fun hc132 => ?_) (fun hc132 => ?_)
  · refine am_G.mono (w158_M_askFor (S := S) hA h1 h2 h3) (fun r h9 hz => ?_)
    obtain ⟨y1, S1, y2, y3, y4, y5, y6⟩ := hz
    exact ⟨y1, S1, y2, y3.mo (by decide), y4, y5, y6, Or.inl ⟨by omega, y3.askedClock (by decide), y3.askedAddress (by decide)⟩⟩
  · refine g_aload_n (pc := 135) dc_M_askFor_135 rfl ?_
    refine g_getfield (pc := 136) dc_M_askFor_136 fl_M_362 (mp_o hA) rfl ?_
    refine g_aload_n (pc := 139) dc_M_askFor_139 rfl ?_
    refine g_getfield (pc := 140) (v := .int (nI an)) dc_M_askFor_140 fl_M_436 (mp_o hA) (congrArg (fun z => some (Value.int (nI z))) h2) ?_
    refine g_aload_n (pc := 143) dc_M_askFor_143 rfl ?_
    refine g_getfield (pc := 144) (v := .int (nI c1)) dc_M_askFor_144 fl_M_433 (mp_o hA) (congrArg (fun z => some (Value.int (nI z))) h1) ?_
    refine as_askedClock (pc := 147) an hA dc_M_askFor_147 (by omega) ?_
    refine g_aload_n (pc := 148) dc_M_askFor_148 rfl ?_
    refine g_getfield (pc := 149) dc_M_askFor_149 fl_M_365 (mp_o hA) rfl ?_
    refine g_aload_n (pc := 152) dc_M_askFor_152 rfl ?_
    refine g_getfield (pc := 153) (v := .int (nI an)) dc_M_askFor_153 fl_M_436 (mp_o hA) (congrArg (fun z => some (Value.int (nI z))) h2) ?_
    refine g_iload_n (pc := 156) dc_M_askFor_156 rfl ?_
    refine asE_askedAddress (pc := 157) an (g := upd S.askedAddress an (nI ka)) hA dc_M_askFor_157 (by omega) (rfl) ?_
    have hm9 : mA [69, 70] S ((S.s_askedClock (upd S.askedClock an (nI c1))).s_askedAddress (upd S.askedAddress an (nI ka))) := ((mA.rf S).a_askedClock _ (by decide)).a_askedAddress _ (by decide)
    refine am_G.mono (w158_M_askFor (S := ((S.s_askedClock (upd S.askedClock an (nI c1))).s_askedAddress (upd S.askedAddress an (nI ka)))) hA h1 h2 h3) (fun r h9 hz => ?_)
    obtain ⟨y1, S1, y2, y3, y4, y5, y6⟩ := hz
    exact ⟨y1, S1, y2, (hm9.mo (by decide)).tr (y3.mo (by decide)), y4, y5, y6, Or.inr ⟨hc132, y3.askedClock (by decide), y3.askedAddress (by decide)⟩⟩
theorem w83_M_askFor (hA : A.length = 84) (hT : adT S T) (hka : ka < T.length) (hD : gT T ka = gT K.ad k) (hw : wfK K) (hwc : wfC K c) (hl2 : lim 2 ≤ 1000) (hk : k < K.ad.length) (hst : K.st k = 1) (hS1 : S.clock = ckr lim K c (gT K.ad k)) (hS2 : S.asked = c.an) (hS3 : S.askedSince = c.sn) (hS4 : S.otherTime = c.cr) (hS5 : rwA S T c) (hQ0 : S.siteCount = Q.length) (hQl : Q.length < K.ad.length) (hJ : ¬ gT K.ad k ∈ J) (hQ : siP S.siteOf S.siteTime T K c.cr Q tm J) (hi : i ≤ Q.length) (hf : i < Q.length → gT Q i = sit (gT K.ad k)) (hnw : i = Q.length → ∀ j, j < Q.length → ¬ gT Q j = sit (gT K.ad k)) : am_G X mt_M_askFor (d + 3) 83 [some (.ref 84), some (.int (nI ka)), some (.int (nI i)), none] [] (mput A S B) (fun r h1 => r = none ∧ ∃ S1, h1 = mput A S1 B ∧ mA [62, 67, 68, 69, 70, 71, 72, 73] S S1 ∧ cwM S1 T (asC lim K c (gT K.ad k)) ∧ siM S1 T (stK (asK lim K c k) k 5) c.cr) := by
  have h250 := hw.1
  have hcb := ckr_bd (lim := lim) (D := gT K.ad k) hwc hl2
  have hc3 := hwc.2.2.1
  have hc4 := hwc.2.2.2.1
  have hc5 := hwc.2.2.2.2.1
  have hQ9 := hQ.ask (c1 := ckr lim K c (gT K.ad k)) (K2 := stK (asK lim K c k) k 5) hw.2.1 hk hst hJ hka hD hi hf hnw (fun j z hj hz => by have := hwc.1 j z hj hz; omega) (fun z hz => by have := hwc.2.1 z hz; omega) ⟨rfl, rfl, rfl⟩
  have hrow0 : ¬ c.an < 1000 → ∀ S9 : MS, S9.askedClock = S.askedClock → S9.askedAddress = S.askedAddress → rwA S9 T (asC lim K c (gT K.ad k)) := fun h9 S9 e1 e2 => by
    have ea : (asC lim K c (gT K.ad k)).aq = c.aq := if_neg h9
    unfold rwA
    rw [ea, e1, e2]
    intro j hj
    have := hS5 j hj
    refine ⟨this.1.trans ?_, this.2⟩
    show nI (c.ac j) = nI (upf c.ac c.an _ j)
    rw [upf_n (by omega)]
  have hrow1 : c.an < 1000 → ∀ S9 : MS, S9.askedClock = upd S.askedClock c.an (nI (ckr lim K c (gT K.ad k))) → S9.askedAddress = upd S.askedAddress c.an (nI ka) → rwA S9 T (asC lim K c (gT K.ad k)) := fun h9 S9 e1 e2 => by
    have ea : (asC lim K c (gT K.ad k)).aq = c.aq ++ [gT K.ad k] := if_pos h9
    unfold rwA
    rw [ea, e1, e2]
    intro j hj
    rw [List.length_append] at hj
    have hj2 : j < c.aq.length + 1 := hj
    have el : c.aq.length = c.an := by omega
    show upd S.askedClock c.an _ j = nI (upf c.ac c.an _ j) ∧ _
    by_cases e : j = c.an
    · rw [e, upd_s, upd_s, upf_s]
      refine ⟨rfl, ka, hka, rfl, ?_⟩
      rw [← el, gT_new]; exact hD
    · rw [upd_n e, upd_n e, upf_n e, gT_app (by omega)]
      exact hS5 j (by omega)
  refine g_aload_n (pc := 83) dc_M_askFor_83 rfl ?_
  refine g_getfield (pc := 84) dc_M_askFor_84 fl_M_368 (mp_o hA) rfl ?_
  refine g_iload_n (pc := 87) dc_M_askFor_87 rfl ?_
  refine g_iload_n (pc := 88) dc_M_askFor_88 rfl ?_
  refine as_siteOf (pc := 89) i hA dc_M_askFor_89 (by omega) ?_
  refine g_aload_n (pc := 90) dc_M_askFor_90 rfl ?_
  refine g_getfield (pc := 91) dc_M_askFor_91 fl_M_371 (mp_o hA) rfl ?_
  refine g_iload_n (pc := 94) dc_M_askFor_94 rfl ?_
  refine g_aload_n (pc := 95) dc_M_askFor_95 rfl ?_
  refine g_getfield (pc := 96) (v := .int (nI (ckr lim K c (gT K.ad k)))) dc_M_askFor_96 fl_M_433 (mp_o hA) (congrArg (fun z => some (Value.int (nI z))) hS1) ?_
  refine asE_siteTime (pc := 99) i (g := upd S.siteTime i (nI (ckr lim K c (gT K.ad k)))) hA dc_M_askFor_99 (by omega) (rfl) ?_
  refine g_aload_n (pc := 100) dc_M_askFor_100 rfl ?_
  refine g_iload_n (pc := 101) dc_M_askFor_101 rfl ?_
  refine g_aload_n (pc := 102) dc_M_askFor_102 rfl ?_
  refine g_getfield (pc := 103) (v := .int (nI Q.length)) dc_M_askFor_103 fl_M_427 (mp_o hA) (congrArg (fun z => some (Value.int (nI z))) hQ0) ?_
  refine q_icmp_ne (pc := 106) (tgt := 118) i Q.length dc_M_askFor_106 (by omega) (by omega) rfl (fun hc106 => ?_) (fun hc106 => ?_)
  · refine g_aload_n (pc := 118) dc_M_askFor_118 rfl ?_
    refine g_getfield (pc := 119) (v := .int (nI Q.length)) dc_M_askFor_119 fl_M_427 (mp_o hA) (congrArg (fun z => some (Value.int (nI z))) hQ0) ?_
    refine pf_siteCount (pc := 122) (v := Q.length) hA dc_M_askFor_122 fp_M_askFor_427 ?_
    have hm9 : mA [71, 72, 73] S (((S.s_siteOf (upd S.siteOf i (nI ka))).s_siteTime (upd S.siteTime i (nI (ckr lim K c (gT K.ad k))))).s_siteCount Q.length) := (((mA.rf S).a_siteOf _ (by decide)).a_siteTime _ (by decide)).a_siteCount _ (by decide)
    rw [if_neg (show ¬ i = Q.length by omega)] at hQ9
    refine am_G.mono (w125_M_askFor (S := (((S.s_siteOf (upd S.siteOf i (nI ka))).s_siteTime (upd S.siteTime i (nI (ckr lim K c (gT K.ad k))))).s_siteCount Q.length)) (an := c.an) (sn := c.sn) hA hS1 hS2 hS3 (by omega)) (fun r h9 hz => ?_)
    obtain ⟨y1, S1, y2, y3, y4, y5, y6, y7⟩ := hz
    have hr9 : rwA S1 T (asC lim K c (gT K.ad k)) := y7.elim (fun q => hrow0 q.1 S1 (q.2.1.trans rfl) (q.2.2.trans rfl)) (fun q => hrow1 q.1 S1 (q.2.1.trans rfl) (q.2.2.trans rfl))
    have ho9 : S1.otherTime = c.cr := (y3.otherTime (by decide)).trans hS4
    exact ⟨y1, S1, y2, (hm9.mo (by decide)).tr (y3.mo (by decide)), ⟨y4, y5, y6, ho9, hr9⟩, siM_of hQ9 (y3.siteOf (by decide)) (y3.siteTime (by decide)) (y3.siteCount (by decide))⟩
  · refine g_aload_n (pc := 109) dc_M_askFor_109 rfl ?_
    refine g_getfield (pc := 110) (v := .int (nI Q.length)) dc_M_askFor_110 fl_M_427 (mp_o hA) (congrArg (fun z => some (Value.int (nI z))) hQ0) ?_
    refine g_iconst (pc := 113) (v := 1) dc_M_askFor_113 rfl ?_
    refine g_iadd (pc := 114) (v := (nI (Q.length + 1))) dc_M_askFor_114 (nI_add Q.length 1) ?_
    refine g_goto (pc := 115) (tgt := 122) dc_M_askFor_115 rfl ?_
    refine pf_siteCount (pc := 122) (v := Q.length + 1) hA dc_M_askFor_122 fp_M_askFor_427 ?_
    have hm9 : mA [71, 72, 73] S (((S.s_siteOf (upd S.siteOf i (nI ka))).s_siteTime (upd S.siteTime i (nI (ckr lim K c (gT K.ad k))))).s_siteCount (Q.length + 1)) := (((mA.rf S).a_siteOf _ (by decide)).a_siteTime _ (by decide)).a_siteCount _ (by decide)
    rw [if_pos (show i = Q.length by omega)] at hQ9
    refine am_G.mono (w125_M_askFor (S := (((S.s_siteOf (upd S.siteOf i (nI ka))).s_siteTime (upd S.siteTime i (nI (ckr lim K c (gT K.ad k))))).s_siteCount (Q.length + 1))) (an := c.an) (sn := c.sn) hA hS1 hS2 hS3 (by omega)) (fun r h9 hz => ?_)
    obtain ⟨y1, S1, y2, y3, y4, y5, y6, y7⟩ := hz
    have hr9 : rwA S1 T (asC lim K c (gT K.ad k)) := y7.elim (fun q => hrow0 q.1 S1 (q.2.1.trans rfl) (q.2.2.trans rfl)) (fun q => hrow1 q.1 S1 (q.2.1.trans rfl) (q.2.2.trans rfl))
    have ho9 : S1.otherTime = c.cr := (y3.otherTime (by decide)).trans hS4
    exact ⟨y1, S1, y2, (hm9.mo (by decide)).tr (y3.mo (by decide)), ⟨y4, y5, y6, ho9, hr9⟩, siM_of hQ9 (y3.siteOf (by decide)) (y3.siteTime (by decide)) (by rw [y3.siteCount (by decide), List.length_append]; rfl)⟩
theorem c_M_askFor (hA : A.length = 84) (hT : adT S T) (hka : ka < T.length) (hD : gT T ka = gT K.ad k) (hw : wfK K) (hwc : wfC K c) (hl : hdM S lim) (hk : k < K.ad.length) (hst : K.st k = 1) (hc : cwM S T c) (hs : siM S T K c.cr) : am_C X mt_M_askFor (d + 3) [.ref 84, .int (nI ka)] (mput A S B) (fun r h1 => r = none ∧ ∃ S1, h1 = mput A S1 B ∧ mA [62, 67, 68, 69, 70, 71, 72, 73] S S1 ∧ cwM S1 T (asC lim K c (gT K.ad k)) ∧ siM S1 T (stK (asK lim K c k) k 5) c.cr) := by
  show am_G X mt_M_askFor (d + 3) 0 [some (.ref 84), some (.int (nI ka)), none, none] [] (mput A S B) _
  obtain ⟨Q, tm, J, ⟨hQl, hJ⟩, hQ0, hQ1, hQ2, hQ3, hQ4⟩ := hs.j hw.2.1 hk hst
  have hQ : siP S.siteOf S.siteTime T K c.cr Q tm J := ⟨hQ1, hQ2, hQ3, hQ4⟩
  have h250 := hw.1
  have hl2 := hl.2.2.2.1
  have hh2 := hl.1 2 (by decide)
  have hcb := ckr_bd (lim := lim) (D := gT K.ad k) hwc hl2
  have hc3 := hwc.2.2.1
  have hc4 := hwc.2.2.2.1
  obtain ⟨hS1, hS2, hS3, hS4, hS5⟩ := hc
  obtain ⟨oT, hoT⟩ : ∃ oT, oT = c.cr := ⟨_, rfl⟩
  have hcrb : ∀ z, oT = some z → z < 2 ^ 31 := fun z hz => by have := hwc.2.1 z (hoT.symm.trans hz); omega
  refine g_iconst (pc := 0) (v := 0) dc_M_askFor_0 rfl ?_
  refine g_istore_n (pc := 1) dc_M_askFor_1 (by decide) ?_
  show am_G X mt_M_askFor _ 2 [some (.ref 84), some (.int (nI ka)), some (.int 0), none] [] _ _
  refine l_M_askFor hA hT hka hQ0 (by omega) (fun s hs => (hQ3 s hs).1) ?_ Q.length 0 (by omega) (fun j hj => absurd hj (by omega))
  intro i hi hf hnw
  rw [hD] at hf hnw
  refine g_iload_n (pc := 30) dc_M_askFor_30 rfl ?_
  refine g_aload_n (pc := 31) dc_M_askFor_31 rfl ?_
  refine g_getfield (pc := 32) (v := .int (nI Q.length)) dc_M_askFor_32 fl_M_427 (mp_o hA) (congrArg (fun z => some (Value.int (nI z))) hQ0) ?_
  refine q_icmp_ge (pc := 35) (tgt := 47) i Q.length dc_M_askFor_35 (by omega) (by omega) rfl (fun hc35 => ?_) (fun hc35 => ?_)
  · refine g_aload_n (pc := 47) dc_M_askFor_47 rfl ?_
    refine g_getfield (pc := 48) (v := .int (er oT)) dc_M_askFor_48 fl_M_430 (mp_o hA) (congrArg (fun z => some (Value.int (er z))) (hS4.trans hoT.symm)) ?_
    refine g_istore_n (pc := 51) dc_M_askFor_51 (by decide) ?_
    show am_G X mt_M_askFor _ 52 [some (.ref 84), some (.int (nI ka)), some (.int (nI i)), some (.int (er oT))] [] _ _
    refine g_iload_n (pc := 52) dc_M_askFor_52 rfl ?_
    refine q_o_lt (pc := 53) (tgt := 83) dc_M_askFor_53 hcrb rfl (fun hc53 => ?_) (fun k53 hc53 => ?_)
    · rw [hc53]
      have hlf := lsf_new hQ (hnw (by omega))
      have hck : ckr lim K c (gT K.ad k) = c.ck := by unfold ckr; rw [hlf, ← hoT, hc53]
      refine am_wk (am_le_s (am_le_s (am_le_s (am_le_n am_le_0)))) ?_
      refine am_G.mono (w83_M_askFor (S := S) (tm := tm) (J := J) (Q := Q) hA hT hka hD hw hwc hl2 hk hst (by rw [hS1]; omega) hS2 hS3 hS4 hS5 hQ0 hQl hJ hQ hi hf hnw) (fun r h1 hz => ?_)
      obtain ⟨y1, S1, y2, y3, y4⟩ := hz
      exact ⟨y1, S1, y2, y3, y4⟩
    · rw [hc53]
      rw [show er (some k53) = nI k53 from rfl]
      have hk53 := hcrb k53 hc53
      have hz53 := hwc.2.1 k53 (hoT.symm.trans hc53)
      refine g_aload_n (pc := 56) dc_M_askFor_56 rfl ?_
      refine g_getfield (pc := 57) (v := .int (nI c.ck)) dc_M_askFor_57 fl_M_433 (mp_o hA) (congrArg (fun z => some (Value.int (nI z))) hS1) ?_
      refine g_iload_n (pc := 60) dc_M_askFor_60 rfl ?_
      refine g_aload_n (pc := 61) dc_M_askFor_61 rfl ?_
      refine g_getfield (pc := 62) dc_M_askFor_62 fl_M_350 (mp_o hA) rfl ?_
      refine g_iconst (pc := 65) (v := 2) dc_M_askFor_65 rfl ?_
      refine q_ialoadV (pc := 66) 2 dc_M_askFor_66 (mp_a hA 31 rfl) (by omega) (by omega) (v := (nI (lim 2))) hh2 ?_
      refine g_iadd (pc := 67) (v := (nI (k53 + (lim 2)))) dc_M_askFor_67 (nI_add k53 (lim 2)) ?_
      refine q_icmp_ge (pc := 68) (tgt := 83) c.ck (k53 + (lim 2)) dc_M_askFor_68 (by omega) (by omega) rfl (fun hc68 => ?_) (fun hc68 => ?_)
      · have hlf := lsf_new hQ (hnw (by omega))
        have hck : ckr lim K c (gT K.ad k) = max c.ck (k53 + lim 2) := by unfold ckr; rw [hlf, ← hoT, hc53]
        refine am_wk (am_le_s (am_le_s (am_le_s (am_le_n am_le_0)))) ?_
        refine am_G.mono (w83_M_askFor (S := S) (tm := tm) (J := J) (Q := Q) hA hT hka hD hw hwc hl2 hk hst (by rw [hS1]; omega) hS2 hS3 hS4 hS5 hQ0 hQl hJ hQ hi hf hnw) (fun r h1 hz => ?_)
        obtain ⟨y1, S1, y2, y3, y4⟩ := hz
        exact ⟨y1, S1, y2, y3, y4⟩
      · refine g_aload_n (pc := 71) dc_M_askFor_71 rfl ?_
        refine g_iload_n (pc := 72) dc_M_askFor_72 rfl ?_
        refine g_aload_n (pc := 73) dc_M_askFor_73 rfl ?_
        refine g_getfield (pc := 74) dc_M_askFor_74 fl_M_350 (mp_o hA) rfl ?_
        refine g_iconst (pc := 77) (v := 2) dc_M_askFor_77 rfl ?_
        refine q_ialoadV (pc := 78) 2 dc_M_askFor_78 (mp_a hA 31 rfl) (by omega) (by omega) (v := (nI (lim 2))) hh2 ?_
        refine g_iadd (pc := 79) (v := (nI (k53 + (lim 2)))) dc_M_askFor_79 (nI_add k53 (lim 2)) ?_
        refine pf_clock (pc := 80) (v := k53 + (lim 2)) hA dc_M_askFor_80 fp_M_askFor_433 ?_
        have hlf := lsf_new hQ (hnw (by omega))
        have hck : ckr lim K c (gT K.ad k) = max c.ck (k53 + lim 2) := by unfold ckr; rw [hlf, ← hoT, hc53]
        refine am_wk (am_le_s (am_le_s (am_le_s (am_le_n am_le_0)))) ?_
        refine am_G.mono (w83_M_askFor (S := S.s_clock (k53 + (lim 2))) (tm := tm) (J := J) (Q := Q) hA (hT.m (show mA [62] S (S.s_clock (k53 + (lim 2))) from (mA.rf S).a_clock _ (by decide)) (by decide) (by decide) (by decide) (by decide)) hka hD hw hwc hl2 hk hst (by show k53 + (lim 2) = _; omega) hS2 hS3 hS4 hS5 hQ0 hQl hJ hQ hi hf hnw) (fun r h1 hz => ?_)
        obtain ⟨y1, S1, y2, y3, y4⟩ := hz
        exact ⟨y1, S1, y2, ((show mA [62] S (S.s_clock (k53 + (lim 2))) from (mA.rf S).a_clock _ (by decide)).mo (by decide)).tr y3, y4⟩
  · have htb : tm i ≤ c.ck := by
      obtain ⟨i0, a, b9, c9⟩ := (hQ3 i hc35).2.2.1
      have := hwc.1 i0 _ a c9
      omega
    refine g_aload_n (pc := 38) dc_M_askFor_38 rfl ?_
    refine g_getfield (pc := 39) dc_M_askFor_39 fl_M_371 (mp_o hA) rfl ?_
    refine g_iload_n (pc := 42) dc_M_askFor_42 rfl ?_
    refine q_ialoadV (pc := 43) i dc_M_askFor_43 (mp_a hA 38 rfl) (by omega) (by omega) (v := (nI (tm i))) (hQ3 i hc35).2.1 ?_
    refine g_goto (pc := 44) (tgt := 51) dc_M_askFor_44 rfl ?_
    refine g_istore_n (pc := 51) dc_M_askFor_51 (by decide) ?_
    show am_G X mt_M_askFor _ 52 [some (.ref 84), some (.int (nI ka)), some (.int (nI i)), some (.int (nI (tm i)))] [] _ _
    refine g_iload_n (pc := 52) dc_M_askFor_52 rfl ?_
    refine q_if_lt (pc := 53) (tgt := 83) (tm i) dc_M_askFor_53 (by omega) rfl ?_
    refine g_aload_n (pc := 56) dc_M_askFor_56 rfl ?_
    refine g_getfield (pc := 57) (v := .int (nI c.ck)) dc_M_askFor_57 fl_M_433 (mp_o hA) (congrArg (fun z => some (Value.int (nI z))) hS1) ?_
    refine g_iload_n (pc := 60) dc_M_askFor_60 rfl ?_
    refine g_aload_n (pc := 61) dc_M_askFor_61 rfl ?_
    refine g_getfield (pc := 62) dc_M_askFor_62 fl_M_350 (mp_o hA) rfl ?_
    refine g_iconst (pc := 65) (v := 2) dc_M_askFor_65 rfl ?_
    refine q_ialoadV (pc := 66) 2 dc_M_askFor_66 (mp_a hA 31 rfl) (by omega) (by omega) (v := (nI (lim 2))) hh2 ?_
    refine g_iadd (pc := 67) (v := (nI (tm i + (lim 2)))) dc_M_askFor_67 (nI_add (tm i) (lim 2)) ?_
    refine q_icmp_ge (pc := 68) (tgt := 83) c.ck (tm i + (lim 2)) dc_M_askFor_68 (by omega) (by omega) rfl (fun hc68 => ?_) (fun hc68 => ?_)
    · have hlf := lsf_found hQ hc35 (hf hc35)
      have hck : ckr lim K c (gT K.ad k) = max c.ck (tm i + lim 2) := by unfold ckr; rw [hlf]
      refine am_wk (am_le_s (am_le_s (am_le_s (am_le_n am_le_0)))) ?_
      refine am_G.mono (w83_M_askFor (S := S) (tm := tm) (J := J) (Q := Q) hA hT hka hD hw hwc hl2 hk hst (by rw [hS1]; omega) hS2 hS3 hS4 hS5 hQ0 hQl hJ hQ hi hf hnw) (fun r h1 hz => ?_)
      obtain ⟨y1, S1, y2, y3, y4⟩ := hz
      exact ⟨y1, S1, y2, y3, y4⟩
    · refine g_aload_n (pc := 71) dc_M_askFor_71 rfl ?_
      refine g_iload_n (pc := 72) dc_M_askFor_72 rfl ?_
      refine g_aload_n (pc := 73) dc_M_askFor_73 rfl ?_
      refine g_getfield (pc := 74) dc_M_askFor_74 fl_M_350 (mp_o hA) rfl ?_
      refine g_iconst (pc := 77) (v := 2) dc_M_askFor_77 rfl ?_
      refine q_ialoadV (pc := 78) 2 dc_M_askFor_78 (mp_a hA 31 rfl) (by omega) (by omega) (v := (nI (lim 2))) hh2 ?_
      refine g_iadd (pc := 79) (v := (nI (tm i + (lim 2)))) dc_M_askFor_79 (nI_add (tm i) (lim 2)) ?_
      refine pf_clock (pc := 80) (v := tm i + (lim 2)) hA dc_M_askFor_80 fp_M_askFor_433 ?_
      have hlf := lsf_found hQ hc35 (hf hc35)
      have hck : ckr lim K c (gT K.ad k) = max c.ck (tm i + lim 2) := by unfold ckr; rw [hlf]
      refine am_wk (am_le_s (am_le_s (am_le_s (am_le_n am_le_0)))) ?_
      refine am_G.mono (w83_M_askFor (S := S.s_clock (tm i + (lim 2))) (tm := tm) (J := J) (Q := Q) hA (hT.m (show mA [62] S (S.s_clock (tm i + (lim 2))) from (mA.rf S).a_clock _ (by decide)) (by decide) (by decide) (by decide) (by decide)) hka hD hw hwc hl2 hk hst (by show tm i + (lim 2) = _; omega) hS2 hS3 hS4 hS5 hQ0 hQl hJ hQ hi hf hnw) (fun r h1 hz => ?_)
      obtain ⟨y1, S1, y2, y3, y4⟩ := hz
      exact ⟨y1, S1, y2, ((show mA [62] S (S.s_clock (tm i + (lim 2))) from (mA.rf S).a_clock _ (by decide)).mo (by decide)).tr y3, y4⟩
end AS2
