/-! ===== the model's readBeside ===== -/
def txO (A B : List va_E) (S : MS) (ca s : Nat) (L : List Int32) : Prop := ∀ S1 : MS, S1.coming = S.coming → S1.addresses = S.addresses → S1.texts = S.texts → S1.values = S.values → S1.decoded = S.decoded → tt (mput A S1 B) ca s L
theorem scA.eq {S S1 : MS} (h : scA S S1) : S1.coming = S.coming ∧ S1.addresses = S.addresses ∧ S1.texts = S.texts ∧ S1.values = S.values ∧ S1.decoded = S.decoded ∧ S1.addressAt = S.addressAt ∧ S1.addressLength = S.addressLength ∧ S1.addressCount = S.addressCount := by
  obtain ⟨m, ml, h, hl, p, pl, q, ql, nt, mk, rfl⟩ := h
  exact ⟨rfl, rfl, rfl, rfl, rfl, rfl, rfl, rfl⟩
theorem txO.sc {A B : List va_E} {S S1 : MS} {ca s : Nat} {L : List Int32} (h : txO A B S ca s L) (h1 : scA S S1) : txO A B S1 ca s L := fun S2 a1 a2 a3 a4 a5 => by
  obtain ⟨b1, b2, b3, b4, b5, -⟩ := h1.eq
  exact h S2 (a1.trans b1) (a2.trans b2) (a3.trans b3) (a4.trans b4) (a5.trans b5)
theorem txO.tt {A B : List va_E} {S : MS} {ca s : Nat} {L : List Int32} (h : txO A B S ca s L) : tt (mput A S B) ca s L := h S rfl rfl rfl rfl rfl
theorem adT.sc {S S1 : MS} {T : List (List Int32)} (h : adT S T) (h1 : scA S S1) : adT S1 T := by
  obtain ⟨b1, b2, b3, b4, b5, b6, b7, b8⟩ := h1.eq
  obtain ⟨a1, a2, a3⟩ := h
  exact ⟨b8.trans a1, by rw [b2, b6, b7]; exact a2, a3⟩
section UFM
variable {X : am_X} {d a s f t n : Nat} {A B : List va_E} {S : MS} {L : List Int32}
theorem c_M_unfold_path (hA : A.length = 84) (hbt : btg L) (ht : t ≤ L.length) (hba : 92 ≠ a) (hft : f ≤ t) (hx : tt (mput A S B) a s L) (hn : n + (t - f) ≤ 8400) : am_C X mt_M_unfold (d + 2) [.ref a, .int (nI (s + f)), .int (nI (s + t)), .ref 92, .int (nI n)] (mput A S B) (fun r h1 => r = some (.int (nI (n + (uf L f t).length))) ∧ h1 = mput A (S.s_path (wrt S.path n (uf L f t))) B) := by
  refine am_G.mono (c_M_unfold (cap2 := 8400) (g2 := S.path) hbt (by omega) ht hba hft hx (mp_a hA 8 rfl) hn) (fun r h1 hq => ⟨hq.1, ?_⟩)
  rw [hq.2]
  exact mp_set hA 8 (by decide) rfl
theorem c_M_unfold_query (hA : A.length = 84) (hbt : btg L) (ht : t ≤ L.length) (hba : 93 ≠ a) (hft : f ≤ t) (hx : tt (mput A S B) a s L) (hn : n + (t - f) ≤ 8400) : am_C X mt_M_unfold (d + 2) [.ref a, .int (nI (s + f)), .int (nI (s + t)), .ref 93, .int (nI n)] (mput A S B) (fun r h1 => r = some (.int (nI (n + (uf L f t).length))) ∧ h1 = mput A (S.s_query (wrt S.query n (uf L f t))) B) := by
  refine am_G.mono (c_M_unfold (cap2 := 8400) (g2 := S.query) hbt (by omega) ht hba hft hx (mp_a hA 9 rfl) hn) (fun r h1 hq => ⟨hq.1, ?_⟩)
  rw [hq.2]
  exact mp_set hA 9 (by decide) rfl
theorem c_M_unfold_pattern (hA : A.length = 84) (hbt : btg L) (ht : t ≤ L.length) (hba : 101 ≠ a) (hft : f ≤ t) (hx : tt (mput A S B) a s L) (hn : n + (t - f) ≤ 8000) : am_C X mt_M_unfold (d + 2) [.ref a, .int (nI (s + f)), .int (nI (s + t)), .ref 101, .int (nI n)] (mput A S B) (fun r h1 => r = some (.int (nI (n + (uf L f t).length))) ∧ h1 = mput A (S.s_pattern (wrt S.pattern n (uf L f t))) B) := by
  refine am_G.mono (c_M_unfold (cap2 := 8000) (g2 := S.pattern) hbt (by omega) ht hba hft hx (mp_a hA 17 rfl) hn) (fun r h1 hq => ⟨hq.1, ?_⟩)
  rw [hq.2]
  exact mp_set hA 17 (by decide) rfl
end UFM
theorem scA.h2 (S : MS) (a : Nat → Int32) (b : Nat) : scA S ((S.s_host a).s_hostLength b) := ⟨S.made, S.madeLength, a, b, S.path, S.pathLength, S.query, S.queryLength, S.neat, S.marks, rfl⟩
theorem scA.hh (S : MS) (a : Nat → Int32) (b : Nat) : scA S ((S.s_hostLength b).s_host a) := ⟨S.made, S.madeLength, a, b, S.path, S.pathLength, S.query, S.queryLength, S.neat, S.marks, rfl⟩
theorem scA.qq (S : MS) (a : Nat → Int32) (b : Option Nat) : scA S ((S.s_query a).s_queryLength b) := ⟨S.made, S.madeLength, S.host, S.hostLength, S.path, S.pathLength, a, b, S.neat, S.marks, rfl⟩
theorem scA.ql (S : MS) (b : Option Nat) : scA S (S.s_queryLength b) := ⟨S.made, S.madeLength, S.host, S.hostLength, S.path, S.pathLength, S.query, b, S.neat, S.marks, rfl⟩
def bmk (D : List Int32) : Nat := fw (nev 63) D (hen D) D.length
def bsP (L : List Int32) (f t : Nat) (D : List Int32) : List Int32 := if fw (nev 63) L f t = f then uf D (hen D) (bmk D) else if gx L f = 47 then uf L f (fw (nev 63) L f t) else uf D (hen D) (bw (nev 47) D (hen D) (bmk D)) ++ uf L f (fw (nev 63) L f t)
def bsQ (L : List Int32) (f t : Nat) (D : List Int32) : Option (List Int32) := if fw (nev 63) L f t < t then some (uf L (fw (nev 63) L f t) t) else if fw (nev 63) L f t = f ∧ bmk D < D.length then some (uf D (bmk D) D.length) else none
section BES
variable {X : am_X} {d s t ca f k : Nat} {A B : List va_E} {S : MS} {L D : List Int32} {T : List (List Int32)}
theorem q_M_readBeside (hA : A.length = 84) (hT : adT S T) (hk : k < T.length) (hD : gT T k = D) (hX : txO A B S ca s L) (hca : ca ≠ 92 ∧ ca ≠ 93) (hbL : btg L) (hbD : btg D) (hft : f ≤ t) (ht : t ≤ L.length) (hL8 : L.length ≤ 8000) (hok : hen D < D.length ∧ hen D ≤ 80) : am_G X mt_M_readBeside (d + 3) 224 [some (.ref 84), some (.ref ca), some (.int (nI (s + f))), some (.int (nI (s + t))), some (.int (nI k)), none, some (.int (nI ((ofs T k) + D.length))), none, some (.int (nI ((ofs T k) + (bmk D)))), some (.int (nI (s + (fw (nev 63) L f t)))), none] [] (mput A S B) (fun r h1 => ∃ S1, r = none ∧ h1 = mput A S1 B ∧ scA S S1 ∧ S1.host = S.host ∧ S1.hostLength = S.hostLength ∧ S1.path = S.path ∧ S1.pathLength = S.pathLength ∧ S1.queryLength = (bsQ L f t D).map List.length ∧ tx S1.query 0 ((bsQ L f t D).getD [])) := by
  have h8 := hT.2.2.2.1 k hk
  rw [hD] at h8
  have ho := adT.of hT k (by omega)
  have hTl := hT.2.2.1
  have hh := hen_bd h8.1
  have hbm := fw_bd (p := nev 63) (L := D) (f := hen D) (t := D.length) (by omega)
  rw [show fw (nev 63) D (hen D) D.length = bmk D from rfl] at hbm
  have hmb := fw_bd (p := nev 63) (L := L) hft
  have hbs : s + L.length < 2 ^ 30 := by obtain ⟨cp, g, -, -, q1, q2⟩ := hX.tt; omega
  have hta := hT.tt (B := B) hA hk
  rw [hD] at hta
  refine g_iload (pc := 224) dc_M_readBeside_224 rfl ?_
  refine g_iload_n (pc := 226) dc_M_readBeside_226 rfl ?_
  refine q_icmp_ge (pc := 227) (tgt := 249) (s + (fw (nev 63) L f t)) (s + t) dc_M_readBeside_227 (by omega) (by omega) rfl (fun hc227 => ?_) (fun hc227 => ?_)
  · refine g_iload (pc := 249) dc_M_readBeside_249 rfl ?_
    refine g_iload_n (pc := 251) dc_M_readBeside_251 rfl ?_
    refine q_icmp_ne (pc := 252) (tgt := 285) (s + (fw (nev 63) L f t)) (s + f) dc_M_readBeside_252 (by omega) (by omega) rfl (fun hc252 => ?_) (fun hc252 => ?_)
    · refine g_aload_n (pc := 285) dc_M_readBeside_285 rfl ?_
      refine g_iconst (pc := 286) (v := (-1)) dc_M_readBeside_286 rfl ?_
      refine pf_queryLength (pc := 287) (v := none) hA dc_M_readBeside_287 fp_M_readBeside_104 ?_
      exact g_return dc_M_readBeside_290 rfl ⟨_, rfl, rfl, scA.ql _ _, rfl, rfl, rfl, rfl, by rw [show bsQ L f t D = none from by unfold bsQ; rw [if_neg (by omega), if_neg (by omega)]]; rfl, by rw [show bsQ L f t D = none from by unfold bsQ; rw [if_neg (by omega), if_neg (by omega)]]; exact fun j hj => absurd hj (Nat.not_lt_zero j)⟩
    · refine g_iload (pc := 255) dc_M_readBeside_255 rfl ?_
      refine g_iload (pc := 257) dc_M_readBeside_257 rfl ?_
      refine q_icmp_ge (pc := 259) (tgt := 285) ((ofs T k) + (bmk D)) ((ofs T k) + D.length) dc_M_readBeside_259 (by omega) (by omega) rfl (fun hc259 => ?_) (fun hc259 => ?_)
      · refine g_aload_n (pc := 285) dc_M_readBeside_285 rfl ?_
        refine g_iconst (pc := 286) (v := (-1)) dc_M_readBeside_286 rfl ?_
        refine pf_queryLength (pc := 287) (v := none) hA dc_M_readBeside_287 fp_M_readBeside_104 ?_
        exact g_return dc_M_readBeside_290 rfl ⟨_, rfl, rfl, scA.ql _ _, rfl, rfl, rfl, rfl, by rw [show bsQ L f t D = none from by unfold bsQ; rw [if_neg (by omega), if_neg (by omega)]]; rfl, by rw [show bsQ L f t D = none from by unfold bsQ; rw [if_neg (by omega), if_neg (by omega)]]; exact fun j hj => absurd hj (Nat.not_lt_zero j)⟩
      · refine g_aload_n (pc := 262) dc_M_readBeside_262 rfl ?_
        refine g_aload_n (pc := 263) dc_M_readBeside_263 rfl ?_
        refine g_getfield (pc := 264) dc_M_readBeside_264 fl_M_41 (mp_o hA) rfl ?_
        refine g_iload (pc := 267) dc_M_readBeside_267 rfl ?_
        refine g_iload (pc := 269) dc_M_readBeside_269 rfl ?_
        refine g_aload_n (pc := 271) dc_M_readBeside_271 rfl ?_
        refine g_getfield (pc := 272) dc_M_readBeside_272 fl_M_101 (mp_o hA) rfl ?_
        refine g_iconst (pc := 275) (v := 0) dc_M_readBeside_275 rfl ?_
        refine g_s5 (pc := 276) (M' := mt_M_unfold) dc_M_readBeside_276 mo_M_unfold st_M_unfold ln_M_94 (Nat.le_of_ble_eq_true rfl) (Nat.le_of_ble_eq_true rfl) (am_G.mono (c_M_unfold_query (d := d) (S := S) (L := D) (f := bmk D) (t := D.length) (n := 0) (a := 87) (s := ofs T k) hA hbD (by omega) (by omega) (by omega) hta (by omega)) ?_)
        intro r h1 hq
        rw [hq.1, hq.2]
        clear hq h1 r
        refine ⟨am_nti _, ?_⟩
        rw [Nat.zero_add]
        refine pf_queryLength (pc := 279) (v := some ((uf D (bmk D) D.length).length)) hA dc_M_readBeside_279 fp_M_readBeside_104 ?_
        refine g_goto (pc := 282) (tgt := 290) dc_M_readBeside_282 rfl ?_
        exact g_return dc_M_readBeside_290 rfl ⟨_, rfl, rfl, scA.qq _ _ _, rfl, rfl, rfl, rfl, by rw [show bsQ L f t D = some (uf D (bmk D) D.length) from by unfold bsQ; rw [if_neg (by omega), if_pos ⟨by omega, by omega⟩]]; rfl, by rw [show bsQ L f t D = some (uf D (bmk D) D.length) from by unfold bsQ; rw [if_neg (by omega), if_pos ⟨by omega, by omega⟩]]; exact wrt_tx _ _ _⟩
  · refine g_aload_n (pc := 230) dc_M_readBeside_230 rfl ?_
    refine g_aload_n (pc := 231) dc_M_readBeside_231 rfl ?_
    refine g_iload (pc := 232) dc_M_readBeside_232 rfl ?_
    refine g_iload_n (pc := 234) dc_M_readBeside_234 rfl ?_
    refine g_aload_n (pc := 235) dc_M_readBeside_235 rfl ?_
    refine g_getfield (pc := 236) dc_M_readBeside_236 fl_M_101 (mp_o hA) rfl ?_
    refine g_iconst (pc := 239) (v := 0) dc_M_readBeside_239 rfl ?_
    refine g_s5 (pc := 240) (M' := mt_M_unfold) dc_M_readBeside_240 mo_M_unfold st_M_unfold ln_M_94 (Nat.le_of_ble_eq_true rfl) (Nat.le_of_ble_eq_true rfl) (am_G.mono (c_M_unfold_query (d := d) (S := S) (L := L) (f := fw (nev 63) L f t) (t := t) (n := 0) (a := ca) (s := s) hA hbL (by omega) (by omega) (by omega) hX.tt (by omega)) ?_)
    intro r h1 hq
    rw [hq.1, hq.2]
    clear hq h1 r
    refine ⟨am_nti _, ?_⟩
    rw [Nat.zero_add]
    refine pf_queryLength (pc := 243) (v := some ((uf L (fw (nev 63) L f t) t).length)) hA dc_M_readBeside_243 fp_M_readBeside_104 ?_
    refine g_goto (pc := 246) (tgt := 290) dc_M_readBeside_246 rfl ?_
    exact g_return dc_M_readBeside_290 rfl ⟨_, rfl, rfl, scA.qq _ _ _, rfl, rfl, rfl, rfl, by rw [show bsQ L f t D = some (uf L (fw (nev 63) L f t) t) from by unfold bsQ; rw [if_pos (by omega)]]; rfl, by rw [show bsQ L f t D = some (uf L (fw (nev 63) L f t) t) from by unfold bsQ; rw [if_pos (by omega)]]; exact wrt_tx _ _ _⟩
end BES
