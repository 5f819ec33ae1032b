/-! ===== the model's tags ===== -/
def bsH (D : List Int32) (bo : Option (List Int32)) (w : Option (List Int32)) : Option (List Int32) := match bo with
  | some b => some b
  | none => match w with
    | some M => mrr M 0 M.length (some D)
    | none => none
theorem bsO_h {L D : List Int32} {bo : Option (List Int32)} {p : Nat} : bsO L D bo p = bsH D bo ((nxW 22 L p).map (fun q => dcd L q.1 q.2)) := by
  unfold bsO bsH
  cases bo with
  | some b => rfl
  | none =>
    cases nxW 22 L p with
    | none => rfl
    | some q => rfl
def vlH (L : List Int32) (w : Option (Nat × Nat)) : List (List Int32) := match w with
  | some q => [dcd L q.1 q.2]
  | none => []
theorem pvl_h {L : List Int32} {p : Nat} : pvl L p = vlH L (nxW 28 L p) := rfl
theorem btg_dcd {L : List Int32} {t : Nat} (h : btg L) : ∀ n f : Nat, t - f ≤ n → btg (dcd L f t)
  | 0, f, hn => by rw [dcd_nil (by omega)]; exact btg_nil
  | n + 1, f, hn => by
    by_cases hf : f < t
    · have h1 := da_1 (L := L) (t := t) f hf
      rw [dcd_step hf]
      refine btg_app ?_ (btg_dcd h n _ (by omega))
      cases e : rfb L f t with
      | none => rw [db_n e]; exact btg_cons (h f) btg_nil
      | some q =>
        have hi := rfb_i hf e
        rw [db_s e]; exact btg_cons (bt_nI (by omega)) btg_nil
    · rw [dcd_nil (by omega)]; exact btg_nil
def hqK (S : MS) := (S.hasHref, S.hrefFrom, S.hrefEnd)
theorem hqK_valueAt (S : MS) (v : Nat → Int32) : hqK (S.s_valueAt v) = hqK S := rfl
theorem hqK_valueLength (S : MS) (v : Nat → Int32) : hqK (S.s_valueLength v) = hqK S := rfl
theorem hqK_values (S : MS) (v : Nat → Int32) : hqK (S.s_values v) = hqK S := rfl
theorem hqK_valueCount (S : MS) (v : Nat) : hqK (S.s_valueCount v) = hqK S := rfl
theorem hqK_byteValue (S : MS) (v : Int32) : hqK (S.s_byteValue v) = hqK S := rfl
theorem hqS.k {S S1 : MS} {s : Nat} {hq : Option (Nat × Nat)} (h : hqS S s hq) (e : hqK S1 = hqK S) : hqS S1 s hq := by
  have e1 : S1.hasHref = S.hasHref := congrArg (fun z => z.1) e
  have e2 : S1.hrefFrom = S.hrefFrom := congrArg (fun z => z.2.1) e
  have e3 : S1.hrefEnd = S.hrefEnd := congrArg (fun z => z.2.2) e
  unfold hqS at h ⊢
  rw [e1, e2, e3]
  exact h
section MTG
variable {X : am_X} {d s p f nf nt ka : Nat} {A B : List va_E} {L D : List Int32} {T V Wd : List (List Int32)} {bo : Option (List Int32)} {H : Option (Nat × Nat)}
theorem r_M_tagEnd {S : MS} (hA : A.length = 84) (hs : s + L.length ≤ 24000) (hX : tx S.texts s L) (hn : nf ≤ nt) (hnt : nt ≤ L.length) (hf : f ≤ L.length) : am_G X mt_M_tagEnd (d + 6) 366 [some (.ref 84), some (.int (nI (s + nf))), some (.int (nI (s + L.length))), none, none, some (.int (nI (s + f))), some (.int (nI (s + nt))), none, none] [] (mput A S B) (fun r h1 => r = some (.int (nI (s + rwT L nf nt false f))) ∧ h1 = mput A S B) := by
  refine g_aload_n (pc := 366) dc_M_tagEnd_366 rfl ?_
  refine g_getfield (pc := 367) dc_M_tagEnd_367 fl_M_140 (mp_o hA) rfl ?_
  refine g_iload_n (pc := 370) dc_M_tagEnd_370 rfl ?_
  refine g_iload (pc := 371) dc_M_tagEnd_371 rfl ?_
  refine g_ldcwS (pc := 373) 40 dc_M_tagEnd_373 (by decide) rfl rfl ?_
  refine g_s4 (pc := 376) (M' := mt_M_isWord) dc_M_tagEnd_376 mo_M_isWord st_M_isWord ln_M_83 (Nat.le_of_ble_eq_true rfl) (Nat.le_of_ble_eq_true rfl) (am_G.mono (t_M_isWord (i := 40) (f := nf) (t := nt) (tt_txt hA hX hs) (by decide) (by omega) (by omega)) ?_)
  intro r h1 hz
  rw [hz.1, hz.2, isw_40]
  clear hz h1 r
  refine ⟨am_nti _, ?_⟩
  refine q_ifb_ne (pc := 379) (tgt := 398) dc_M_tagEnd_379 rfl (fun hc379 => ?_) (fun hc379 => ?_)
  · refine g_iconst (pc := 398) (v := 1) dc_M_tagEnd_398 rfl ?_
    refine g_goto (pc := 399) (tgt := 403) dc_M_tagEnd_399 rfl ?_
    refine g_istore (pc := 403) dc_M_tagEnd_403 (by decide) ?_
    show am_G X mt_M_tagEnd _ 405 [some (.ref 84), some (.int (nI (s + nf))), some (.int (nI (s + L.length))), none, none, some (.int (nI (s + f))), some (.int (nI (s + nt))), none, some (.int 1)] [] _ _
    refine g_iload (pc := 405) dc_M_tagEnd_405 rfl ?_
    refine g_if_eq (pc := 407) (tgt := 423) dc_M_tagEnd_407 rfl (fun hc => absurd hc (by decide)) (fun _ => ?_)
    refine g_aload_n (pc := 410) dc_M_tagEnd_410 rfl ?_
    refine g_iload (pc := 411) dc_M_tagEnd_411 rfl ?_
    refine g_iload_n (pc := 413) dc_M_tagEnd_413 rfl ?_
    refine g_iload_n (pc := 414) dc_M_tagEnd_414 rfl ?_
    refine g_iload (pc := 415) dc_M_tagEnd_415 rfl ?_
    refine g_v4 (pc := 417) (M' := mt_M_rawEnd) dc_M_tagEnd_417 mo_M_rawEnd im_M_rawEnd se_M_rawEnd ln_M_307 (mp_o hA) rfl rfl (Nat.le_of_ble_eq_true rfl) (Nat.le_of_ble_eq_true rfl) (am_G.mono (c_M_rawEnd (nm := 18) (nw := 16) hA hX hs rlN_c hc379 hn hnt hf) ?_)
    intro r h1 hq
    rw [hq.1, hq.2]
    clear hq h1 r
    refine ⟨am_nti _, ?_⟩
    refine g_goto (pc := 420) (tgt := 425) dc_M_tagEnd_420 rfl ?_
    exact g_ireturn dc_M_tagEnd_425 rfl ⟨by rw [show rwT L nf nt false f = rwE 18 L f from by unfold rwT; rw [if_neg (fun h9 => h9.elim (by decide) (fun h8 => h8 (Or.inl hc379))), if_pos (by have h9 := (of_decide_eq_true hc379).1; have h8 : cln 16 = 6 := (by decide); omega)]], rfl⟩
  · refine g_aload_n (pc := 382) dc_M_tagEnd_382 rfl ?_
    refine g_getfield (pc := 383) dc_M_tagEnd_383 fl_M_140 (mp_o hA) rfl ?_
    refine g_iload_n (pc := 386) dc_M_tagEnd_386 rfl ?_
    refine g_iload (pc := 387) dc_M_tagEnd_387 rfl ?_
    refine g_ldcwS (pc := 389) 41 dc_M_tagEnd_389 (by decide) rfl rfl ?_
    refine g_s4 (pc := 392) (M' := mt_M_isWord) dc_M_tagEnd_392 mo_M_isWord st_M_isWord ln_M_83 (Nat.le_of_ble_eq_true rfl) (Nat.le_of_ble_eq_true rfl) (am_G.mono (t_M_isWord (i := 41) (f := nf) (t := nt) (tt_txt hA hX hs) (by decide) (by omega) (by omega)) ?_)
    intro r h1 hz
    rw [hz.1, hz.2, isw_41]
    clear hz h1 r
    refine ⟨am_nti _, ?_⟩
    refine q_ifb_eq (pc := 395) (tgt := 402) dc_M_tagEnd_395 rfl (fun hc395 => ?_) (fun hc395 => ?_)
    · refine g_iconst (pc := 402) (v := 0) dc_M_tagEnd_402 rfl ?_
      refine g_istore (pc := 403) dc_M_tagEnd_403 (by decide) ?_
      show am_G X mt_M_tagEnd _ 405 [some (.ref 84), some (.int (nI (s + nf))), some (.int (nI (s + L.length))), none, none, some (.int (nI (s + f))), some (.int (nI (s + nt))), none, some (.int 0)] [] _ _
      refine g_iload (pc := 405) dc_M_tagEnd_405 rfl ?_
      refine g_if_eq (pc := 407) (tgt := 423) dc_M_tagEnd_407 rfl (fun _ => ?_) (fun hc => absurd hc (by decide))
      refine g_iload (pc := 423) dc_M_tagEnd_423 rfl ?_
      exact g_ireturn dc_M_tagEnd_425 rfl ⟨by rw [show rwT L nf nt false f = f from if_pos (Or.inr (fun h9 => by rw [hc379, hc395] at h9; exact absurd h9 (by decide)))], rfl⟩
    · refine g_iconst (pc := 398) (v := 1) dc_M_tagEnd_398 rfl ?_
      refine g_goto (pc := 399) (tgt := 403) dc_M_tagEnd_399 rfl ?_
      refine g_istore (pc := 403) dc_M_tagEnd_403 (by decide) ?_
      show am_G X mt_M_tagEnd _ 405 [some (.ref 84), some (.int (nI (s + nf))), some (.int (nI (s + L.length))), none, none, some (.int (nI (s + f))), some (.int (nI (s + nt))), none, some (.int 1)] [] _ _
      refine g_iload (pc := 405) dc_M_tagEnd_405 rfl ?_
      refine g_if_eq (pc := 407) (tgt := 423) dc_M_tagEnd_407 rfl (fun hc => absurd hc (by decide)) (fun _ => ?_)
      refine g_aload_n (pc := 410) dc_M_tagEnd_410 rfl ?_
      refine g_iload (pc := 411) dc_M_tagEnd_411 rfl ?_
      refine g_iload_n (pc := 413) dc_M_tagEnd_413 rfl ?_
      refine g_iload_n (pc := 414) dc_M_tagEnd_414 rfl ?_
      refine g_iload (pc := 415) dc_M_tagEnd_415 rfl ?_
      refine g_v4 (pc := 417) (M' := mt_M_rawEnd) dc_M_tagEnd_417 mo_M_rawEnd im_M_rawEnd se_M_rawEnd ln_M_307 (mp_o hA) rfl rfl (Nat.le_of_ble_eq_true rfl) (Nat.le_of_ble_eq_true rfl) (am_G.mono (c_M_rawEnd (nm := 19) (nw := 17) hA hX hs rlN_s hc395 hn hnt hf) ?_)
      intro r h1 hq
      rw [hq.1, hq.2]
      clear hq h1 r
      refine ⟨am_nti _, ?_⟩
      refine g_goto (pc := 420) (tgt := 425) dc_M_tagEnd_420 rfl ?_
      exact g_ireturn dc_M_tagEnd_425 rfl ⟨by rw [show rwT L nf nt false f = rwE 19 L f from by unfold rwT; rw [if_neg (fun h9 => h9.elim (by decide) (fun h8 => h8 (Or.inr hc395))), if_neg (by have h9 := (of_decide_eq_true hc395).1; have h8 : cln 17 = 5 := (by decide); omega)]], rfl⟩
theorem b_M_tagEnd {S : MS} (hA : A.length = 84) (hbL : btg L) (hL8 : L.length ≤ 7999) (hs : s + L.length ≤ 24000) (hX : tx S.texts s L) (hR : rdS S T V Wd D bo) (hQ : hqS S s H) (hH : ∀ q, H = some q → q.1 ≤ q.2 ∧ q.2 ≤ L.length) (hn : nf ≤ nt) (hnt : nt ≤ L.length) (hf : f ≤ L.length) (hka : ka < T.length ∧ gT T ka = D) (hr : ∀ E, bo = none → bsH D bo (if isw 22 L nf nt = true then H.map (fun q => dcd L q.1 q.2) else none) = some E → E ∈ T ∨ T.length < 3500) : am_G X mt_M_tagEnd (d + 6) 280 [some (.ref 84), some (.int (nI (s + nf))), some (.int (nI (s + L.length))), none, some (.int (nI ka)), some (.int (nI (s + f))), some (.int (nI (s + nt))), none, none] [] (mput A S B) (fun r h1 => r = some (.int (nI (s + rwT L nf nt false f))) ∧ ∃ S1 T1, h1 = mput A S1 B ∧ pgA S S1 ∧ rdS S1 T1 V Wd D (bsH D bo (if isw 22 L nf nt = true then H.map (fun q => dcd L q.1 q.2) else none)) ∧ T <+: T1 ∧ ∀ x, x ∈ T1 → x ∈ T ∨ (bo = none ∧ bsH D bo (if isw 22 L nf nt = true then H.map (fun q => dcd L q.1 q.2) else none) = some x)) := by
  cases H with
  | none =>
    have e1 : S.hasHref = false := hQ.1
    refine g_aload_n (pc := 280) dc_M_tagEnd_280 rfl ?_
    refine g_getfield (pc := 281) (v := .int (b1 false)) dc_M_tagEnd_281 fl_M_272 (mp_o hA) (congrArg (fun z => some (Value.int (b1 z))) e1) ?_
    refine q_ifb_eq (pc := 284) (tgt := 366) dc_M_tagEnd_284 rfl (fun hc284 => ?_) (fun hc => absurd hc (by decide))
    refine am_wk (am_le_s (am_le_s (am_le_s (am_le_n (am_le_n (am_le_s (am_le_s (am_le_n (am_le_n am_le_0))))))))) ?_
    refine am_G.mono (r_M_tagEnd (S := S) hA hs hX hn hnt hf) (fun r h1 hz => ?_)
    obtain ⟨hz1, hz2⟩ := hz
    have ew : bsH D bo (if isw 22 L nf nt = true then (none : Option (Nat × Nat)).map (fun q => dcd L q.1 q.2) else none) = bo := by cases bo with | some b => rfl | none => by_cases h9 : isw 22 L nf nt = true <;> simp [bsH, h9]
    rw [ew]
    exact ⟨hz1, S, T, hz2, pgA.rf S, hR, List.prefix_rfl, fun x hx => Or.inl hx⟩
  | some q =>
    have e1 : S.hasHref = true := hQ.1
    have e2 := (hQ.2 q rfl).1
    have e3 := (hQ.2 q rfl).2
    have hqb := hH q rfl
    cases bo with
    | some b =>
      have e4 : S.hasBase = true := hR.2.2.2.2.1
      refine g_aload_n (pc := 280) dc_M_tagEnd_280 rfl ?_
      refine g_getfield (pc := 281) (v := .int (b1 true)) dc_M_tagEnd_281 fl_M_272 (mp_o hA) (congrArg (fun z => some (Value.int (b1 z))) e1) ?_
      refine q_ifb_eq (pc := 284) (tgt := 366) dc_M_tagEnd_284 rfl (fun hc => absurd hc (by decide)) (fun hc284 => ?_)
      refine g_aload_n (pc := 287) dc_M_tagEnd_287 rfl ?_
      refine g_getfield (pc := 288) (v := .int (b1 true)) dc_M_tagEnd_288 fl_M_251 (mp_o hA) (congrArg (fun z => some (Value.int (b1 z))) e4) ?_
      refine q_ifb_ne (pc := 291) (tgt := 366) dc_M_tagEnd_291 rfl (fun hc291 => ?_) (fun hc => absurd hc (by decide))
      refine am_wk (am_le_s (am_le_s (am_le_s (am_le_n (am_le_n (am_le_s (am_le_s (am_le_n (am_le_n am_le_0))))))))) ?_
      refine am_G.mono (r_M_tagEnd (S := S) hA hs hX hn hnt hf) (fun r h1 hz => ?_)
      obtain ⟨hz1, hz2⟩ := hz
      have ew : bsH D (some b) (if isw 22 L nf nt = true then (some q).map (fun q => dcd L q.1 q.2) else none) = some b := rfl
      rw [ew]
      exact ⟨hz1, S, T, hz2, pgA.rf S, hR, List.prefix_rfl, fun x hx => Or.inl hx⟩
    | none =>
      have e4 : S.hasBase = false := hR.2.2.2.2.1
      have hdl := dcd_len (L := L) (t := q.2) (q.2 - q.1) q.1 (Nat.le_refl _)
      refine g_aload_n (pc := 280) dc_M_tagEnd_280 rfl ?_
      refine g_getfield (pc := 281) (v := .int (b1 true)) dc_M_tagEnd_281 fl_M_272 (mp_o hA) (congrArg (fun z => some (Value.int (b1 z))) e1) ?_
      refine q_ifb_eq (pc := 284) (tgt := 366) dc_M_tagEnd_284 rfl (fun hc => absurd hc (by decide)) (fun hc284 => ?_)
      refine g_aload_n (pc := 287) dc_M_tagEnd_287 rfl ?_
      refine g_getfield (pc := 288) (v := .int (b1 false)) dc_M_tagEnd_288 fl_M_251 (mp_o hA) (congrArg (fun z => some (Value.int (b1 z))) e4) ?_
      refine q_ifb_ne (pc := 291) (tgt := 366) dc_M_tagEnd_291 rfl (fun hc => absurd hc (by decide)) (fun hc291 => ?_)
      refine g_aload_n (pc := 294) dc_M_tagEnd_294 rfl ?_
      refine g_getfield (pc := 295) dc_M_tagEnd_295 fl_M_140 (mp_o hA) rfl ?_
      refine g_iload_n (pc := 298) dc_M_tagEnd_298 rfl ?_
      refine g_iload (pc := 299) dc_M_tagEnd_299 rfl ?_
      refine g_ldcwS (pc := 301) 39 dc_M_tagEnd_301 (by decide) rfl rfl ?_
      refine g_s4 (pc := 304) (M' := mt_M_isWord) dc_M_tagEnd_304 mo_M_isWord st_M_isWord ln_M_83 (Nat.le_of_ble_eq_true rfl) (Nat.le_of_ble_eq_true rfl) (am_G.mono (t_M_isWord (i := 39) (f := nf) (t := nt) (tt_txt hA hX hs) (by decide) (by omega) (by omega)) ?_)
      intro r h1 hz
      rw [hz.1, hz.2, isw_39]
      clear hz h1 r
      refine ⟨am_nti _, ?_⟩
      refine q_ifb_eq (pc := 307) (tgt := 366) dc_M_tagEnd_307 rfl (fun hc307 => ?_) (fun hc307 => ?_)
      · refine am_wk (am_le_s (am_le_s (am_le_s (am_le_n (am_le_n (am_le_s (am_le_s (am_le_n (am_le_n am_le_0))))))))) ?_
        refine am_G.mono (r_M_tagEnd (S := S) hA hs hX hn hnt hf) (fun r h1 hz => ?_)
        obtain ⟨hz1, hz2⟩ := hz
        have ew : bsH D none (if isw 22 L nf nt = true then (some q).map (fun q => dcd L q.1 q.2) else none) = none := by simp [bsH, hc307]
        rw [ew]
        exact ⟨hz1, S, T, hz2, pgA.rf S, hR, List.prefix_rfl, fun x hx => Or.inl hx⟩
      · refine g_aload_n (pc := 310) dc_M_tagEnd_310 rfl ?_
        refine g_aload_n (pc := 311) dc_M_tagEnd_311 rfl ?_
        refine g_aload_n (pc := 312) dc_M_tagEnd_312 rfl ?_
        refine g_getfield (pc := 313) dc_M_tagEnd_313 fl_M_140 (mp_o hA) rfl ?_
        refine g_aload_n (pc := 316) dc_M_tagEnd_316 rfl ?_
        refine g_getfield (pc := 317) (v := .int (nI (s + q.1))) dc_M_tagEnd_317 fl_M_286 (mp_o hA) (congrArg (fun z => some (Value.int (nI z))) e2) ?_
        refine g_aload_n (pc := 320) dc_M_tagEnd_320 rfl ?_
        refine g_getfield (pc := 321) (v := .int (nI (s + q.2))) dc_M_tagEnd_321 fl_M_289 (mp_o hA) (congrArg (fun z => some (Value.int (nI z))) e3) ?_
        refine g_aload_n (pc := 324) dc_M_tagEnd_324 rfl ?_
        refine g_getfield (pc := 325) dc_M_tagEnd_325 fl_M_235 (mp_o hA) rfl ?_
        refine g_iconst (pc := 328) (v := 0) dc_M_tagEnd_328 rfl ?_
        refine g_v5 (pc := 329) (M' := mt_M_decode) dc_M_tagEnd_329 mo_M_decode im_M_decode se_M_decode ln_M_238 (mp_o hA) rfl rfl (Nat.le_of_ble_eq_true rfl) (Nat.le_of_ble_eq_true rfl) (am_G.mono (c_M_decode_decoded (d := d) (f := q.1) (t := q.2) (n := 0) hA hbL (by omega) hs (by omega) hX (by omega)) ?_)
        intro r h1 hz
        obtain ⟨v, hz1, hz2⟩ := hz
        rw [hz1, hz2, Nat.zero_add]
        clear hz1 hz2 h1 r
        refine ⟨am_nti _, ?_⟩
        refine pf_decodedLength (pc := 332) (v := (dcd L q.1 q.2).length) hA dc_M_tagEnd_332 fp_M_tagEnd_241 ?_
        refine g_aload_n (pc := 335) dc_M_tagEnd_335 rfl ?_
        refine g_aload_n (pc := 336) dc_M_tagEnd_336 rfl ?_
        refine g_getfield (pc := 337) dc_M_tagEnd_337 fl_M_235 (mp_o hA) rfl ?_
        refine g_iconst (pc := 340) (v := 0) dc_M_tagEnd_340 rfl ?_
        refine g_aload_n (pc := 341) dc_M_tagEnd_341 rfl ?_
        refine g_getfield (pc := 342) dc_M_tagEnd_342 fl_M_241 (mp_o hA) rfl ?_
        refine g_iload (pc := 345) dc_M_tagEnd_345 rfl ?_
        have hrk5 : rkA S (((S.s_byteValue v).s_decoded (wrt S.decoded 0 (dcd L q.1 q.2))).s_decodedLength (dcd L q.1 q.2).length) := ((rkA.s_byteValue _ _).tr (rkA.s_decoded _ _)).tr (rkA.s_decodedLength _ _)
        have hrr := c_M_readReference (X := X) (B := B) (d := d) (S := (((S.s_byteValue v).s_decoded (wrt S.decoded 0 (dcd L q.1 q.2))).s_decodedLength (dcd L q.1 q.2).length)) (T := T) (ca := 103) (s := 0) (L := (dcd L q.1 q.2)) (f0 := 0) (t0 := (dcd L q.1 q.2).length) (bo := some ka) hA (hR.rk hrk5).1 (okT_of hR.2.1) (fun S1 a1 a2 a3 a4 a5 => ⟨8000, S1.decoded, mp_a hA 19 rfl, by rw [a5]; exact wrt_tx _ _ _, by omega, by omega⟩) ⟨by decide, by decide⟩ (btg_dcd hbL (q.2 - q.1) q.1 (Nat.le_refl _)) (Nat.zero_le _) (Nat.le_refl _) (by omega) (fun k hk => by cases hk; exact hka.1)
        simp only [Nat.zero_add] at hrr
        refine g_v4 (pc := 347) (M' := mt_M_readReference) dc_M_tagEnd_347 mo_M_readReference im_M_readReference se_M_readReference ln_M_297 (mp_o hA) rfl rfl (Nat.le_of_ble_eq_true rfl) (Nat.le_of_ble_eq_true rfl) (am_G.mono hrr ?_)
        intro r h1 hz
        obtain ⟨S2, hz1, hz2, hz3⟩ := hz
        have hmd : Option.map (gT T) (some ka) = some D := congrArg some hka.2
        rw [hmd] at hz3
        rw [hz1]
        have hbh : bsH D none (if isw 22 L nf nt = true then (some q).map (fun q => dcd L q.1 q.2) else none) = mrr (dcd L q.1 q.2) 0 (dcd L q.1 q.2).length (some D) := by rw [if_pos hc307]; rfl
        have hrk : rkA S S2 := hrk5.tr (rkA.sc hz2)
        have hpg : pgA S S2 := hrk.pg
        have hX2 : tx S2.texts s L := by rw [hpg.texts]; exact hX
        have hR2 : rdS S2 T V Wd D none := hR.rk hrk
        cases hm : mrr (dcd L q.1 q.2) 0 (dcd L q.1 q.2).length (some D) with
        | none =>
          rw [hm] at hz3 hbh
          rw [hz3]
          clear hz3
          refine ⟨am_nti _, ?_⟩
          refine g_if_eq (pc := 350) (tgt := 366) dc_M_tagEnd_350 rfl (fun _ => ?_) (fun hc => absurd hc (by decide))
          refine am_wk (am_le_s (am_le_s (am_le_s (am_le_n (am_le_n (am_le_s (am_le_s (am_le_n (am_le_n am_le_0))))))))) ?_
          refine am_G.mono (r_M_tagEnd (S := S2) hA hs hX2 hn hnt hf) (fun r h1 hz => ?_)
          obtain ⟨hz1, hz2⟩ := hz
          rw [hbh]
          exact ⟨hz1, S2, T, hz2, hpg, hR2, List.prefix_rfl, fun x hx => Or.inl hx⟩
        | some E =>
          rw [hm] at hz3 hbh
          obtain ⟨hz3, hz4⟩ := hz3
          rw [hz3]
          clear hz3
          have hE : okD E := mrr_ok (Nat.zero_le _) (Nat.le_refl _) (btg_dcd hbL (q.2 - q.1) q.1 (Nat.le_refl _)) (fun D1 h9 => by cases h9; rw [← hka.2]; exact hR.2.1 _ (gT_mem hka.1)) hm
          refine ⟨am_nti _, ?_⟩
          refine g_if_eq (pc := 350) (tgt := 366) dc_M_tagEnd_350 rfl (fun hc => absurd hc (by decide)) (fun _ => ?_)
          refine g_aload_n (pc := 353) dc_M_tagEnd_353 rfl ?_
          refine g_iconst (pc := 354) (v := 1) dc_M_tagEnd_354 rfl ?_
          refine pf_hasBase (pc := 355) (v := true) hA dc_M_tagEnd_355 fp_M_tagEnd_251 ?_
          refine g_aload_n (pc := 358) dc_M_tagEnd_358 rfl ?_
          refine g_aload_n (pc := 359) dc_M_tagEnd_359 rfl ?_
          refine g_v0 (pc := 360) (M' := mt_M_keep) dc_M_tagEnd_360 mo_M_keep im_M_keep se_M_keep ln_M_300 (mp_o hA) rfl rfl (Nat.le_of_ble_eq_true rfl) (Nat.le_of_ble_eq_true rfl) (am_G.mono (c_M_keep (d := d + 4) (S := S2.s_hasBase true) (T := T) (D := E) hA (hR2.1.k (adK_hasBase _ _)) hz4 (hr E rfl hbh)) ?_)
          intro r h1 hz
          obtain ⟨S3, T3, k, hz5, hz6, hz7⟩ := hz
          rw [hz5, hz6]
          clear hz5 hz6 h1 r
          refine ⟨am_nti _, ?_⟩
          refine pf_pageBase (pc := 363) (v := k) hA dc_M_tagEnd_363 fp_M_tagEnd_254 ?_
          refine am_wk (am_le_s (am_le_s (am_le_s (am_le_n (am_le_n (am_le_s (am_le_s (am_le_n (am_le_n am_le_0))))))))) ?_
          have hb9 := rdS.bas hR2 hz7 hE
          refine am_G.mono (r_M_tagEnd (S := S3.s_pageBase k) hA hs (by rw [(pgA.tr hpg hb9.2).texts]; exact hX) hn hnt hf) (fun r h1 hz => ?_)
          obtain ⟨hz8, hz9⟩ := hz
          rw [hbh]
          exact ⟨hz8, S3.s_pageBase k, T3, hz9, pgA.tr hpg hb9.2, hb9.1, hz7.pre, fun x hx => (hz7.mem x hx).imp id (fun h9 => ⟨rfl, congrArg some h9.symm⟩)⟩
theorem a_M_tagEnd {S : MS} (hA : A.length = 84) (hbL : btg L) (hL8 : L.length ≤ 7999) (hs : s + L.length ≤ 24000) (hX : tx S.texts s L) (hR : rdS S T V Wd D bo) (hQ : hqS S s H) (hH : ∀ q, H = some q → q.1 ≤ q.2 ∧ q.2 ≤ L.length) (hn : nf ≤ nt) (hnt : nt ≤ L.length) (hf : f ≤ L.length) (hka : ka < T.length ∧ gT T ka = D) (hV : ∀ q, isw 28 L nf nt = true → H = some q → V.flatten.length + (q.2 - q.1) ≤ 8000 ∧ V.length < 1000) (hr : ∀ E, bo = none → bsH D bo (if isw 22 L nf nt = true then H.map (fun q => dcd L q.1 q.2) else none) = some E → E ∈ T ∨ T.length < 3500) : am_G X mt_M_tagEnd (d + 6) 166 [some (.ref 84), some (.int (nI (s + nf))), some (.int (nI (s + L.length))), none, some (.int (nI ka)), some (.int (nI (s + f))), some (.int (nI (s + nt))), none, none] [] (mput A S B) (fun r h1 => r = some (.int (nI (s + rwT L nf nt false f))) ∧ ∃ S1 T1, h1 = mput A S1 B ∧ pgA S S1 ∧ rdS S1 T1 (V ++ (vlH L (if isw 28 L nf nt = true then H else none))) Wd D (bsH D bo (if isw 22 L nf nt = true then H.map (fun q => dcd L q.1 q.2) else none)) ∧ T <+: T1 ∧ ∀ x, x ∈ T1 → x ∈ T ∨ (bo = none ∧ bsH D bo (if isw 22 L nf nt = true then H.map (fun q => dcd L q.1 q.2) else none) = some x)) := by
  cases H with
  | none =>
    have e1 : S.hasHref = false := hQ.1
    have ew : (vlH L (if isw 28 L nf nt = true then (none : Option (Nat × Nat)) else none)) = [] := by by_cases h9 : isw 28 L nf nt = true <;> simp [vlH, h9]
    rw [ew, List.append_nil]
    refine g_aload_n (pc := 166) dc_M_tagEnd_166 rfl ?_
    refine g_getfield (pc := 167) (v := .int (b1 false)) dc_M_tagEnd_167 fl_M_272 (mp_o hA) (congrArg (fun z => some (Value.int (b1 z))) e1) ?_
    refine q_ifb_eq (pc := 170) (tgt := 280) dc_M_tagEnd_170 rfl (fun hc170 => ?_) (fun hc => absurd hc (by decide))
    exact b_M_tagEnd hA hbL hL8 hs hX hR hQ hH hn hnt hf hka hr
  | some q =>
    have e1 : S.hasHref = true := hQ.1
    have e2 := (hQ.2 q rfl).1
    have e3 := (hQ.2 q rfl).2
    have hqb := hH q rfl
    have hv1 := hR.2.2.1.1
    have hv2 := hR.2.2.1.2
    have hfl := flat_len V
    have hdl := dcd_len (L := L) (t := q.2) (q.2 - q.1) q.1 (Nat.le_refl _)
    refine g_aload_n (pc := 166) dc_M_tagEnd_166 rfl ?_
    refine g_getfield (pc := 167) (v := .int (b1 true)) dc_M_tagEnd_167 fl_M_272 (mp_o hA) (congrArg (fun z => some (Value.int (b1 z))) e1) ?_
    refine q_ifb_eq (pc := 170) (tgt := 280) dc_M_tagEnd_170 rfl (fun hc => absurd hc (by decide)) (fun hc170 => ?_)
    refine g_aload_n (pc := 173) dc_M_tagEnd_173 rfl ?_
    refine g_getfield (pc := 174) dc_M_tagEnd_174 fl_M_140 (mp_o hA) rfl ?_
    refine g_iload_n (pc := 177) dc_M_tagEnd_177 rfl ?_
    refine g_iload (pc := 178) dc_M_tagEnd_178 rfl ?_
    refine g_ldcwS (pc := 180) 38 dc_M_tagEnd_180 (by decide) rfl rfl ?_
    refine g_s4 (pc := 183) (M' := mt_M_isWord) dc_M_tagEnd_183 mo_M_isWord st_M_isWord ln_M_83 (Nat.le_of_ble_eq_true rfl) (Nat.le_of_ble_eq_true rfl) (am_G.mono (t_M_isWord (i := 38) (f := nf) (t := nt) (tt_txt hA hX hs) (by decide) (by omega) (by omega)) ?_)
    intro r h1 hz
    rw [hz.1, hz.2, isw_38]
    clear hz h1 r
    refine ⟨am_nti _, ?_⟩
    refine q_ifb_eq (pc := 186) (tgt := 280) dc_M_tagEnd_186 rfl (fun hc186 => ?_) (fun hc186 => ?_)
    · have ew : (vlH L (if isw 28 L nf nt = true then some q else none)) = [] := by rw [if_neg (by rw [hc186]; decide)]; rfl
      rw [ew, List.append_nil]
      exact b_M_tagEnd hA hbL hL8 hs hX hR hQ hH hn hnt hf hka hr
    · have hVq := hV q hc186 rfl
      refine g_aload_n (pc := 189) dc_M_tagEnd_189 rfl ?_
      refine g_getfield (pc := 190) (v := .int (nI V.length)) dc_M_tagEnd_190 fl_M_248 (mp_o hA) (congrArg (fun z => some (Value.int (nI z))) hv1) ?_
      refine q_if_ne (pc := 193) (tgt := 200) V.length dc_M_tagEnd_193 (by omega) rfl (fun hc193 => ?_) (fun hc193 => ?_)
      · refine g_aload_n (pc := 200) dc_M_tagEnd_200 rfl ?_
        refine g_getfield (pc := 201) dc_M_tagEnd_201 fl_M_280 (mp_o hA) rfl ?_
        refine g_aload_n (pc := 204) dc_M_tagEnd_204 rfl ?_
        refine g_getfield (pc := 205) (v := .int (nI V.length)) dc_M_tagEnd_205 fl_M_248 (mp_o hA) (congrArg (fun z => some (Value.int (nI z))) hv1) ?_
        refine g_iconst (pc := 208) (v := 1) dc_M_tagEnd_208 rfl ?_
        refine g_isub (pc := 209) (v := (nI (V.length - 1))) dc_M_tagEnd_209 (q_sub (a := V.length) (b := 1) (by omega)) ?_
        refine q_ialoadV (pc := 210) (V.length - 1) dc_M_tagEnd_210 (mp_a hA 24 rfl) (by omega) (by omega) (v := (nI (ofs V (V.length - 1)))) (hv2 (V.length - 1) (by omega)).1 ?_
        refine g_aload_n (pc := 211) dc_M_tagEnd_211 rfl ?_
        refine g_getfield (pc := 212) dc_M_tagEnd_212 fl_M_283 (mp_o hA) rfl ?_
        refine g_aload_n (pc := 215) dc_M_tagEnd_215 rfl ?_
        refine g_getfield (pc := 216) (v := .int (nI V.length)) dc_M_tagEnd_216 fl_M_248 (mp_o hA) (congrArg (fun z => some (Value.int (nI z))) hv1) ?_
        refine g_iconst (pc := 219) (v := 1) dc_M_tagEnd_219 rfl ?_
        refine g_isub (pc := 220) (v := (nI (V.length - 1))) dc_M_tagEnd_220 (q_sub (a := V.length) (b := 1) (by omega)) ?_
        refine q_ialoadV (pc := 221) (V.length - 1) dc_M_tagEnd_221 (mp_a hA 25 rfl) (by omega) (by omega) (v := (nI ((gT V (V.length - 1)).length))) (hv2 (V.length - 1) (by omega)).2.1 ?_
        refine g_iadd (pc := 222) (v := (nI (ofs V (V.length - 1) + ((gT V (V.length - 1)).length)))) dc_M_tagEnd_222 (nI_add (ofs V (V.length - 1)) ((gT V (V.length - 1)).length)) ?_
        have e9 := ofs_s (T := V) (k := V.length - 1) (by omega)
        rw [Nat.sub_add_cancel (by omega)] at e9
        rw [← e9]
        refine g_istore (pc := 223) dc_M_tagEnd_223 (by decide) ?_
        show am_G X mt_M_tagEnd _ 225 [some (.ref 84), some (.int (nI (s + nf))), some (.int (nI (s + L.length))), none, some (.int (nI ka)), some (.int (nI (s + f))), some (.int (nI (s + nt))), none, some (.int (nI (ofs V V.length)))] [] _ _
        refine g_aload_n (pc := 225) dc_M_tagEnd_225 rfl ?_
        refine g_getfield (pc := 226) dc_M_tagEnd_226 fl_M_280 (mp_o hA) rfl ?_
        refine g_aload_n (pc := 229) dc_M_tagEnd_229 rfl ?_
        refine g_getfield (pc := 230) (v := .int (nI V.length)) dc_M_tagEnd_230 fl_M_248 (mp_o hA) (congrArg (fun z => some (Value.int (nI z))) hv1) ?_
        refine g_iload (pc := 233) dc_M_tagEnd_233 rfl ?_
        refine as_valueAt (pc := 235) V.length hA dc_M_tagEnd_235 (by omega) ?_
        refine g_aload_n (pc := 236) dc_M_tagEnd_236 rfl ?_
        refine g_getfield (pc := 237) dc_M_tagEnd_237 fl_M_283 (mp_o hA) rfl ?_
        refine g_aload_n (pc := 240) dc_M_tagEnd_240 rfl ?_
        refine g_getfield (pc := 241) (v := .int (nI V.length)) dc_M_tagEnd_241 fl_M_248 (mp_o hA) (congrArg (fun z => some (Value.int (nI z))) hv1) ?_
        refine g_aload_n (pc := 244) dc_M_tagEnd_244 rfl ?_
        refine g_aload_n (pc := 245) dc_M_tagEnd_245 rfl ?_
        refine g_getfield (pc := 246) dc_M_tagEnd_246 fl_M_140 (mp_o hA) rfl ?_
        refine g_aload_n (pc := 249) dc_M_tagEnd_249 rfl ?_
        refine g_getfield (pc := 250) (v := .int (nI (s + q.1))) dc_M_tagEnd_250 fl_M_286 (mp_o hA) (congrArg (fun z => some (Value.int (nI z))) e2) ?_
        refine g_aload_n (pc := 253) dc_M_tagEnd_253 rfl ?_
        refine g_getfield (pc := 254) (v := .int (nI (s + q.2))) dc_M_tagEnd_254 fl_M_289 (mp_o hA) (congrArg (fun z => some (Value.int (nI z))) e3) ?_
        refine g_aload_n (pc := 257) dc_M_tagEnd_257 rfl ?_
        refine g_getfield (pc := 258) dc_M_tagEnd_258 fl_M_292 (mp_o hA) rfl ?_
        refine g_iload (pc := 261) dc_M_tagEnd_261 rfl ?_
        refine g_v5 (pc := 263) (M' := mt_M_decode) dc_M_tagEnd_263 mo_M_decode im_M_decode se_M_decode ln_M_238 (mp_o hA) rfl rfl (Nat.le_of_ble_eq_true rfl) (Nat.le_of_ble_eq_true rfl) (am_G.mono (c_M_decode_values (d := d) (S := S.s_valueAt (upd S.valueAt V.length (nI (ofs V V.length)))) (f := q.1) (t := q.2) (n := ofs V V.length) hA hbL (by omega) hs (by omega) hX (by omega)) ?_)
        intro r h1 hz
        obtain ⟨v, hz1, hz2⟩ := hz
        rw [hz1, hz2]
        clear hz1 hz2 h1 r
        refine ⟨am_nti _, ?_⟩
        refine g_iload (pc := 266) dc_M_tagEnd_266 rfl ?_
        refine g_isub (pc := 268) (v := (nI ((dcd L q.1 q.2).length))) dc_M_tagEnd_268 ((q_sub (a := ofs V V.length + (dcd L q.1 q.2).length) (b := ofs V V.length) (by omega)).trans (congrArg nI (by omega))) ?_
        refine asE_valueLength (pc := 269) V.length (g := upd S.valueLength V.length (nI (dcd L q.1 q.2).length)) hA dc_M_tagEnd_269 (by omega) (rfl) ?_
        refine g_aload_n (pc := 270) dc_M_tagEnd_270 rfl ?_
        refine g_dup (pc := 271) dc_M_tagEnd_271 rfl ?_
        refine g_getfield (pc := 272) (v := .int (nI V.length)) dc_M_tagEnd_272 fl_M_248 (mp_o hA) (congrArg (fun z => some (Value.int (nI z))) hv1) ?_
        refine g_iconst (pc := 275) (v := 1) dc_M_tagEnd_275 rfl ?_
        refine g_iadd (pc := 276) (v := (nI (V.length + 1))) dc_M_tagEnd_276 (nI_add V.length 1) ?_
        refine pf_valueCount (pc := 277) (v := V.length + 1) hA dc_M_tagEnd_277 fp_M_tagEnd_248 ?_
        refine am_wk (am_le_s (am_le_s (am_le_s (am_le_n (am_le_s (am_le_s (am_le_s (am_le_n (am_le_n am_le_0))))))))) ?_
        have hp9 : pgA S (((((S.s_valueAt (upd S.valueAt V.length (nI (ofs V V.length)))).s_byteValue v).s_values (wrt S.values (ofs V V.length) (dcd L q.1 q.2))).s_valueLength (upd S.valueLength V.length (nI (dcd L q.1 q.2).length))).s_valueCount (V.length + 1)) := ⟨(s_valS _ _ _ _ _ _).1, (s_valS _ _ _ _ _ _).2.1⟩
        have hX9 : tx (((((S.s_valueAt (upd S.valueAt V.length (nI (ofs V V.length)))).s_byteValue v).s_values (wrt S.values (ofs V V.length) (dcd L q.1 q.2))).s_valueLength (upd S.valueLength V.length (nI (dcd L q.1 q.2).length))).s_valueCount (V.length + 1)).texts s L := by rw [hp9.texts]; exact hX
        have hQ9 : hqS (((((S.s_valueAt (upd S.valueAt V.length (nI (ofs V V.length)))).s_byteValue v).s_values (wrt S.values (ofs V V.length) (dcd L q.1 q.2))).s_valueLength (upd S.valueLength V.length (nI (dcd L q.1 q.2).length))).s_valueCount (V.length + 1)) s (some q) := hQ.k (by rw [hqK_valueCount, hqK_valueLength, hqK_values, hqK_byteValue, hqK_valueAt])
        refine am_G.mono (b_M_tagEnd (S := (((((S.s_valueAt (upd S.valueAt V.length (nI (ofs V V.length)))).s_byteValue v).s_values (wrt S.values (ofs V V.length) (dcd L q.1 q.2))).s_valueLength (upd S.valueLength V.length (nI (dcd L q.1 q.2).length))).s_valueCount (V.length + 1))) (V := V ++ [(dcd L q.1 q.2)]) hA hbL hL8 hs hX9 (hR.val rfl) hQ9 hH hn hnt hf hka hr) (fun r h1 hz => ?_)
        obtain ⟨hz1, S1, T1, hz2, hz3, hz4, hz5, hz6⟩ := hz
        have ew : (vlH L (if isw 28 L nf nt = true then some q else none)) = [(dcd L q.1 q.2)] := by rw [if_pos hc186]; rfl
        rw [ew]
        exact ⟨hz1, S1, T1, hz2, pgA.tr hp9 hz3, hz4, hz5, hz6⟩
      · refine g_iconst (pc := 196) (v := 0) dc_M_tagEnd_196 rfl ?_
        refine g_goto (pc := 197) (tgt := 223) dc_M_tagEnd_197 rfl ?_
        have e9 : ofs V V.length = 0 := by rw [hc193]; rfl
        show am_G X mt_M_tagEnd _ 223 [some (.ref 84), some (.int (nI (s + nf))), some (.int (nI (s + L.length))), none, some (.int (nI ka)), some (.int (nI (s + f))), some (.int (nI (s + nt))), none, none] [.int (nI 0)] _ _
        rw [← e9]
        refine g_istore (pc := 223) dc_M_tagEnd_223 (by decide) ?_
        show am_G X mt_M_tagEnd _ 225 [some (.ref 84), some (.int (nI (s + nf))), some (.int (nI (s + L.length))), none, some (.int (nI ka)), some (.int (nI (s + f))), some (.int (nI (s + nt))), none, some (.int (nI (ofs V V.length)))] [] _ _
        refine g_aload_n (pc := 225) dc_M_tagEnd_225 rfl ?_
        refine g_getfield (pc := 226) dc_M_tagEnd_226 fl_M_280 (mp_o hA) rfl ?_
        refine g_aload_n (pc := 229) dc_M_tagEnd_229 rfl ?_
        refine g_getfield (pc := 230) (v := .int (nI V.length)) dc_M_tagEnd_230 fl_M_248 (mp_o hA) (congrArg (fun z => some (Value.int (nI z))) hv1) ?_
        refine g_iload (pc := 233) dc_M_tagEnd_233 rfl ?_
        refine as_valueAt (pc := 235) V.length hA dc_M_tagEnd_235 (by omega) ?_
        refine g_aload_n (pc := 236) dc_M_tagEnd_236 rfl ?_
        refine g_getfield (pc := 237) dc_M_tagEnd_237 fl_M_283 (mp_o hA) rfl ?_
        refine g_aload_n (pc := 240) dc_M_tagEnd_240 rfl ?_
        refine g_getfield (pc := 241) (v := .int (nI V.length)) dc_M_tagEnd_241 fl_M_248 (mp_o hA) (congrArg (fun z => some (Value.int (nI z))) hv1) ?_
        refine g_aload_n (pc := 244) dc_M_tagEnd_244 rfl ?_
        refine g_aload_n (pc := 245) dc_M_tagEnd_245 rfl ?_
        refine g_getfield (pc := 246) dc_M_tagEnd_246 fl_M_140 (mp_o hA) rfl ?_
        refine g_aload_n (pc := 249) dc_M_tagEnd_249 rfl ?_
        refine g_getfield (pc := 250) (v := .int (nI (s + q.1))) dc_M_tagEnd_250 fl_M_286 (mp_o hA) (congrArg (fun z => some (Value.int (nI z))) e2) ?_
        refine g_aload_n (pc := 253) dc_M_tagEnd_253 rfl ?_
        refine g_getfield (pc := 254) (v := .int (nI (s + q.2))) dc_M_tagEnd_254 fl_M_289 (mp_o hA) (congrArg (fun z => some (Value.int (nI z))) e3) ?_
        refine g_aload_n (pc := 257) dc_M_tagEnd_257 rfl ?_
        refine g_getfield (pc := 258) dc_M_tagEnd_258 fl_M_292 (mp_o hA) rfl ?_
        refine g_iload (pc := 261) dc_M_tagEnd_261 rfl ?_
        refine g_v5 (pc := 263) (M' := mt_M_decode) dc_M_tagEnd_263 mo_M_decode im_M_decode se_M_decode ln_M_238 (mp_o hA) rfl rfl (Nat.le_of_ble_eq_true rfl) (Nat.le_of_ble_eq_true rfl) (am_G.mono (c_M_decode_values (d := d) (S := S.s_valueAt (upd S.valueAt V.length (nI (ofs V V.length)))) (f := q.1) (t := q.2) (n := ofs V V.length) hA hbL (by omega) hs (by omega) hX (by omega)) ?_)
        intro r h1 hz
        obtain ⟨v, hz1, hz2⟩ := hz
        rw [hz1, hz2]
        clear hz1 hz2 h1 r
        refine ⟨am_nti _, ?_⟩
        refine g_iload (pc := 266) dc_M_tagEnd_266 rfl ?_
        refine g_isub (pc := 268) (v := (nI ((dcd L q.1 q.2).length))) dc_M_tagEnd_268 ((q_sub (a := ofs V V.length + (dcd L q.1 q.2).length) (b := ofs V V.length) (by omega)).trans (congrArg nI (by omega))) ?_
        refine asE_valueLength (pc := 269) V.length (g := upd S.valueLength V.length (nI (dcd L q.1 q.2).length)) hA dc_M_tagEnd_269 (by omega) (rfl) ?_
        refine g_aload_n (pc := 270) dc_M_tagEnd_270 rfl ?_
        refine g_dup (pc := 271) dc_M_tagEnd_271 rfl ?_
        refine g_getfield (pc := 272) (v := .int (nI V.length)) dc_M_tagEnd_272 fl_M_248 (mp_o hA) (congrArg (fun z => some (Value.int (nI z))) hv1) ?_
        refine g_iconst (pc := 275) (v := 1) dc_M_tagEnd_275 rfl ?_
        refine g_iadd (pc := 276) (v := (nI (V.length + 1))) dc_M_tagEnd_276 (nI_add V.length 1) ?_
        refine pf_valueCount (pc := 277) (v := V.length + 1) hA dc_M_tagEnd_277 fp_M_tagEnd_248 ?_
        refine am_wk (am_le_s (am_le_s (am_le_s (am_le_n (am_le_s (am_le_s (am_le_s (am_le_n (am_le_n am_le_0))))))))) ?_
        have hp9 : pgA S (((((S.s_valueAt (upd S.valueAt V.length (nI (ofs V V.length)))).s_byteValue v).s_values (wrt S.values (ofs V V.length) (dcd L q.1 q.2))).s_valueLength (upd S.valueLength V.length (nI (dcd L q.1 q.2).length))).s_valueCount (V.length + 1)) := ⟨(s_valS _ _ _ _ _ _).1, (s_valS _ _ _ _ _ _).2.1⟩
        have hX9 : tx (((((S.s_valueAt (upd S.valueAt V.length (nI (ofs V V.length)))).s_byteValue v).s_values (wrt S.values (ofs V V.length) (dcd L q.1 q.2))).s_valueLength (upd S.valueLength V.length (nI (dcd L q.1 q.2).length))).s_valueCount (V.length + 1)).texts s L := by rw [hp9.texts]; exact hX
        have hQ9 : hqS (((((S.s_valueAt (upd S.valueAt V.length (nI (ofs V V.length)))).s_byteValue v).s_values (wrt S.values (ofs V V.length) (dcd L q.1 q.2))).s_valueLength (upd S.valueLength V.length (nI (dcd L q.1 q.2).length))).s_valueCount (V.length + 1)) s (some q) := hQ.k (by rw [hqK_valueCount, hqK_valueLength, hqK_values, hqK_byteValue, hqK_valueAt])
        refine am_G.mono (b_M_tagEnd (S := (((((S.s_valueAt (upd S.valueAt V.length (nI (ofs V V.length)))).s_byteValue v).s_values (wrt S.values (ofs V V.length) (dcd L q.1 q.2))).s_valueLength (upd S.valueLength V.length (nI (dcd L q.1 q.2).length))).s_valueCount (V.length + 1))) (V := V ++ [(dcd L q.1 q.2)]) hA hbL hL8 hs hX9 (hR.val rfl) hQ9 hH hn hnt hf hka hr) (fun r h1 hz => ?_)
        obtain ⟨hz1, S1, T1, hz2, hz3, hz4, hz5, hz6⟩ := hz
        have ew : (vlH L (if isw 28 L nf nt = true then some q else none)) = [(dcd L q.1 q.2)] := by rw [if_pos hc186]; rfl
        rw [ew]
        exact ⟨hz1, S1, T1, hz2, pgA.tr hp9 hz3, hz4, hz5, hz6⟩
end MTG
