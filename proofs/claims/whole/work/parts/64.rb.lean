/-! ===== the model's readByte ===== -/
/-- the model's name k stands behind the & at p -/
def mnm (k : Nat) (L : List Int32) (p t : Nat) : Bool := match k with
  | 0 => decide (p + 5 ≤ t ∧ gx L (p + 1) = 97 ∧ gx L (p + 2) = 109 ∧ gx L (p + 3) = 112 ∧ gx L (p + 4) = 59)
  | 1 => decide (p + 4 ≤ t ∧ gx L (p + 1) = 108 ∧ gx L (p + 2) = 116 ∧ gx L (p + 3) = 59)
  | 2 => decide (p + 4 ≤ t ∧ gx L (p + 1) = 103 ∧ gx L (p + 2) = 116 ∧ gx L (p + 3) = 59)
  | 3 => decide (p + 6 ≤ t ∧ gx L (p + 1) = 113 ∧ gx L (p + 2) = 117 ∧ gx L (p + 3) = 111 ∧ gx L (p + 4) = 116 ∧ gx L (p + 5) = 59)
  | 4 => decide (p + 6 ≤ t ∧ gx L (p + 1) = 97 ∧ gx L (p + 2) = 112 ∧ gx L (p + 3) = 111 ∧ gx L (p + 4) = 115 ∧ gx L (p + 5) = 59)
  | _ => false
/-- where the digits end that the model takes -/
def mdE (L : List Int32) (r f t : Nat) : Nat := fx (dgR L r) f (Nat.min t (f + 7))
def mnu (L : List Int32) (r f t : Nat) : Option (Nat × Nat) := if 1 ≤ mdE L r f t - f ∧ mdE L r f t - f ≤ 6 ∧ mdE L r f t < t ∧ gx L (mdE L r f t) = 59 then some (ncl (nval L r f (mdE L r f t - f)), mdE L r f t + 1) else none
def mrb (L : List Int32) (p t : Nat) : Option (Nat × Nat) := if mnm 0 L p t = true then some (38, p + 5) else if mnm 1 L p t = true then some (60, p + 4) else if mnm 2 L p t = true then some (62, p + 4) else if mnm 3 L p t = true then some (34, p + 6) else if mnm 4 L p t = true then some (39, p + 6) else if p + 1 < t ∧ gx L (p + 1) = 35 then (if p + 2 < t ∧ toLo (gx L (p + 2)) = 120 then mnu L 16 (p + 3) t else mnu L 10 (p + 2) t) else none
section MRB
variable {X : am_X} {d p s t ca : Nat} {A B : List va_E} {S : MS} {L : List Int32}
theorem dg10 {L : List Int32} {j : Nat} : dgR L 10 j = isDi (gx L j) := by
  unfold dgR
  cases e : hx (gx L j) with
  | none =>
    cases hd : isDi (gx L j) with
    | false => rfl
    | true =>
      have h1 := isDi_iff.mp hd
      unfold hx at e
      rw [if_pos h1] at e
      cases e
  | some k =>
    cases hd : isDi (gx L j) with
    | true =>
      have h1 := isDi_iff.mp hd
      unfold hx at e
      rw [if_pos h1] at e
      cases e
      exact decide_eq_true (by omega)
    | false =>
      have h1 : ¬ (48 ≤ (gx L j).toInt ∧ (gx L j).toInt ≤ 57) := fun h9 => by rw [isDi_iff.mpr h9] at hd; cases hd
      unfold hx at e
      rw [if_neg h1] at e
      refine decide_eq_false (fun h9 => ?_)
      split at e
      · cases e; omega
      · split at e
        · cases e; omega
        · cases e
theorem hv_dg {v : Int32} (h : isDi v = true) : hv v = dg v := by
  have h1 := isDi_iff.mp h
  unfold hv hx dg
  rw [if_pos h1]
  rfl
theorem nval_7 {L : List Int32} {r f n : Nat} (hr : r = 10 ∨ r = 16) (hn : n ≤ 7) (h : ∀ j, f ≤ j → j < f + n → dgR L r j = true) : nval L r f n < 268435456 := by
  have h1 := nval_lt hr n h
  have h2 : r ^ n ≤ r ^ 7 := Nat.pow_le_pow_right (by omega) hn
  rcases hr with rfl | rfl
  · have h3 : (10 : Nat) ^ 7 = 10000000 := by decide
    omega
  · have h3 : (16 : Nat) ^ 7 = 268435456 := by decide
    omega
theorem l_M_readByte_16 {f : Nat} {Q : Option Value → List va_E → Prop} (hA : A.length = 84) (hx : tt (mput A S B) ca s L) (ht : t ≤ L.length) (hf : f ≤ t) (K : am_G X mt_M_readByte (d + 2) 218 [some (.ref 84), some (.ref ca), some (.int (nI (s + p))), some (.int (nI (s + t))), some (.retAddr 35), some (.retAddr 36), none, some (.int 1), some (.int (nI (s + (mdE L 16 f t)))), some (.int (nI (nval L 16 f (mdE L 16 f t - f)))), some (.int (nI (mdE L 16 f t - f)))] [] (mput A S B) Q) : ∀ n i : Nat, i + n = Nat.min t (f + 7) → f ≤ i → (∀ j, f ≤ j → j < i → dgR L 16 j = true) → am_G X mt_M_readByte (d + 2) 218 [some (.ref 84), some (.ref ca), some (.int (nI (s + p))), some (.int (nI (s + t))), some (.retAddr 35), some (.retAddr 36), none, some (.int 1), some (.int (nI (s + i))), some (.int (nI (nval L 16 f (i - f)))), some (.int (nI (i - f)))] [] (mput A S B) Q
  | 0, i, e, hfi, hq => by
    have e9 : mdE L 16 f t = i := fx_eq hfi (by omega) hq (fun h9 => absurd h9 (by omega))
    rw [e9] at K
    exact K
  | n + 1, i, e, hfi, hq => by
    by_cases hp : dgR L 16 i = true
    · have hx0 := hx
      obtain ⟨cap, g, ha, hT, hs, hc⟩ := hx
      have hmi := nmin_bd t (f + 7)
      have hlt := nval_7 (L := L) (f := f) (n := i - f) (r := 16) (by omega) (by omega) (fun j h1 h2 => hq j h1 (by omega))
      have hlt2 := nval_7 (L := L) (f := f) (n := i + 1 - f) (r := 16) (by omega) (by omega) (fun j h1 h2 => by
        rcases Nat.eq_or_lt_of_le (show j ≤ i by omega) with e9 | e9
        · rw [e9]; exact hp
        · exact hq j h1 e9)
      have hns : nval L 16 f (i + 1 - f) = 16 * nval L 16 f (i - f) + hv (gx L i) := by rw [show i + 1 - f = (i - f) + 1 by omega]; show _ + hv (gx L (f + (i - f))) = _; rw [show f + (i - f) = i by omega]
      refine g_iload (pc := 218) dc_M_readByte_218 rfl ?_
      refine g_iload_n (pc := 220) dc_M_readByte_220 rfl ?_
      refine q_icmp_ge (pc := 221) (tgt := 304) (s + i) (s + t) dc_M_readByte_221 (by omega) (by omega) rfl (fun hc => absurd hc (by omega)) (fun hc221 => ?_)
      refine g_iload (pc := 224) dc_M_readByte_224 rfl ?_
      refine g_bipush (pc := 226) (v := 7) dc_M_readByte_226 rfl ?_
      refine q_icmp_ge (pc := 228) (tgt := 304) (i - f) 7 dc_M_readByte_228 (by omega) (by omega) rfl (fun hc => absurd hc (by omega)) (fun hc228 => ?_)
      refine g_iload (pc := 231) dc_M_readByte_231 rfl ?_
      refine g_if_eq (pc := 233) (tgt := 249) dc_M_readByte_233 rfl (fun hc => absurd hc (by decide)) (fun _ => ?_)
      refine g_aload_n (pc := 236) dc_M_readByte_236 rfl ?_
      refine g_iload (pc := 237) dc_M_readByte_237 rfl ?_
      refine q_tx (pc := 239) i dc_M_readByte_239 ha hT hs (by omega) hc ?_
      refine g_s1 (pc := 240) (M' := mt_M_hex) dc_M_readByte_240 mo_M_hex st_M_hex ln_M_55 (Nat.le_of_ble_eq_true rfl) (Nat.le_of_ble_eq_true rfl) (am_G.mono (e_M_hex (v := (gx L i))) ?_)
      intro r h1 hq
      rw [hq.1, hq.2]
      clear hq h1 r
      refine ⟨am_nti _, ?_⟩
      refine q_o_lt (pc := 243) (tgt := 304) dc_M_readByte_243 hx_b rfl (fun hc243 => ?_) (fun k243 hc243 => ?_)
      · exact absurd hp (by rw [dgR_n hc243]; decide)
      · have hk243 := hx_b k243 hc243
        refine g_goto (pc := 246) (tgt := 259) dc_M_readByte_246 rfl ?_
        refine g_iload (pc := 259) dc_M_readByte_259 rfl ?_
        refine g_if_eq (pc := 261) (tgt := 280) dc_M_readByte_261 rfl (fun hc => absurd hc (by decide)) (fun _ => ?_)
        refine g_bipush (pc := 264) (v := 16) dc_M_readByte_264 rfl ?_
        refine g_iload (pc := 266) dc_M_readByte_266 rfl ?_
        refine g_imul (pc := 268) (v := (nI (16 * (nval L 16 f (i - f))))) dc_M_readByte_268 (pk_mul 16 (nval L 16 f (i - f))) ?_
        refine g_aload_n (pc := 269) dc_M_readByte_269 rfl ?_
        refine g_iload (pc := 270) dc_M_readByte_270 rfl ?_
        refine q_tx (pc := 272) i dc_M_readByte_272 ha hT hs (by omega) hc ?_
        refine g_s1 (pc := 273) (M' := mt_M_hex) dc_M_readByte_273 mo_M_hex st_M_hex ln_M_55 (Nat.le_of_ble_eq_true rfl) (Nat.le_of_ble_eq_true rfl) (am_G.mono (e_M_hex (v := gx L i)) ?_)
        intro r h1 hq
        rw [hq.1, hq.2]
        clear hq h1 r
        refine ⟨am_nti _, ?_⟩
        rw [hc243]
        rw [show er (some k243) = nI k243 from rfl]
        refine g_iadd (pc := 276) (v := (nI (nval L 16 f (i + 1 - f)))) dc_M_readByte_276 (by rw [nI_add, hns, show hv (gx L i) = k243 by unfold hv; rw [hc243]; rfl]) ?_
        refine g_goto (pc := 277) (tgt := 293) dc_M_readByte_277 rfl ?_
        refine g_istore (pc := 293) dc_M_readByte_293 (by decide) ?_
        show am_G X mt_M_readByte _ 295 [some (.ref 84), some (.ref ca), some (.int (nI (s + p))), some (.int (nI (s + t))), some (.retAddr 35), some (.retAddr 36), none, some (.int 1), some (.int (nI (s + i))), some (.int (nI (nval L 16 f (i + 1 - f)))), some (.int (nI (i - f)))] [] _ _
        refine g_iinc (pc := 295) (v := (nI (i + 1 - f))) dc_M_readByte_295 rfl ((nI_add (i - f) 1).trans (congrArg nI (by omega))) (by decide) ?_
        show am_G X mt_M_readByte _ 298 [some (.ref 84), some (.ref ca), some (.int (nI (s + p))), some (.int (nI (s + t))), some (.retAddr 35), some (.retAddr 36), none, some (.int 1), some (.int (nI (s + i))), some (.int (nI (nval L 16 f (i + 1 - f)))), some (.int (nI (i + 1 - f)))] [] _ _
        refine g_iinc (pc := 298) (v := (nI (s + (i + 1)))) dc_M_readByte_298 rfl (q_as s i 1) (by decide) ?_
        show am_G X mt_M_readByte _ 301 [some (.ref 84), some (.ref ca), some (.int (nI (s + p))), some (.int (nI (s + t))), some (.retAddr 35), some (.retAddr 36), none, some (.int 1), some (.int (nI (s + (i + 1)))), some (.int (nI (nval L 16 f (i + 1 - f)))), some (.int (nI (i + 1 - f)))] [] _ _
        refine g_goto (pc := 301) (tgt := 218) dc_M_readByte_301 rfl ?_
        exact l_M_readByte_16 hA hx0 ht hf K n (i + 1) (by omega) (by omega) (fun j h1 h2 => by
        rcases Nat.eq_or_lt_of_le (Nat.le_of_lt_succ h2) with e9 | e9
        · rw [e9]; exact hp
        · exact hq j h1 e9)
    · have e9 : mdE L 16 f t = i := fx_eq hfi (by omega) hq (fun _ => by cases h9 : dgR L 16 i with | true => exact absurd h9 hp | false => rfl)
      rw [e9] at K
      exact K
theorem u_M_readByte_16 {f : Nat} (hA : A.length = 84) (hx : tt (mput A S B) ca s L) (ht : t ≤ L.length) (hf : f ≤ t) : am_G X mt_M_readByte (d + 2) 218 [some (.ref 84), some (.ref ca), some (.int (nI (s + p))), some (.int (nI (s + t))), some (.retAddr 35), some (.retAddr 36), none, some (.int 1), some (.int (nI (s + f))), some (.int (nI 0)), some (.int (nI 0))] [] (mput A S B) (fun r h1 => r = some (.int (er ((mnu L 16 f t).map (fun q => s + q.2)))) ∧ h1 = mput A (match mnu L 16 f t with | some q => S.s_byteValue (nI q.1) | none => S) B) := by
  have hmi := nmin_bd t (f + 7)
  have hx0 := hx
  have hbd := fx_bd (P := dgR L 16) (f := f) (t := Nat.min t (f + 7)) (by omega)
  have hin := fun j => fx_in (P := dgR L 16) (f := f) (t := Nat.min t (f + 7)) (j := j)
  have hou := fx_out (P := dgR L 16) (f := f) (t := Nat.min t (f + 7))
  have h9 := l_M_readByte_16 (X := X) (d := d) (p := p) (Q := (fun r h1 => r = some (.int (er ((mnu L 16 f t).map (fun q => s + q.2)))) ∧ h1 = mput A (match mnu L 16 f t with | some q => S.s_byteValue (nI q.1) | none => S) B)) hA hx ht hf ?_ (Nat.min t (f + 7) - f) f (by omega) (Nat.le_refl _) (fun j h1 h2 => absurd h2 (by omega))
  · rw [Nat.sub_self] at h9
    exact h9
  · unfold mnu
    have hed : mdE L 16 f t = fx (dgR L 16) f (Nat.min t (f + 7)) := rfl
    rw [← hed] at hbd hin hou
    generalize mdE L 16 f t = e at *
    have hlt := nval_7 (L := L) (f := f) (n := e - f) (r := 16) (by omega) (by omega) (fun j h1 h2 => hin j h1 (by omega))
    obtain ⟨cap, g, ha, hT, hs, hc⟩ := hx
    refine g_iload (pc := 218) dc_M_readByte_218 rfl ?_
    refine g_iload_n (pc := 220) dc_M_readByte_220 rfl ?_
    refine q_icmp_ge (pc := 221) (tgt := 304) (s + e) (s + t) dc_M_readByte_221 (by omega) (by omega) rfl (fun hc221 => ?_) (fun hc221 => ?_)
    · refine g_iload (pc := 304) dc_M_readByte_304 rfl ?_
      refine g_iconst (pc := 306) (v := 1) dc_M_readByte_306 rfl ?_
      refine q_icmp_lt (pc := 307) (tgt := 332) (e - f) 1 dc_M_readByte_307 (by omega) (by omega) rfl (fun hc307 => ?_) (fun hc307 => ?_)
      · refine g_iconst (pc := 332) (v := (-1)) dc_M_readByte_332 rfl ?_
        exact g_ireturn dc_M_readByte_333 rfl ⟨by rw [if_neg (by omega)]; rfl, by rw [if_neg (by omega)]⟩
      · refine g_iload (pc := 310) dc_M_readByte_310 rfl ?_
        refine g_bipush (pc := 312) (v := 6) dc_M_readByte_312 rfl ?_
        refine q_icmp_gt (pc := 314) (tgt := 332) (e - f) 6 dc_M_readByte_314 (by omega) (by omega) rfl (fun hc314 => ?_) (fun hc314 => ?_)
        · refine g_iconst (pc := 332) (v := (-1)) dc_M_readByte_332 rfl ?_
          exact g_ireturn dc_M_readByte_333 rfl ⟨by rw [if_neg (by omega)]; rfl, by rw [if_neg (by omega)]⟩
        · refine g_iload (pc := 317) dc_M_readByte_317 rfl ?_
          refine g_iload_n (pc := 319) dc_M_readByte_319 rfl ?_
          refine q_icmp_ge (pc := 320) (tgt := 332) (s + e) (s + t) dc_M_readByte_320 (by omega) (by omega) rfl (fun hc320 => ?_) (fun hc320 => ?_)
          · refine g_iconst (pc := 332) (v := (-1)) dc_M_readByte_332 rfl ?_
            exact g_ireturn dc_M_readByte_333 rfl ⟨by rw [if_neg (by omega)]; rfl, by rw [if_neg (by omega)]⟩
          · refine g_aload_n (pc := 323) dc_M_readByte_323 rfl ?_
            refine g_iload (pc := 324) dc_M_readByte_324 rfl ?_
            refine q_tx (pc := 326) e dc_M_readByte_326 ha hT hs (by omega) hc ?_
            refine g_bipush (pc := 327) (v := 59) dc_M_readByte_327 rfl ?_
            refine g_icmp_eq (pc := 329) (tgt := 334) dc_M_readByte_329 rfl (fun hc329 => ?_) (fun hc329 => ?_)
            · refine g_aload_n (pc := 334) dc_M_readByte_334 rfl ?_
              refine g_iload (pc := 335) dc_M_readByte_335 rfl ?_
              refine g_bipush (pc := 337) (v := 32) dc_M_readByte_337 rfl ?_
              refine q_icmp_lt (pc := 339) (tgt := 354) (nval L 16 f (e - f)) 32 dc_M_readByte_339 (by omega) (by omega) rfl (fun hc339 => ?_) (fun hc339 => ?_)
              · refine g_bipush (pc := 354) (v := 32) dc_M_readByte_354 rfl ?_
                refine pf_byteValue (pc := 356) (v := 32) hA dc_M_readByte_356 fp_M_readByte_217 ?_
                refine g_iload (pc := 359) dc_M_readByte_359 rfl ?_
                refine g_iconst (pc := 361) (v := 1) dc_M_readByte_361 rfl ?_
                refine g_iadd (pc := 362) (v := (nI (s + (e + 1)))) dc_M_readByte_362 (q_as s e 1) ?_
                exact g_ireturn dc_M_readByte_363 rfl ⟨by rw [if_pos ⟨by omega, by omega, by omega, hc329⟩]; rfl, by rw [if_pos ⟨by omega, by omega, by omega, hc329⟩]; show mput A (S.s_byteValue _) B = mput A (S.s_byteValue (nI (ncl _))) B; unfold ncl; rw [if_neg (by omega)]; rfl⟩
              · refine g_iload (pc := 342) dc_M_readByte_342 rfl ?_
                refine g_bipush (pc := 344) (v := 126) dc_M_readByte_344 rfl ?_
                refine q_icmp_gt (pc := 346) (tgt := 354) (nval L 16 f (e - f)) 126 dc_M_readByte_346 (by omega) (by omega) rfl (fun hc346 => ?_) (fun hc346 => ?_)
                · refine g_bipush (pc := 354) (v := 32) dc_M_readByte_354 rfl ?_
                  refine pf_byteValue (pc := 356) (v := 32) hA dc_M_readByte_356 fp_M_readByte_217 ?_
                  refine g_iload (pc := 359) dc_M_readByte_359 rfl ?_
                  refine g_iconst (pc := 361) (v := 1) dc_M_readByte_361 rfl ?_
                  refine g_iadd (pc := 362) (v := (nI (s + (e + 1)))) dc_M_readByte_362 (q_as s e 1) ?_
                  exact g_ireturn dc_M_readByte_363 rfl ⟨by rw [if_pos ⟨by omega, by omega, by omega, hc329⟩]; rfl, by rw [if_pos ⟨by omega, by omega, by omega, hc329⟩]; show mput A (S.s_byteValue _) B = mput A (S.s_byteValue (nI (ncl _))) B; unfold ncl; rw [if_neg (by omega)]; rfl⟩
                · refine g_iload (pc := 349) dc_M_readByte_349 rfl ?_
                  refine g_goto (pc := 351) (tgt := 356) dc_M_readByte_351 rfl ?_
                  refine pf_byteValue (pc := 356) (v := (nI (nval L 16 f (e - f)))) hA dc_M_readByte_356 fp_M_readByte_217 ?_
                  refine g_iload (pc := 359) dc_M_readByte_359 rfl ?_
                  refine g_iconst (pc := 361) (v := 1) dc_M_readByte_361 rfl ?_
                  refine g_iadd (pc := 362) (v := (nI (s + (e + 1)))) dc_M_readByte_362 (q_as s e 1) ?_
                  exact g_ireturn dc_M_readByte_363 rfl ⟨by rw [if_pos ⟨by omega, by omega, by omega, hc329⟩]; rfl, by rw [if_pos ⟨by omega, by omega, by omega, hc329⟩]; show mput A (S.s_byteValue _) B = mput A (S.s_byteValue (nI (ncl _))) B; unfold ncl; rw [if_pos (by omega)]⟩
            · refine g_iconst (pc := 332) (v := (-1)) dc_M_readByte_332 rfl ?_
              exact g_ireturn dc_M_readByte_333 rfl ⟨by rw [if_neg (by exact fun h9 => hc329 h9.2.2.2)]; rfl, by rw [if_neg (by exact fun h9 => hc329 h9.2.2.2)]⟩
    · refine g_iload (pc := 224) dc_M_readByte_224 rfl ?_
      refine g_bipush (pc := 226) (v := 7) dc_M_readByte_226 rfl ?_
      refine q_icmp_ge (pc := 228) (tgt := 304) (e - f) 7 dc_M_readByte_228 (by omega) (by omega) rfl (fun hc228 => ?_) (fun hc228 => ?_)
      · refine g_iload (pc := 304) dc_M_readByte_304 rfl ?_
        refine g_iconst (pc := 306) (v := 1) dc_M_readByte_306 rfl ?_
        refine q_icmp_lt (pc := 307) (tgt := 332) (e - f) 1 dc_M_readByte_307 (by omega) (by omega) rfl (fun hc307 => ?_) (fun hc307 => ?_)
        · refine g_iconst (pc := 332) (v := (-1)) dc_M_readByte_332 rfl ?_
          exact g_ireturn dc_M_readByte_333 rfl ⟨by rw [if_neg (by omega)]; rfl, by rw [if_neg (by omega)]⟩
        · refine g_iload (pc := 310) dc_M_readByte_310 rfl ?_
          refine g_bipush (pc := 312) (v := 6) dc_M_readByte_312 rfl ?_
          refine q_icmp_gt (pc := 314) (tgt := 332) (e - f) 6 dc_M_readByte_314 (by omega) (by omega) rfl (fun hc314 => ?_) (fun hc314 => ?_)
          · refine g_iconst (pc := 332) (v := (-1)) dc_M_readByte_332 rfl ?_
            exact g_ireturn dc_M_readByte_333 rfl ⟨by rw [if_neg (by omega)]; rfl, by rw [if_neg (by omega)]⟩
          · refine g_iload (pc := 317) dc_M_readByte_317 rfl ?_
            refine g_iload_n (pc := 319) dc_M_readByte_319 rfl ?_
            refine q_icmp_ge (pc := 320) (tgt := 332) (s + e) (s + t) dc_M_readByte_320 (by omega) (by omega) rfl (fun hc320 => ?_) (fun hc320 => ?_)
            · refine g_iconst (pc := 332) (v := (-1)) dc_M_readByte_332 rfl ?_
              exact g_ireturn dc_M_readByte_333 rfl ⟨by rw [if_neg (by omega)]; rfl, by rw [if_neg (by omega)]⟩
            · refine g_aload_n (pc := 323) dc_M_readByte_323 rfl ?_
              refine g_iload (pc := 324) dc_M_readByte_324 rfl ?_
              refine q_tx (pc := 326) e dc_M_readByte_326 ha hT hs (by omega) hc ?_
              refine g_bipush (pc := 327) (v := 59) dc_M_readByte_327 rfl ?_
              refine g_icmp_eq (pc := 329) (tgt := 334) dc_M_readByte_329 rfl (fun hc329 => ?_) (fun hc329 => ?_)
              · refine g_aload_n (pc := 334) dc_M_readByte_334 rfl ?_
                refine g_iload (pc := 335) dc_M_readByte_335 rfl ?_
                refine g_bipush (pc := 337) (v := 32) dc_M_readByte_337 rfl ?_
                refine q_icmp_lt (pc := 339) (tgt := 354) (nval L 16 f (e - f)) 32 dc_M_readByte_339 (by omega) (by omega) rfl (fun hc339 => ?_) (fun hc339 => ?_)
                · refine g_bipush (pc := 354) (v := 32) dc_M_readByte_354 rfl ?_
                  refine pf_byteValue (pc := 356) (v := 32) hA dc_M_readByte_356 fp_M_readByte_217 ?_
                  refine g_iload (pc := 359) dc_M_readByte_359 rfl ?_
                  refine g_iconst (pc := 361) (v := 1) dc_M_readByte_361 rfl ?_
                  refine g_iadd (pc := 362) (v := (nI (s + (e + 1)))) dc_M_readByte_362 (q_as s e 1) ?_
                  exact g_ireturn dc_M_readByte_363 rfl ⟨by rw [if_pos ⟨by omega, by omega, by omega, hc329⟩]; rfl, by rw [if_pos ⟨by omega, by omega, by omega, hc329⟩]; show mput A (S.s_byteValue _) B = mput A (S.s_byteValue (nI (ncl _))) B; unfold ncl; rw [if_neg (by omega)]; rfl⟩
                · refine g_iload (pc := 342) dc_M_readByte_342 rfl ?_
                  refine g_bipush (pc := 344) (v := 126) dc_M_readByte_344 rfl ?_
                  refine q_icmp_gt (pc := 346) (tgt := 354) (nval L 16 f (e - f)) 126 dc_M_readByte_346 (by omega) (by omega) rfl (fun hc346 => ?_) (fun hc346 => ?_)
                  · refine g_bipush (pc := 354) (v := 32) dc_M_readByte_354 rfl ?_
                    refine pf_byteValue (pc := 356) (v := 32) hA dc_M_readByte_356 fp_M_readByte_217 ?_
                    refine g_iload (pc := 359) dc_M_readByte_359 rfl ?_
                    refine g_iconst (pc := 361) (v := 1) dc_M_readByte_361 rfl ?_
                    refine g_iadd (pc := 362) (v := (nI (s + (e + 1)))) dc_M_readByte_362 (q_as s e 1) ?_
                    exact g_ireturn dc_M_readByte_363 rfl ⟨by rw [if_pos ⟨by omega, by omega, by omega, hc329⟩]; rfl, by rw [if_pos ⟨by omega, by omega, by omega, hc329⟩]; show mput A (S.s_byteValue _) B = mput A (S.s_byteValue (nI (ncl _))) B; unfold ncl; rw [if_neg (by omega)]; rfl⟩
                  · refine g_iload (pc := 349) dc_M_readByte_349 rfl ?_
                    refine g_goto (pc := 351) (tgt := 356) dc_M_readByte_351 rfl ?_
                    refine pf_byteValue (pc := 356) (v := (nI (nval L 16 f (e - f)))) hA dc_M_readByte_356 fp_M_readByte_217 ?_
                    refine g_iload (pc := 359) dc_M_readByte_359 rfl ?_
                    refine g_iconst (pc := 361) (v := 1) dc_M_readByte_361 rfl ?_
                    refine g_iadd (pc := 362) (v := (nI (s + (e + 1)))) dc_M_readByte_362 (q_as s e 1) ?_
                    exact g_ireturn dc_M_readByte_363 rfl ⟨by rw [if_pos ⟨by omega, by omega, by omega, hc329⟩]; rfl, by rw [if_pos ⟨by omega, by omega, by omega, hc329⟩]; show mput A (S.s_byteValue _) B = mput A (S.s_byteValue (nI (ncl _))) B; unfold ncl; rw [if_pos (by omega)]⟩
              · refine g_iconst (pc := 332) (v := (-1)) dc_M_readByte_332 rfl ?_
                exact g_ireturn dc_M_readByte_333 rfl ⟨by rw [if_neg (by exact fun h9 => hc329 h9.2.2.2)]; rfl, by rw [if_neg (by exact fun h9 => hc329 h9.2.2.2)]⟩
      · refine g_iload (pc := 231) dc_M_readByte_231 rfl ?_
        refine g_if_eq (pc := 233) (tgt := 249) dc_M_readByte_233 rfl (fun hc => absurd hc (by decide)) (fun _ => ?_)
        refine g_aload_n (pc := 236) dc_M_readByte_236 rfl ?_
        refine g_iload (pc := 237) dc_M_readByte_237 rfl ?_
        refine q_tx (pc := 239) e dc_M_readByte_239 ha hT hs (by omega) hc ?_
        refine g_s1 (pc := 240) (M' := mt_M_hex) dc_M_readByte_240 mo_M_hex st_M_hex ln_M_55 (Nat.le_of_ble_eq_true rfl) (Nat.le_of_ble_eq_true rfl) (am_G.mono (e_M_hex (v := (gx L e))) ?_)
        intro r h1 hq
        rw [hq.1, hq.2]
        clear hq h1 r
        refine ⟨am_nti _, ?_⟩
        refine q_o_lt (pc := 243) (tgt := 304) dc_M_readByte_243 hx_b rfl (fun hc243 => ?_) (fun k243 hc243 => ?_)
        · refine g_iload (pc := 304) dc_M_readByte_304 rfl ?_
          refine g_iconst (pc := 306) (v := 1) dc_M_readByte_306 rfl ?_
          refine q_icmp_lt (pc := 307) (tgt := 332) (e - f) 1 dc_M_readByte_307 (by omega) (by omega) rfl (fun hc307 => ?_) (fun hc307 => ?_)
          · refine g_iconst (pc := 332) (v := (-1)) dc_M_readByte_332 rfl ?_
            exact g_ireturn dc_M_readByte_333 rfl ⟨by rw [if_neg (by omega)]; rfl, by rw [if_neg (by omega)]⟩
          · refine g_iload (pc := 310) dc_M_readByte_310 rfl ?_
            refine g_bipush (pc := 312) (v := 6) dc_M_readByte_312 rfl ?_
            refine q_icmp_gt (pc := 314) (tgt := 332) (e - f) 6 dc_M_readByte_314 (by omega) (by omega) rfl (fun hc314 => ?_) (fun hc314 => ?_)
            · refine g_iconst (pc := 332) (v := (-1)) dc_M_readByte_332 rfl ?_
              exact g_ireturn dc_M_readByte_333 rfl ⟨by rw [if_neg (by omega)]; rfl, by rw [if_neg (by omega)]⟩
            · refine g_iload (pc := 317) dc_M_readByte_317 rfl ?_
              refine g_iload_n (pc := 319) dc_M_readByte_319 rfl ?_
              refine q_icmp_ge (pc := 320) (tgt := 332) (s + e) (s + t) dc_M_readByte_320 (by omega) (by omega) rfl (fun hc320 => ?_) (fun hc320 => ?_)
              · refine g_iconst (pc := 332) (v := (-1)) dc_M_readByte_332 rfl ?_
                exact g_ireturn dc_M_readByte_333 rfl ⟨by rw [if_neg (by omega)]; rfl, by rw [if_neg (by omega)]⟩
              · refine g_aload_n (pc := 323) dc_M_readByte_323 rfl ?_
                refine g_iload (pc := 324) dc_M_readByte_324 rfl ?_
                refine q_tx (pc := 326) e dc_M_readByte_326 ha hT hs (by omega) hc ?_
                refine g_bipush (pc := 327) (v := 59) dc_M_readByte_327 rfl ?_
                refine g_icmp_eq (pc := 329) (tgt := 334) dc_M_readByte_329 rfl (fun hc329 => ?_) (fun hc329 => ?_)
                · refine g_aload_n (pc := 334) dc_M_readByte_334 rfl ?_
                  refine g_iload (pc := 335) dc_M_readByte_335 rfl ?_
                  refine g_bipush (pc := 337) (v := 32) dc_M_readByte_337 rfl ?_
                  refine q_icmp_lt (pc := 339) (tgt := 354) (nval L 16 f (e - f)) 32 dc_M_readByte_339 (by omega) (by omega) rfl (fun hc339 => ?_) (fun hc339 => ?_)
                  · refine g_bipush (pc := 354) (v := 32) dc_M_readByte_354 rfl ?_
                    refine pf_byteValue (pc := 356) (v := 32) hA dc_M_readByte_356 fp_M_readByte_217 ?_
                    refine g_iload (pc := 359) dc_M_readByte_359 rfl ?_
                    refine g_iconst (pc := 361) (v := 1) dc_M_readByte_361 rfl ?_
                    refine g_iadd (pc := 362) (v := (nI (s + (e + 1)))) dc_M_readByte_362 (q_as s e 1) ?_
                    exact g_ireturn dc_M_readByte_363 rfl ⟨by rw [if_pos ⟨by omega, by omega, by omega, hc329⟩]; rfl, by rw [if_pos ⟨by omega, by omega, by omega, hc329⟩]; show mput A (S.s_byteValue _) B = mput A (S.s_byteValue (nI (ncl _))) B; unfold ncl; rw [if_neg (by omega)]; rfl⟩
                  · refine g_iload (pc := 342) dc_M_readByte_342 rfl ?_
                    refine g_bipush (pc := 344) (v := 126) dc_M_readByte_344 rfl ?_
                    refine q_icmp_gt (pc := 346) (tgt := 354) (nval L 16 f (e - f)) 126 dc_M_readByte_346 (by omega) (by omega) rfl (fun hc346 => ?_) (fun hc346 => ?_)
                    · refine g_bipush (pc := 354) (v := 32) dc_M_readByte_354 rfl ?_
                      refine pf_byteValue (pc := 356) (v := 32) hA dc_M_readByte_356 fp_M_readByte_217 ?_
                      refine g_iload (pc := 359) dc_M_readByte_359 rfl ?_
                      refine g_iconst (pc := 361) (v := 1) dc_M_readByte_361 rfl ?_
                      refine g_iadd (pc := 362) (v := (nI (s + (e + 1)))) dc_M_readByte_362 (q_as s e 1) ?_
                      exact g_ireturn dc_M_readByte_363 rfl ⟨by rw [if_pos ⟨by omega, by omega, by omega, hc329⟩]; rfl, by rw [if_pos ⟨by omega, by omega, by omega, hc329⟩]; show mput A (S.s_byteValue _) B = mput A (S.s_byteValue (nI (ncl _))) B; unfold ncl; rw [if_neg (by omega)]; rfl⟩
                    · refine g_iload (pc := 349) dc_M_readByte_349 rfl ?_
                      refine g_goto (pc := 351) (tgt := 356) dc_M_readByte_351 rfl ?_
                      refine pf_byteValue (pc := 356) (v := (nI (nval L 16 f (e - f)))) hA dc_M_readByte_356 fp_M_readByte_217 ?_
                      refine g_iload (pc := 359) dc_M_readByte_359 rfl ?_
                      refine g_iconst (pc := 361) (v := 1) dc_M_readByte_361 rfl ?_
                      refine g_iadd (pc := 362) (v := (nI (s + (e + 1)))) dc_M_readByte_362 (q_as s e 1) ?_
                      exact g_ireturn dc_M_readByte_363 rfl ⟨by rw [if_pos ⟨by omega, by omega, by omega, hc329⟩]; rfl, by rw [if_pos ⟨by omega, by omega, by omega, hc329⟩]; show mput A (S.s_byteValue _) B = mput A (S.s_byteValue (nI (ncl _))) B; unfold ncl; rw [if_pos (by omega)]⟩
                · refine g_iconst (pc := 332) (v := (-1)) dc_M_readByte_332 rfl ?_
                  exact g_ireturn dc_M_readByte_333 rfl ⟨by rw [if_neg (by exact fun h9 => hc329 h9.2.2.2)]; rfl, by rw [if_neg (by exact fun h9 => hc329 h9.2.2.2)]⟩
        · have hk243 := hx_b k243 hc243
          exact absurd (hou (by omega)) (by rw [dgR_s hc243 (hx_lt hc243)]; decide)
theorem l_M_readByte_10 {f : Nat} {Q : Option Value → List va_E → Prop} (hA : A.length = 84) (hx : tt (mput A S B) ca s L) (ht : t ≤ L.length) (hf : f ≤ t) (K : am_G X mt_M_readByte (d + 2) 218 [some (.ref 84), some (.ref ca), some (.int (nI (s + p))), some (.int (nI (s + t))), some (.retAddr 35), some (.retAddr 36), none, some (.int 0), some (.int (nI (s + (mdE L 10 f t)))), some (.int (nI (nval L 10 f (mdE L 10 f t - f)))), some (.int (nI (mdE L 10 f t - f)))] [] (mput A S B) Q) : ∀ n i : Nat, i + n = Nat.min t (f + 7) → f ≤ i → (∀ j, f ≤ j → j < i → dgR L 10 j = true) → am_G X mt_M_readByte (d + 2) 218 [some (.ref 84), some (.ref ca), some (.int (nI (s + p))), some (.int (nI (s + t))), some (.retAddr 35), some (.retAddr 36), none, some (.int 0), some (.int (nI (s + i))), some (.int (nI (nval L 10 f (i - f)))), some (.int (nI (i - f)))] [] (mput A S B) Q
  | 0, i, e, hfi, hq => by
    have e9 : mdE L 10 f t = i := fx_eq hfi (by omega) hq (fun h9 => absurd h9 (by omega))
    rw [e9] at K
    exact K
  | n + 1, i, e, hfi, hq => by
    by_cases hp : dgR L 10 i = true
    · have hx0 := hx
      obtain ⟨cap, g, ha, hT, hs, hc⟩ := hx
      have hmi := nmin_bd t (f + 7)
      have hlt := nval_7 (L := L) (f := f) (n := i - f) (r := 10) (by omega) (by omega) (fun j h1 h2 => hq j h1 (by omega))
      have hlt2 := nval_7 (L := L) (f := f) (n := i + 1 - f) (r := 10) (by omega) (by omega) (fun j h1 h2 => by
        rcases Nat.eq_or_lt_of_le (show j ≤ i by omega) with e9 | e9
        · rw [e9]; exact hp
        · exact hq j h1 e9)
      have hns : nval L 10 f (i + 1 - f) = 10 * nval L 10 f (i - f) + hv (gx L i) := by rw [show i + 1 - f = (i - f) + 1 by omega]; show _ + hv (gx L (f + (i - f))) = _; rw [show f + (i - f) = i by omega]
      refine g_iload (pc := 218) dc_M_readByte_218 rfl ?_
      refine g_iload_n (pc := 220) dc_M_readByte_220 rfl ?_
      refine q_icmp_ge (pc := 221) (tgt := 304) (s + i) (s + t) dc_M_readByte_221 (by omega) (by omega) rfl (fun hc => absurd hc (by omega)) (fun hc221 => ?_)
      refine g_iload (pc := 224) dc_M_readByte_224 rfl ?_
      refine g_bipush (pc := 226) (v := 7) dc_M_readByte_226 rfl ?_
      refine q_icmp_ge (pc := 228) (tgt := 304) (i - f) 7 dc_M_readByte_228 (by omega) (by omega) rfl (fun hc => absurd hc (by omega)) (fun hc228 => ?_)
      refine g_iload (pc := 231) dc_M_readByte_231 rfl ?_
      refine g_if_eq (pc := 233) (tgt := 249) dc_M_readByte_233 rfl (fun _ => ?_) (fun hc => absurd hc (by decide))
      refine g_aload_n (pc := 249) dc_M_readByte_249 rfl ?_
      refine g_iload (pc := 250) dc_M_readByte_250 rfl ?_
      refine q_tx (pc := 252) i dc_M_readByte_252 ha hT hs (by omega) hc ?_
      refine g_s1 (pc := 253) (M' := mt_M_isDigit) dc_M_readByte_253 mo_M_isDigit st_M_isDigit ln_M_11 (Nat.le_of_ble_eq_true rfl) (Nat.le_of_ble_eq_true rfl) (am_G.mono (c_M_isDigit (v := (gx L i))) ?_)
      intro r h1 hq
      rw [hq.1, hq.2]
      clear hq h1 r
      refine ⟨am_nti _, ?_⟩
      refine q_ifb_eq (pc := 256) (tgt := 304) dc_M_readByte_256 rfl (fun hc => absurd hc (by rw [dg10] at hp; rw [hp]; decide)) (fun hc256 => ?_)
      refine g_iload (pc := 259) dc_M_readByte_259 rfl ?_
      refine g_if_eq (pc := 261) (tgt := 280) dc_M_readByte_261 rfl (fun _ => ?_) (fun hc => absurd hc (by decide))
      refine g_bipush (pc := 280) (v := 10) dc_M_readByte_280 rfl ?_
      refine g_iload (pc := 282) dc_M_readByte_282 rfl ?_
      refine g_imul (pc := 284) (v := (nI (10 * (nval L 10 f (i - f))))) dc_M_readByte_284 (pk_mul 10 (nval L 10 f (i - f))) ?_
      refine g_aload_n (pc := 285) dc_M_readByte_285 rfl ?_
      refine g_iload (pc := 286) dc_M_readByte_286 rfl ?_
      refine q_tx (pc := 288) i dc_M_readByte_288 ha hT hs (by omega) hc ?_
      refine g_iadd (pc := 289) (v := (nI (10 * nval L 10 f (i - f) + (dg (gx L i) + 48)))) dc_M_readByte_289 (dg_add (by rw [dg10] at hp; exact hp)) ?_
      refine g_bipush (pc := 290) (v := 48) dc_M_readByte_290 rfl ?_
      refine g_isub (pc := 292) (v := (nI (nval L 10 f (i + 1 - f)))) dc_M_readByte_292 (by rw [show (48 : Int32) = nI 48 from rfl, pk_sub (by omega), hns, hv_dg (by rw [dg10] at hp; exact hp)]; exact congrArg nI (by omega)) ?_
      refine g_istore (pc := 293) dc_M_readByte_293 (by decide) ?_
      show am_G X mt_M_readByte _ 295 [some (.ref 84), some (.ref ca), some (.int (nI (s + p))), some (.int (nI (s + t))), some (.retAddr 35), some (.retAddr 36), none, some (.int 0), some (.int (nI (s + i))), some (.int (nI (nval L 10 f (i + 1 - f)))), some (.int (nI (i - f)))] [] _ _
      refine g_iinc (pc := 295) (v := (nI (i + 1 - f))) dc_M_readByte_295 rfl ((nI_add (i - f) 1).trans (congrArg nI (by omega))) (by decide) ?_
      show am_G X mt_M_readByte _ 298 [some (.ref 84), some (.ref ca), some (.int (nI (s + p))), some (.int (nI (s + t))), some (.retAddr 35), some (.retAddr 36), none, some (.int 0), some (.int (nI (s + i))), some (.int (nI (nval L 10 f (i + 1 - f)))), some (.int (nI (i + 1 - f)))] [] _ _
      refine g_iinc (pc := 298) (v := (nI (s + (i + 1)))) dc_M_readByte_298 rfl (q_as s i 1) (by decide) ?_
      show am_G X mt_M_readByte _ 301 [some (.ref 84), some (.ref ca), some (.int (nI (s + p))), some (.int (nI (s + t))), some (.retAddr 35), some (.retAddr 36), none, some (.int 0), some (.int (nI (s + (i + 1)))), some (.int (nI (nval L 10 f (i + 1 - f)))), some (.int (nI (i + 1 - f)))] [] _ _
      refine g_goto (pc := 301) (tgt := 218) dc_M_readByte_301 rfl ?_
      exact l_M_readByte_10 hA hx0 ht hf K n (i + 1) (by omega) (by omega) (fun j h1 h2 => by
        rcases Nat.eq_or_lt_of_le (Nat.le_of_lt_succ h2) with e9 | e9
        · rw [e9]; exact hp
        · exact hq j h1 e9)
    · have e9 : mdE L 10 f t = i := fx_eq hfi (by omega) hq (fun _ => by cases h9 : dgR L 10 i with | true => exact absurd h9 hp | false => rfl)
      rw [e9] at K
      exact K
theorem u_M_readByte_10 {f : Nat} (hA : A.length = 84) (hx : tt (mput A S B) ca s L) (ht : t ≤ L.length) (hf : f ≤ t) : am_G X mt_M_readByte (d + 2) 218 [some (.ref 84), some (.ref ca), some (.int (nI (s + p))), some (.int (nI (s + t))), some (.retAddr 35), some (.retAddr 36), none, some (.int 0), some (.int (nI (s + f))), some (.int (nI 0)), some (.int (nI 0))] [] (mput A S B) (fun r h1 => r = some (.int (er ((mnu L 10 f t).map (fun q => s + q.2)))) ∧ h1 = mput A (match mnu L 10 f t with | some q => S.s_byteValue (nI q.1) | none => S) B) := by
  have hmi := nmin_bd t (f + 7)
  have hx0 := hx
  have hbd := fx_bd (P := dgR L 10) (f := f) (t := Nat.min t (f + 7)) (by omega)
  have hin := fun j => fx_in (P := dgR L 10) (f := f) (t := Nat.min t (f + 7)) (j := j)
  have hou := fx_out (P := dgR L 10) (f := f) (t := Nat.min t (f + 7))
  have h9 := l_M_readByte_10 (X := X) (d := d) (p := p) (Q := (fun r h1 => r = some (.int (er ((mnu L 10 f t).map (fun q => s + q.2)))) ∧ h1 = mput A (match mnu L 10 f t with | some q => S.s_byteValue (nI q.1) | none => S) B)) hA hx ht hf ?_ (Nat.min t (f + 7) - f) f (by omega) (Nat.le_refl _) (fun j h1 h2 => absurd h2 (by omega))
  · rw [Nat.sub_self] at h9
    exact h9
  · unfold mnu
    have hed : mdE L 10 f t = fx (dgR L 10) f (Nat.min t (f + 7)) := rfl
    rw [← hed] at hbd hin hou
    generalize mdE L 10 f t = e at *
    have hlt := nval_7 (L := L) (f := f) (n := e - f) (r := 10) (by omega) (by omega) (fun j h1 h2 => hin j h1 (by omega))
    obtain ⟨cap, g, ha, hT, hs, hc⟩ := hx
    refine g_iload (pc := 218) dc_M_readByte_218 rfl ?_
    refine g_iload_n (pc := 220) dc_M_readByte_220 rfl ?_
    refine q_icmp_ge (pc := 221) (tgt := 304) (s + e) (s + t) dc_M_readByte_221 (by omega) (by omega) rfl (fun hc221 => ?_) (fun hc221 => ?_)
    · refine g_iload (pc := 304) dc_M_readByte_304 rfl ?_
      refine g_iconst (pc := 306) (v := 1) dc_M_readByte_306 rfl ?_
      refine q_icmp_lt (pc := 307) (tgt := 332) (e - f) 1 dc_M_readByte_307 (by omega) (by omega) rfl (fun hc307 => ?_) (fun hc307 => ?_)
      · refine g_iconst (pc := 332) (v := (-1)) dc_M_readByte_332 rfl ?_
        exact g_ireturn dc_M_readByte_333 rfl ⟨by rw [if_neg (by omega)]; rfl, by rw [if_neg (by omega)]⟩
      · refine g_iload (pc := 310) dc_M_readByte_310 rfl ?_
        refine g_bipush (pc := 312) (v := 6) dc_M_readByte_312 rfl ?_
        refine q_icmp_gt (pc := 314) (tgt := 332) (e - f) 6 dc_M_readByte_314 (by omega) (by omega) rfl (fun hc314 => ?_) (fun hc314 => ?_)
        · refine g_iconst (pc := 332) (v := (-1)) dc_M_readByte_332 rfl ?_
          exact g_ireturn dc_M_readByte_333 rfl ⟨by rw [if_neg (by omega)]; rfl, by rw [if_neg (by omega)]⟩
        · refine g_iload (pc := 317) dc_M_readByte_317 rfl ?_
          refine g_iload_n (pc := 319) dc_M_readByte_319 rfl ?_
          refine q_icmp_ge (pc := 320) (tgt := 332) (s + e) (s + t) dc_M_readByte_320 (by omega) (by omega) rfl (fun hc320 => ?_) (fun hc320 => ?_)
          · refine g_iconst (pc := 332) (v := (-1)) dc_M_readByte_332 rfl ?_
            exact g_ireturn dc_M_readByte_333 rfl ⟨by rw [if_neg (by omega)]; rfl, by rw [if_neg (by omega)]⟩
          · refine g_aload_n (pc := 323) dc_M_readByte_323 rfl ?_
            refine g_iload (pc := 324) dc_M_readByte_324 rfl ?_
            refine q_tx (pc := 326) e dc_M_readByte_326 ha hT hs (by omega) hc ?_
            refine g_bipush (pc := 327) (v := 59) dc_M_readByte_327 rfl ?_
            refine g_icmp_eq (pc := 329) (tgt := 334) dc_M_readByte_329 rfl (fun hc329 => ?_) (fun hc329 => ?_)
            · refine g_aload_n (pc := 334) dc_M_readByte_334 rfl ?_
              refine g_iload (pc := 335) dc_M_readByte_335 rfl ?_
              refine g_bipush (pc := 337) (v := 32) dc_M_readByte_337 rfl ?_
              refine q_icmp_lt (pc := 339) (tgt := 354) (nval L 10 f (e - f)) 32 dc_M_readByte_339 (by omega) (by omega) rfl (fun hc339 => ?_) (fun hc339 => ?_)
              · refine g_bipush (pc := 354) (v := 32) dc_M_readByte_354 rfl ?_
                refine pf_byteValue (pc := 356) (v := 32) hA dc_M_readByte_356 fp_M_readByte_217 ?_
                refine g_iload (pc := 359) dc_M_readByte_359 rfl ?_
                refine g_iconst (pc := 361) (v := 1) dc_M_readByte_361 rfl ?_
                refine g_iadd (pc := 362) (v := (nI (s + (e + 1)))) dc_M_readByte_362 (q_as s e 1) ?_
                exact g_ireturn dc_M_readByte_363 rfl ⟨by rw [if_pos ⟨by omega, by omega, by omega, hc329⟩]; rfl, by rw [if_pos ⟨by omega, by omega, by omega, hc329⟩]; show mput A (S.s_byteValue _) B = mput A (S.s_byteValue (nI (ncl _))) B; unfold ncl; rw [if_neg (by omega)]; rfl⟩
              · refine g_iload (pc := 342) dc_M_readByte_342 rfl ?_
                refine g_bipush (pc := 344) (v := 126) dc_M_readByte_344 rfl ?_
                refine q_icmp_gt (pc := 346) (tgt := 354) (nval L 10 f (e - f)) 126 dc_M_readByte_346 (by omega) (by omega) rfl (fun hc346 => ?_) (fun hc346 => ?_)
                · refine g_bipush (pc := 354) (v := 32) dc_M_readByte_354 rfl ?_
                  refine pf_byteValue (pc := 356) (v := 32) hA dc_M_readByte_356 fp_M_readByte_217 ?_
                  refine g_iload (pc := 359) dc_M_readByte_359 rfl ?_
                  refine g_iconst (pc := 361) (v := 1) dc_M_readByte_361 rfl ?_
                  refine g_iadd (pc := 362) (v := (nI (s + (e + 1)))) dc_M_readByte_362 (q_as s e 1) ?_
                  exact g_ireturn dc_M_readByte_363 rfl ⟨by rw [if_pos ⟨by omega, by omega, by omega, hc329⟩]; rfl, by rw [if_pos ⟨by omega, by omega, by omega, hc329⟩]; show mput A (S.s_byteValue _) B = mput A (S.s_byteValue (nI (ncl _))) B; unfold ncl; rw [if_neg (by omega)]; rfl⟩
                · refine g_iload (pc := 349) dc_M_readByte_349 rfl ?_
                  refine g_goto (pc := 351) (tgt := 356) dc_M_readByte_351 rfl ?_
                  refine pf_byteValue (pc := 356) (v := (nI (nval L 10 f (e - f)))) hA dc_M_readByte_356 fp_M_readByte_217 ?_
                  refine g_iload (pc := 359) dc_M_readByte_359 rfl ?_
                  refine g_iconst (pc := 361) (v := 1) dc_M_readByte_361 rfl ?_
                  refine g_iadd (pc := 362) (v := (nI (s + (e + 1)))) dc_M_readByte_362 (q_as s e 1) ?_
                  exact g_ireturn dc_M_readByte_363 rfl ⟨by rw [if_pos ⟨by omega, by omega, by omega, hc329⟩]; rfl, by rw [if_pos ⟨by omega, by omega, by omega, hc329⟩]; show mput A (S.s_byteValue _) B = mput A (S.s_byteValue (nI (ncl _))) B; unfold ncl; rw [if_pos (by omega)]⟩
            · refine g_iconst (pc := 332) (v := (-1)) dc_M_readByte_332 rfl ?_
              exact g_ireturn dc_M_readByte_333 rfl ⟨by rw [if_neg (by exact fun h9 => hc329 h9.2.2.2)]; rfl, by rw [if_neg (by exact fun h9 => hc329 h9.2.2.2)]⟩
    · refine g_iload (pc := 224) dc_M_readByte_224 rfl ?_
      refine g_bipush (pc := 226) (v := 7) dc_M_readByte_226 rfl ?_
      refine q_icmp_ge (pc := 228) (tgt := 304) (e - f) 7 dc_M_readByte_228 (by omega) (by omega) rfl (fun hc228 => ?_) (fun hc228 => ?_)
      · refine g_iload (pc := 304) dc_M_readByte_304 rfl ?_
        refine g_iconst (pc := 306) (v := 1) dc_M_readByte_306 rfl ?_
        refine q_icmp_lt (pc := 307) (tgt := 332) (e - f) 1 dc_M_readByte_307 (by omega) (by omega) rfl (fun hc307 => ?_) (fun hc307 => ?_)
        · refine g_iconst (pc := 332) (v := (-1)) dc_M_readByte_332 rfl ?_
          exact g_ireturn dc_M_readByte_333 rfl ⟨by rw [if_neg (by omega)]; rfl, by rw [if_neg (by omega)]⟩
        · refine g_iload (pc := 310) dc_M_readByte_310 rfl ?_
          refine g_bipush (pc := 312) (v := 6) dc_M_readByte_312 rfl ?_
          refine q_icmp_gt (pc := 314) (tgt := 332) (e - f) 6 dc_M_readByte_314 (by omega) (by omega) rfl (fun hc314 => ?_) (fun hc314 => ?_)
          · refine g_iconst (pc := 332) (v := (-1)) dc_M_readByte_332 rfl ?_
            exact g_ireturn dc_M_readByte_333 rfl ⟨by rw [if_neg (by omega)]; rfl, by rw [if_neg (by omega)]⟩
          · refine g_iload (pc := 317) dc_M_readByte_317 rfl ?_
            refine g_iload_n (pc := 319) dc_M_readByte_319 rfl ?_
            refine q_icmp_ge (pc := 320) (tgt := 332) (s + e) (s + t) dc_M_readByte_320 (by omega) (by omega) rfl (fun hc320 => ?_) (fun hc320 => ?_)
            · refine g_iconst (pc := 332) (v := (-1)) dc_M_readByte_332 rfl ?_
              exact g_ireturn dc_M_readByte_333 rfl ⟨by rw [if_neg (by omega)]; rfl, by rw [if_neg (by omega)]⟩
            · refine g_aload_n (pc := 323) dc_M_readByte_323 rfl ?_
              refine g_iload (pc := 324) dc_M_readByte_324 rfl ?_
              refine q_tx (pc := 326) e dc_M_readByte_326 ha hT hs (by omega) hc ?_
              refine g_bipush (pc := 327) (v := 59) dc_M_readByte_327 rfl ?_
              refine g_icmp_eq (pc := 329) (tgt := 334) dc_M_readByte_329 rfl (fun hc329 => ?_) (fun hc329 => ?_)
              · refine g_aload_n (pc := 334) dc_M_readByte_334 rfl ?_
                refine g_iload (pc := 335) dc_M_readByte_335 rfl ?_
                refine g_bipush (pc := 337) (v := 32) dc_M_readByte_337 rfl ?_
                refine q_icmp_lt (pc := 339) (tgt := 354) (nval L 10 f (e - f)) 32 dc_M_readByte_339 (by omega) (by omega) rfl (fun hc339 => ?_) (fun hc339 => ?_)
                · refine g_bipush (pc := 354) (v := 32) dc_M_readByte_354 rfl ?_
                  refine pf_byteValue (pc := 356) (v := 32) hA dc_M_readByte_356 fp_M_readByte_217 ?_
                  refine g_iload (pc := 359) dc_M_readByte_359 rfl ?_
                  refine g_iconst (pc := 361) (v := 1) dc_M_readByte_361 rfl ?_
                  refine g_iadd (pc := 362) (v := (nI (s + (e + 1)))) dc_M_readByte_362 (q_as s e 1) ?_
                  exact g_ireturn dc_M_readByte_363 rfl ⟨by rw [if_pos ⟨by omega, by omega, by omega, hc329⟩]; rfl, by rw [if_pos ⟨by omega, by omega, by omega, hc329⟩]; show mput A (S.s_byteValue _) B = mput A (S.s_byteValue (nI (ncl _))) B; unfold ncl; rw [if_neg (by omega)]; rfl⟩
                · refine g_iload (pc := 342) dc_M_readByte_342 rfl ?_
                  refine g_bipush (pc := 344) (v := 126) dc_M_readByte_344 rfl ?_
                  refine q_icmp_gt (pc := 346) (tgt := 354) (nval L 10 f (e - f)) 126 dc_M_readByte_346 (by omega) (by omega) rfl (fun hc346 => ?_) (fun hc346 => ?_)
                  · refine g_bipush (pc := 354) (v := 32) dc_M_readByte_354 rfl ?_
                    refine pf_byteValue (pc := 356) (v := 32) hA dc_M_readByte_356 fp_M_readByte_217 ?_
                    refine g_iload (pc := 359) dc_M_readByte_359 rfl ?_
                    refine g_iconst (pc := 361) (v := 1) dc_M_readByte_361 rfl ?_
                    refine g_iadd (pc := 362) (v := (nI (s + (e + 1)))) dc_M_readByte_362 (q_as s e 1) ?_
                    exact g_ireturn dc_M_readByte_363 rfl ⟨by rw [if_pos ⟨by omega, by omega, by omega, hc329⟩]; rfl, by rw [if_pos ⟨by omega, by omega, by omega, hc329⟩]; show mput A (S.s_byteValue _) B = mput A (S.s_byteValue (nI (ncl _))) B; unfold ncl; rw [if_neg (by omega)]; rfl⟩
                  · refine g_iload (pc := 349) dc_M_readByte_349 rfl ?_
                    refine g_goto (pc := 351) (tgt := 356) dc_M_readByte_351 rfl ?_
                    refine pf_byteValue (pc := 356) (v := (nI (nval L 10 f (e - f)))) hA dc_M_readByte_356 fp_M_readByte_217 ?_
                    refine g_iload (pc := 359) dc_M_readByte_359 rfl ?_
                    refine g_iconst (pc := 361) (v := 1) dc_M_readByte_361 rfl ?_
                    refine g_iadd (pc := 362) (v := (nI (s + (e + 1)))) dc_M_readByte_362 (q_as s e 1) ?_
                    exact g_ireturn dc_M_readByte_363 rfl ⟨by rw [if_pos ⟨by omega, by omega, by omega, hc329⟩]; rfl, by rw [if_pos ⟨by omega, by omega, by omega, hc329⟩]; show mput A (S.s_byteValue _) B = mput A (S.s_byteValue (nI (ncl _))) B; unfold ncl; rw [if_pos (by omega)]⟩
              · refine g_iconst (pc := 332) (v := (-1)) dc_M_readByte_332 rfl ?_
                exact g_ireturn dc_M_readByte_333 rfl ⟨by rw [if_neg (by exact fun h9 => hc329 h9.2.2.2)]; rfl, by rw [if_neg (by exact fun h9 => hc329 h9.2.2.2)]⟩
      · refine g_iload (pc := 231) dc_M_readByte_231 rfl ?_
        refine g_if_eq (pc := 233) (tgt := 249) dc_M_readByte_233 rfl (fun _ => ?_) (fun hc => absurd hc (by decide))
        refine g_aload_n (pc := 249) dc_M_readByte_249 rfl ?_
        refine g_iload (pc := 250) dc_M_readByte_250 rfl ?_
        refine q_tx (pc := 252) e dc_M_readByte_252 ha hT hs (by omega) hc ?_
        refine g_s1 (pc := 253) (M' := mt_M_isDigit) dc_M_readByte_253 mo_M_isDigit st_M_isDigit ln_M_11 (Nat.le_of_ble_eq_true rfl) (Nat.le_of_ble_eq_true rfl) (am_G.mono (c_M_isDigit (v := (gx L e))) ?_)
        intro r h1 hq
        rw [hq.1, hq.2]
        clear hq h1 r
        refine ⟨am_nti _, ?_⟩
        refine q_ifb_eq (pc := 256) (tgt := 304) dc_M_readByte_256 rfl (fun hc256 => ?_) (fun hc256 => ?_)
        · refine g_iload (pc := 304) dc_M_readByte_304 rfl ?_
          refine g_iconst (pc := 306) (v := 1) dc_M_readByte_306 rfl ?_
          refine q_icmp_lt (pc := 307) (tgt := 332) (e - f) 1 dc_M_readByte_307 (by omega) (by omega) rfl (fun hc307 => ?_) (fun hc307 => ?_)
          · refine g_iconst (pc := 332) (v := (-1)) dc_M_readByte_332 rfl ?_
            exact g_ireturn dc_M_readByte_333 rfl ⟨by rw [if_neg (by omega)]; rfl, by rw [if_neg (by omega)]⟩
          · refine g_iload (pc := 310) dc_M_readByte_310 rfl ?_
            refine g_bipush (pc := 312) (v := 6) dc_M_readByte_312 rfl ?_
            refine q_icmp_gt (pc := 314) (tgt := 332) (e - f) 6 dc_M_readByte_314 (by omega) (by omega) rfl (fun hc314 => ?_) (fun hc314 => ?_)
            · refine g_iconst (pc := 332) (v := (-1)) dc_M_readByte_332 rfl ?_
              exact g_ireturn dc_M_readByte_333 rfl ⟨by rw [if_neg (by omega)]; rfl, by rw [if_neg (by omega)]⟩
            · refine g_iload (pc := 317) dc_M_readByte_317 rfl ?_
              refine g_iload_n (pc := 319) dc_M_readByte_319 rfl ?_
              refine q_icmp_ge (pc := 320) (tgt := 332) (s + e) (s + t) dc_M_readByte_320 (by omega) (by omega) rfl (fun hc320 => ?_) (fun hc320 => ?_)
              · refine g_iconst (pc := 332) (v := (-1)) dc_M_readByte_332 rfl ?_
                exact g_ireturn dc_M_readByte_333 rfl ⟨by rw [if_neg (by omega)]; rfl, by rw [if_neg (by omega)]⟩
              · refine g_aload_n (pc := 323) dc_M_readByte_323 rfl ?_
                refine g_iload (pc := 324) dc_M_readByte_324 rfl ?_
                refine q_tx (pc := 326) e dc_M_readByte_326 ha hT hs (by omega) hc ?_
                refine g_bipush (pc := 327) (v := 59) dc_M_readByte_327 rfl ?_
                refine g_icmp_eq (pc := 329) (tgt := 334) dc_M_readByte_329 rfl (fun hc329 => ?_) (fun hc329 => ?_)
                · refine g_aload_n (pc := 334) dc_M_readByte_334 rfl ?_
                  refine g_iload (pc := 335) dc_M_readByte_335 rfl ?_
                  refine g_bipush (pc := 337) (v := 32) dc_M_readByte_337 rfl ?_
                  refine q_icmp_lt (pc := 339) (tgt := 354) (nval L 10 f (e - f)) 32 dc_M_readByte_339 (by omega) (by omega) rfl (fun hc339 => ?_) (fun hc339 => ?_)
                  · refine g_bipush (pc := 354) (v := 32) dc_M_readByte_354 rfl ?_
                    refine pf_byteValue (pc := 356) (v := 32) hA dc_M_readByte_356 fp_M_readByte_217 ?_
                    refine g_iload (pc := 359) dc_M_readByte_359 rfl ?_
                    refine g_iconst (pc := 361) (v := 1) dc_M_readByte_361 rfl ?_
                    refine g_iadd (pc := 362) (v := (nI (s + (e + 1)))) dc_M_readByte_362 (q_as s e 1) ?_
                    exact g_ireturn dc_M_readByte_363 rfl ⟨by rw [if_pos ⟨by omega, by omega, by omega, hc329⟩]; rfl, by rw [if_pos ⟨by omega, by omega, by omega, hc329⟩]; show mput A (S.s_byteValue _) B = mput A (S.s_byteValue (nI (ncl _))) B; unfold ncl; rw [if_neg (by omega)]; rfl⟩
                  · refine g_iload (pc := 342) dc_M_readByte_342 rfl ?_
                    refine g_bipush (pc := 344) (v := 126) dc_M_readByte_344 rfl ?_
                    refine q_icmp_gt (pc := 346) (tgt := 354) (nval L 10 f (e - f)) 126 dc_M_readByte_346 (by omega) (by omega) rfl (fun hc346 => ?_) (fun hc346 => ?_)
                    · refine g_bipush (pc := 354) (v := 32) dc_M_readByte_354 rfl ?_
                      refine pf_byteValue (pc := 356) (v := 32) hA dc_M_readByte_356 fp_M_readByte_217 ?_
                      refine g_iload (pc := 359) dc_M_readByte_359 rfl ?_
                      refine g_iconst (pc := 361) (v := 1) dc_M_readByte_361 rfl ?_
                      refine g_iadd (pc := 362) (v := (nI (s + (e + 1)))) dc_M_readByte_362 (q_as s e 1) ?_
                      exact g_ireturn dc_M_readByte_363 rfl ⟨by rw [if_pos ⟨by omega, by omega, by omega, hc329⟩]; rfl, by rw [if_pos ⟨by omega, by omega, by omega, hc329⟩]; show mput A (S.s_byteValue _) B = mput A (S.s_byteValue (nI (ncl _))) B; unfold ncl; rw [if_neg (by omega)]; rfl⟩
                    · refine g_iload (pc := 349) dc_M_readByte_349 rfl ?_
                      refine g_goto (pc := 351) (tgt := 356) dc_M_readByte_351 rfl ?_
                      refine pf_byteValue (pc := 356) (v := (nI (nval L 10 f (e - f)))) hA dc_M_readByte_356 fp_M_readByte_217 ?_
                      refine g_iload (pc := 359) dc_M_readByte_359 rfl ?_
                      refine g_iconst (pc := 361) (v := 1) dc_M_readByte_361 rfl ?_
                      refine g_iadd (pc := 362) (v := (nI (s + (e + 1)))) dc_M_readByte_362 (q_as s e 1) ?_
                      exact g_ireturn dc_M_readByte_363 rfl ⟨by rw [if_pos ⟨by omega, by omega, by omega, hc329⟩]; rfl, by rw [if_pos ⟨by omega, by omega, by omega, hc329⟩]; show mput A (S.s_byteValue _) B = mput A (S.s_byteValue (nI (ncl _))) B; unfold ncl; rw [if_pos (by omega)]⟩
                · refine g_iconst (pc := 332) (v := (-1)) dc_M_readByte_332 rfl ?_
                  exact g_ireturn dc_M_readByte_333 rfl ⟨by rw [if_neg (by exact fun h9 => hc329 h9.2.2.2)]; rfl, by rw [if_neg (by exact fun h9 => hc329 h9.2.2.2)]⟩
        · exact absurd (hou (by omega)) (by rw [dg10, hc256]; decide)
theorem n5_M_readByte (hA : A.length = 84) (hx : tt (mput A S B) ca s L) (hp : p < t) (ht : t ≤ L.length) (h0 : mnm 0 L p t = false) (h1 : mnm 1 L p t = false) (h2 : mnm 2 L p t = false) (h3 : mnm 3 L p t = false) (h4 : mnm 4 L p t = false) : am_G X mt_M_readByte (d + 4) 14 [some (.ref 84), some (.ref ca), some (.int (nI (s + p))), some (.int (nI (s + t))), some (.retAddr 35), some (.retAddr 36), some (.int 20), some (.int 5), none, none, none] [] (mput A S B) (fun r h1 => r = some (.int (er ((mrb L p t).map (fun q => s + q.2)))) ∧ h1 = mput A (match mrb L p t with | some q => S.s_byteValue (nI q.1) | none => S) B) := by
  have e9 : mrb L p t = (if p + 1 < t ∧ gx L (p + 1) = 35 then (if p + 2 < t ∧ toLo (gx L (p + 2)) = 120 then mnu L 16 (p + 3) t else mnu L 10 (p + 2) t) else none) := by
    unfold mrb
    rw [if_neg (by rw [h0]; decide), if_neg (by rw [h1]; decide), if_neg (by rw [h2]; decide), if_neg (by rw [h3]; decide), if_neg (by rw [h4]; decide)]
  rw [e9]
  have hx0 := hx
  obtain ⟨cap, g, ha, hT, hs, hc⟩ := hx
  refine g_iload (pc := 14) dc_M_readByte_14 rfl ?_
  refine g_iconst (pc := 16) (v := 5) dc_M_readByte_16 rfl ?_
  refine g_icmp_ge (pc := 17) (tgt := 150) dc_M_readByte_17 rfl (fun _ => ?_) (fun hc => absurd hc (by decide))
  refine g_iload_n (pc := 150) dc_M_readByte_150 rfl ?_
  refine g_iconst (pc := 151) (v := 1) dc_M_readByte_151 rfl ?_
  refine g_iadd (pc := 152) (v := (nI (s + (p + 1)))) dc_M_readByte_152 (q_as s p 1) ?_
  refine g_iload_n (pc := 153) dc_M_readByte_153 rfl ?_
  refine q_icmp_ge (pc := 154) (tgt := 167) (s + (p + 1)) (s + t) dc_M_readByte_154 (by omega) (by omega) rfl (fun hc154 => ?_) (fun hc154 => ?_)
  · refine g_iconst (pc := 167) (v := (-1)) dc_M_readByte_167 rfl ?_
    exact g_ireturn dc_M_readByte_168 rfl ⟨by rw [if_neg (by omega)]; rfl, by rw [if_neg (by omega)]⟩
  · refine g_aload_n (pc := 157) dc_M_readByte_157 rfl ?_
    refine g_iload_n (pc := 158) dc_M_readByte_158 rfl ?_
    refine g_iconst (pc := 159) (v := 1) dc_M_readByte_159 rfl ?_
    refine g_iadd (pc := 160) (v := (nI (s + (p + 1)))) dc_M_readByte_160 (q_as s p 1) ?_
    refine q_tx (pc := 161) (p + 1) dc_M_readByte_161 ha hT hs (by omega) hc ?_
    refine g_bipush (pc := 162) (v := 35) dc_M_readByte_162 rfl ?_
    refine g_icmp_eq (pc := 164) (tgt := 169) dc_M_readByte_164 rfl (fun hc164 => ?_) (fun hc164 => ?_)
    · refine g_iload_n (pc := 169) dc_M_readByte_169 rfl ?_
      refine g_iconst (pc := 170) (v := 2) dc_M_readByte_170 rfl ?_
      refine g_iadd (pc := 171) (v := (nI (s + (p + 2)))) dc_M_readByte_171 (q_as s p 2) ?_
      refine g_iload_n (pc := 172) dc_M_readByte_172 rfl ?_
      refine q_icmp_ge (pc := 173) (tgt := 193) (s + (p + 2)) (s + t) dc_M_readByte_173 (by omega) (by omega) rfl (fun hc173 => ?_) (fun hc173 => ?_)
      · refine g_iconst (pc := 193) (v := 0) dc_M_readByte_193 rfl ?_
        refine g_istore (pc := 194) dc_M_readByte_194 (by decide) ?_
        show am_G X mt_M_readByte _ 196 [some (.ref 84), some (.ref ca), some (.int (nI (s + p))), some (.int (nI (s + t))), some (.retAddr 35), some (.retAddr 36), some (.int 20), some (.int 0), none, none, none] [] _ _
        refine g_iload (pc := 196) dc_M_readByte_196 rfl ?_
        refine g_if_eq (pc := 198) (tgt := 207) dc_M_readByte_198 rfl (fun _ => ?_) (fun hc => absurd hc (by decide))
        refine g_iload_n (pc := 207) dc_M_readByte_207 rfl ?_
        refine g_iconst (pc := 208) (v := 2) dc_M_readByte_208 rfl ?_
        refine g_iadd (pc := 209) (v := (nI (s + (p + 2)))) dc_M_readByte_209 (q_as s p 2) ?_
        refine g_istore (pc := 210) dc_M_readByte_210 (by decide) ?_
        show am_G X mt_M_readByte _ 212 [some (.ref 84), some (.ref ca), some (.int (nI (s + p))), some (.int (nI (s + t))), some (.retAddr 35), some (.retAddr 36), some (.int 20), some (.int 0), some (.int (nI (s + (p + 2)))), none, none] [] _ _
        refine g_iconst (pc := 212) (v := 0) dc_M_readByte_212 rfl ?_
        refine g_istore (pc := 213) dc_M_readByte_213 (by decide) ?_
        show am_G X mt_M_readByte _ 215 [some (.ref 84), some (.ref ca), some (.int (nI (s + p))), some (.int (nI (s + t))), some (.retAddr 35), some (.retAddr 36), some (.int 20), some (.int 0), some (.int (nI (s + (p + 2)))), some (.int 0), none] [] _ _
        refine g_iconst (pc := 215) (v := 0) dc_M_readByte_215 rfl ?_
        refine g_istore (pc := 216) dc_M_readByte_216 (by decide) ?_
        show am_G X mt_M_readByte _ 218 [some (.ref 84), some (.ref ca), some (.int (nI (s + p))), some (.int (nI (s + t))), some (.retAddr 35), some (.retAddr 36), some (.int 20), some (.int 0), some (.int (nI (s + (p + 2)))), some (.int 0), some (.int 0)] [] _ _
        rw [if_pos (show p + 1 < t ∧ gx L (p + 1) = 35 from ⟨by omega, hc164⟩), if_neg (show ¬ (p + 2 < t ∧ toLo (gx L (p + 2)) = 120) from by omega)]
        refine am_wk (am_le_s (am_le_s (am_le_s (am_le_s (am_le_s (am_le_s (am_le_n (am_le_s (am_le_s (am_le_s (am_le_s am_le_0))))))))))) ?_
        exact u_M_readByte_10 hA hx0 ht (by omega)
      · refine g_aload_n (pc := 176) dc_M_readByte_176 rfl ?_
        refine g_iload_n (pc := 177) dc_M_readByte_177 rfl ?_
        refine g_iconst (pc := 178) (v := 2) dc_M_readByte_178 rfl ?_
        refine g_iadd (pc := 179) (v := (nI (s + (p + 2)))) dc_M_readByte_179 (q_as s p 2) ?_
        refine q_tx (pc := 180) (p + 2) dc_M_readByte_180 ha hT hs (by omega) hc ?_
        refine g_s1 (pc := 181) (M' := mt_M_lower) dc_M_readByte_181 mo_M_lower st_M_lower ln_M_7 (Nat.le_of_ble_eq_true rfl) (Nat.le_of_ble_eq_true rfl) (am_G.mono (c_M_lower (v := (gx L (p + 2)))) ?_)
        intro r h1 hq
        rw [hq.1, hq.2]
        clear hq h1 r
        refine ⟨am_nti _, ?_⟩
        refine g_bipush (pc := 184) (v := 120) dc_M_readByte_184 rfl ?_
        refine g_icmp_ne (pc := 186) (tgt := 193) dc_M_readByte_186 rfl (fun hc186 => ?_) (fun hc186 => ?_)
        · refine g_iconst (pc := 193) (v := 0) dc_M_readByte_193 rfl ?_
          refine g_istore (pc := 194) dc_M_readByte_194 (by decide) ?_
          show am_G X mt_M_readByte _ 196 [some (.ref 84), some (.ref ca), some (.int (nI (s + p))), some (.int (nI (s + t))), some (.retAddr 35), some (.retAddr 36), some (.int 20), some (.int 0), none, none, none] [] _ _
          refine g_iload (pc := 196) dc_M_readByte_196 rfl ?_
          refine g_if_eq (pc := 198) (tgt := 207) dc_M_readByte_198 rfl (fun _ => ?_) (fun hc => absurd hc (by decide))
          refine g_iload_n (pc := 207) dc_M_readByte_207 rfl ?_
          refine g_iconst (pc := 208) (v := 2) dc_M_readByte_208 rfl ?_
          refine g_iadd (pc := 209) (v := (nI (s + (p + 2)))) dc_M_readByte_209 (q_as s p 2) ?_
          refine g_istore (pc := 210) dc_M_readByte_210 (by decide) ?_
          show am_G X mt_M_readByte _ 212 [some (.ref 84), some (.ref ca), some (.int (nI (s + p))), some (.int (nI (s + t))), some (.retAddr 35), some (.retAddr 36), some (.int 20), some (.int 0), some (.int (nI (s + (p + 2)))), none, none] [] _ _
          refine g_iconst (pc := 212) (v := 0) dc_M_readByte_212 rfl ?_
          refine g_istore (pc := 213) dc_M_readByte_213 (by decide) ?_
          show am_G X mt_M_readByte _ 215 [some (.ref 84), some (.ref ca), some (.int (nI (s + p))), some (.int (nI (s + t))), some (.retAddr 35), some (.retAddr 36), some (.int 20), some (.int 0), some (.int (nI (s + (p + 2)))), some (.int 0), none] [] _ _
          refine g_iconst (pc := 215) (v := 0) dc_M_readByte_215 rfl ?_
          refine g_istore (pc := 216) dc_M_readByte_216 (by decide) ?_
          show am_G X mt_M_readByte _ 218 [some (.ref 84), some (.ref ca), some (.int (nI (s + p))), some (.int (nI (s + t))), some (.retAddr 35), some (.retAddr 36), some (.int 20), some (.int 0), some (.int (nI (s + (p + 2)))), some (.int 0), some (.int 0)] [] _ _
          rw [if_pos (show p + 1 < t ∧ gx L (p + 1) = 35 from ⟨by omega, hc164⟩), if_neg (show ¬ (p + 2 < t ∧ toLo (gx L (p + 2)) = 120) from fun h9 => hc186 h9.2)]
          refine am_wk (am_le_s (am_le_s (am_le_s (am_le_s (am_le_s (am_le_s (am_le_n (am_le_s (am_le_s (am_le_s (am_le_s am_le_0))))))))))) ?_
          exact u_M_readByte_10 hA hx0 ht (by omega)
        · refine g_iconst (pc := 189) (v := 1) dc_M_readByte_189 rfl ?_
          refine g_goto (pc := 190) (tgt := 194) dc_M_readByte_190 rfl ?_
          refine g_istore (pc := 194) dc_M_readByte_194 (by decide) ?_
          show am_G X mt_M_readByte _ 196 [some (.ref 84), some (.ref ca), some (.int (nI (s + p))), some (.int (nI (s + t))), some (.retAddr 35), some (.retAddr 36), some (.int 20), some (.int 1), none, none, none] [] _ _
          refine g_iload (pc := 196) dc_M_readByte_196 rfl ?_
          refine g_if_eq (pc := 198) (tgt := 207) dc_M_readByte_198 rfl (fun hc => absurd hc (by decide)) (fun _ => ?_)
          refine g_iload_n (pc := 201) dc_M_readByte_201 rfl ?_
          refine g_iconst (pc := 202) (v := 3) dc_M_readByte_202 rfl ?_
          refine g_iadd (pc := 203) (v := (nI (s + (p + 3)))) dc_M_readByte_203 (q_as s p 3) ?_
          refine g_goto (pc := 204) (tgt := 210) dc_M_readByte_204 rfl ?_
          refine g_istore (pc := 210) dc_M_readByte_210 (by decide) ?_
          show am_G X mt_M_readByte _ 212 [some (.ref 84), some (.ref ca), some (.int (nI (s + p))), some (.int (nI (s + t))), some (.retAddr 35), some (.retAddr 36), some (.int 20), some (.int 1), some (.int (nI (s + (p + 3)))), none, none] [] _ _
          refine g_iconst (pc := 212) (v := 0) dc_M_readByte_212 rfl ?_
          refine g_istore (pc := 213) dc_M_readByte_213 (by decide) ?_
          show am_G X mt_M_readByte _ 215 [some (.ref 84), some (.ref ca), some (.int (nI (s + p))), some (.int (nI (s + t))), some (.retAddr 35), some (.retAddr 36), some (.int 20), some (.int 1), some (.int (nI (s + (p + 3)))), some (.int 0), none] [] _ _
          refine g_iconst (pc := 215) (v := 0) dc_M_readByte_215 rfl ?_
          refine g_istore (pc := 216) dc_M_readByte_216 (by decide) ?_
          show am_G X mt_M_readByte _ 218 [some (.ref 84), some (.ref ca), some (.int (nI (s + p))), some (.int (nI (s + t))), some (.retAddr 35), some (.retAddr 36), some (.int 20), some (.int 1), some (.int (nI (s + (p + 3)))), some (.int 0), some (.int 0)] [] _ _
          rw [if_pos (show p + 1 < t ∧ gx L (p + 1) = 35 from ⟨by omega, hc164⟩), if_pos (show p + 2 < t ∧ toLo (gx L (p + 2)) = 120 from ⟨by omega, hc186⟩)]
          refine am_wk (am_le_s (am_le_s (am_le_s (am_le_s (am_le_s (am_le_s (am_le_n (am_le_s (am_le_s (am_le_s (am_le_s am_le_0))))))))))) ?_
          exact u_M_readByte_16 hA hx0 ht (by omega)
    · refine g_iconst (pc := 167) (v := (-1)) dc_M_readByte_167 rfl ?_
      exact g_ireturn dc_M_readByte_168 rfl ⟨by rw [if_neg (fun h9 => hc164 h9.2)]; rfl, by rw [if_neg (fun h9 => hc164 h9.2)]⟩
theorem n4_M_readByte (hA : A.length = 84) (hx : tt (mput A S B) ca s L) (hp : p < t) (ht : t ≤ L.length) (h0 : mnm 0 L p t = false) (h1 : mnm 1 L p t = false) (h2 : mnm 2 L p t = false) (h3 : mnm 3 L p t = false) : am_G X mt_M_readByte (d + 4) 14 [some (.ref 84), some (.ref ca), some (.int (nI (s + p))), some (.int (nI (s + t))), some (.retAddr 35), some (.retAddr 36), some (.int 15), some (.int 4), none, none, none] [] (mput A S B) (fun r h1 => r = some (.int (er ((mrb L p t).map (fun q => s + q.2)))) ∧ h1 = mput A (match mrb L p t with | some q => S.s_byteValue (nI q.1) | none => S) B) := by
  have hx0 := hx
  obtain ⟨cap, g, ha, hT, hs, hc⟩ := hx
  refine g_iload (pc := 14) dc_M_readByte_14 rfl ?_
  refine g_iconst (pc := 16) (v := 5) dc_M_readByte_16 rfl ?_
  refine g_icmp_ge (pc := 17) (tgt := 150) dc_M_readByte_17 rfl (fun hc => absurd hc (by decide)) (fun _ => ?_)
  refine g_iload (pc := 20) dc_M_readByte_20 rfl ?_
  refine g_istore (pc := 22) dc_M_readByte_22 (by decide) ?_
  show am_G X mt_M_readByte _ 24 [some (.ref 84), some (.ref ca), some (.int (nI (s + p))), some (.int (nI (s + t))), some (.retAddr 35), some (.retAddr 36), some (.int 15), some (.int 4), some (.int 15), none, none] [] _ _
  refine g_xload (pc := 24) dc_M_readByte_24 rfl ?_
  refine g_iload (pc := 26) dc_M_readByte_26 rfl ?_
  refine g_x1 (pc := 28) (M' := mt_JString_charAt) dc_M_readByte_28 mo_JString_charAt im_JString_charAt se_JString_charAt (am_t8 197 rfl rfl) (by decide) (Nat.le_of_ble_eq_true rfl) (Nat.le_of_ble_eq_true rfl) (am_G.mono (c_charAt (i := 35) (k := 15) (by decide) (by decide)) ?_)
  intro r h1 hq
  rw [hq.1, hq.2]
  clear hq h1 r
  refine ⟨am_nti _, ?_⟩
  rw [show ch 35 15 = 97 from rfl]
  refine g_bipush (pc := 31) (v := 59) dc_M_readByte_31 rfl ?_
  refine g_icmp_eq (pc := 33) (tgt := 42) dc_M_readByte_33 rfl (fun hc => absurd hc (by decide)) (fun _ => ?_)
  refine g_iinc (pc := 36) (v := 16) dc_M_readByte_36 rfl (by decide) (by decide) ?_
  show am_G X mt_M_readByte _ 39 [some (.ref 84), some (.ref ca), some (.int (nI (s + p))), some (.int (nI (s + t))), some (.retAddr 35), some (.retAddr 36), some (.int 15), some (.int 4), some (.int 16), none, none] [] _ _
  refine g_goto (pc := 39) (tgt := 24) dc_M_readByte_39 rfl ?_
  refine g_xload (pc := 24) dc_M_readByte_24 rfl ?_
  refine g_iload (pc := 26) dc_M_readByte_26 rfl ?_
  refine g_x1 (pc := 28) (M' := mt_JString_charAt) dc_M_readByte_28 mo_JString_charAt im_JString_charAt se_JString_charAt (am_t8 197 rfl rfl) (by decide) (Nat.le_of_ble_eq_true rfl) (Nat.le_of_ble_eq_true rfl) (am_G.mono (c_charAt (i := 35) (k := 16) (by decide) (by decide)) ?_)
  intro r h1 hq
  rw [hq.1, hq.2]
  clear hq h1 r
  refine ⟨am_nti _, ?_⟩
  rw [show ch 35 16 = 112 from rfl]
  refine g_bipush (pc := 31) (v := 59) dc_M_readByte_31 rfl ?_
  refine g_icmp_eq (pc := 33) (tgt := 42) dc_M_readByte_33 rfl (fun hc => absurd hc (by decide)) (fun _ => ?_)
  refine g_iinc (pc := 36) (v := 17) dc_M_readByte_36 rfl (by decide) (by decide) ?_
  show am_G X mt_M_readByte _ 39 [some (.ref 84), some (.ref ca), some (.int (nI (s + p))), some (.int (nI (s + t))), some (.retAddr 35), some (.retAddr 36), some (.int 15), some (.int 4), some (.int 17), none, none] [] _ _
  refine g_goto (pc := 39) (tgt := 24) dc_M_readByte_39 rfl ?_
  refine g_xload (pc := 24) dc_M_readByte_24 rfl ?_
  refine g_iload (pc := 26) dc_M_readByte_26 rfl ?_
  refine g_x1 (pc := 28) (M' := mt_JString_charAt) dc_M_readByte_28 mo_JString_charAt im_JString_charAt se_JString_charAt (am_t8 197 rfl rfl) (by decide) (Nat.le_of_ble_eq_true rfl) (Nat.le_of_ble_eq_true rfl) (am_G.mono (c_charAt (i := 35) (k := 17) (by decide) (by decide)) ?_)
  intro r h1 hq
  rw [hq.1, hq.2]
  clear hq h1 r
  refine ⟨am_nti _, ?_⟩
  rw [show ch 35 17 = 111 from rfl]
  refine g_bipush (pc := 31) (v := 59) dc_M_readByte_31 rfl ?_
  refine g_icmp_eq (pc := 33) (tgt := 42) dc_M_readByte_33 rfl (fun hc => absurd hc (by decide)) (fun _ => ?_)
  refine g_iinc (pc := 36) (v := 18) dc_M_readByte_36 rfl (by decide) (by decide) ?_
  show am_G X mt_M_readByte _ 39 [some (.ref 84), some (.ref ca), some (.int (nI (s + p))), some (.int (nI (s + t))), some (.retAddr 35), some (.retAddr 36), some (.int 15), some (.int 4), some (.int 18), none, none] [] _ _
  refine g_goto (pc := 39) (tgt := 24) dc_M_readByte_39 rfl ?_
  refine g_xload (pc := 24) dc_M_readByte_24 rfl ?_
  refine g_iload (pc := 26) dc_M_readByte_26 rfl ?_
  refine g_x1 (pc := 28) (M' := mt_JString_charAt) dc_M_readByte_28 mo_JString_charAt im_JString_charAt se_JString_charAt (am_t8 197 rfl rfl) (by decide) (Nat.le_of_ble_eq_true rfl) (Nat.le_of_ble_eq_true rfl) (am_G.mono (c_charAt (i := 35) (k := 18) (by decide) (by decide)) ?_)
  intro r h1 hq
  rw [hq.1, hq.2]
  clear hq h1 r
  refine ⟨am_nti _, ?_⟩
  rw [show ch 35 18 = 115 from rfl]
  refine g_bipush (pc := 31) (v := 59) dc_M_readByte_31 rfl ?_
  refine g_icmp_eq (pc := 33) (tgt := 42) dc_M_readByte_33 rfl (fun hc => absurd hc (by decide)) (fun _ => ?_)
  refine g_iinc (pc := 36) (v := 19) dc_M_readByte_36 rfl (by decide) (by decide) ?_
  show am_G X mt_M_readByte _ 39 [some (.ref 84), some (.ref ca), some (.int (nI (s + p))), some (.int (nI (s + t))), some (.retAddr 35), some (.retAddr 36), some (.int 15), some (.int 4), some (.int 19), none, none] [] _ _
  refine g_goto (pc := 39) (tgt := 24) dc_M_readByte_39 rfl ?_
  refine g_xload (pc := 24) dc_M_readByte_24 rfl ?_
  refine g_iload (pc := 26) dc_M_readByte_26 rfl ?_
  refine g_x1 (pc := 28) (M' := mt_JString_charAt) dc_M_readByte_28 mo_JString_charAt im_JString_charAt se_JString_charAt (am_t8 197 rfl rfl) (by decide) (Nat.le_of_ble_eq_true rfl) (Nat.le_of_ble_eq_true rfl) (am_G.mono (c_charAt (i := 35) (k := 19) (by decide) (by decide)) ?_)
  intro r h1 hq
  rw [hq.1, hq.2]
  clear hq h1 r
  refine ⟨am_nti _, ?_⟩
  rw [show ch 35 19 = 59 from rfl]
  refine g_bipush (pc := 31) (v := 59) dc_M_readByte_31 rfl ?_
  refine g_icmp_eq (pc := 33) (tgt := 42) dc_M_readByte_33 rfl (fun _ => ?_) (fun hc => absurd hc (by decide))
  refine g_iload_n (pc := 42) dc_M_readByte_42 rfl ?_
  refine g_iconst (pc := 43) (v := 2) dc_M_readByte_43 rfl ?_
  refine g_iadd (pc := 44) (v := (nI (s + (p + 2)))) dc_M_readByte_44 (q_as s p 2) ?_
  refine g_iload (pc := 45) dc_M_readByte_45 rfl ?_
  refine g_iadd (pc := 47) (v := (nI (s + (p + 21)))) dc_M_readByte_47 ((q_as s (p + 2) 19).trans (congrArg nI (by omega))) ?_
  refine g_iload (pc := 48) dc_M_readByte_48 rfl ?_
  refine g_isub (pc := 50) (v := (nI (s + (p + 6)))) dc_M_readByte_50 ((q_sn (s := s) (a := p + 21) (b := 15) (by omega)).trans (congrArg nI (by omega))) ?_
  refine g_iload_n (pc := 51) dc_M_readByte_51 rfl ?_
  refine q_icmp_gt (pc := 52) (tgt := 59) (s + (p + 6)) (s + t) dc_M_readByte_52 (by omega) (by omega) rfl (fun hc52 => ?_) (fun hc52 => ?_)
  · refine g_iconst (pc := 59) (v := 0) dc_M_readByte_59 rfl ?_
    refine g_istore (pc := 60) dc_M_readByte_60 (by decide) ?_
    show am_G X mt_M_readByte _ 62 [some (.ref 84), some (.ref ca), some (.int (nI (s + p))), some (.int (nI (s + t))), some (.retAddr 35), some (.retAddr 36), some (.int 15), some (.int 4), some (.int 19), some (.int 0), none] [] _ _
    refine g_iload (pc := 62) dc_M_readByte_62 rfl ?_
    refine g_istore (pc := 64) dc_M_readByte_64 (by decide) ?_
    show am_G X mt_M_readByte _ 66 [some (.ref 84), some (.ref ca), some (.int (nI (s + p))), some (.int (nI (s + t))), some (.retAddr 35), some (.retAddr 36), some (.int 15), some (.int 4), some (.int 19), some (.int 0), some (.int 15)] [] _ _
    refine g_iload (pc := 66) dc_M_readByte_66 rfl ?_
    refine g_iload (pc := 68) dc_M_readByte_68 rfl ?_
    refine g_icmp_gt (pc := 70) (tgt := 112) dc_M_readByte_70 rfl (fun hc => absurd hc (by decide)) (fun _ => ?_)
    refine g_iload (pc := 73) dc_M_readByte_73 rfl ?_
    refine g_if_eq (pc := 75) (tgt := 112) dc_M_readByte_75 rfl (fun _ => ?_) (fun hc => absurd hc (by decide))
    refine g_iload (pc := 112) dc_M_readByte_112 rfl ?_
    refine g_if_eq (pc := 114) (tgt := 138) dc_M_readByte_114 rfl (fun _ => ?_) (fun hc => absurd hc (by decide))
    refine g_iload (pc := 138) dc_M_readByte_138 rfl ?_
    refine g_iconst (pc := 140) (v := 1) dc_M_readByte_140 rfl ?_
    refine g_iadd (pc := 141) (v := 20) dc_M_readByte_141 (by decide) ?_
    refine g_istore (pc := 142) dc_M_readByte_142 (by decide) ?_
    show am_G X mt_M_readByte _ 144 [some (.ref 84), some (.ref ca), some (.int (nI (s + p))), some (.int (nI (s + t))), some (.retAddr 35), some (.retAddr 36), some (.int 20), some (.int 4), some (.int 19), some (.int 0), some (.int 15)] [] _ _
    refine g_iinc (pc := 144) (v := 5) dc_M_readByte_144 rfl (by decide) (by decide) ?_
    show am_G X mt_M_readByte _ 147 [some (.ref 84), some (.ref ca), some (.int (nI (s + p))), some (.int (nI (s + t))), some (.retAddr 35), some (.retAddr 36), some (.int 20), some (.int 5), some (.int 19), some (.int 0), some (.int 15)] [] _ _
    refine g_goto (pc := 147) (tgt := 14) dc_M_readByte_147 rfl ?_
    have hk4 : mnm 4 L p t = false := decide_eq_false (fun h9 => by have h10 := h9.1; omega)
    refine am_wk (am_le_s (am_le_s (am_le_s (am_le_s (am_le_s (am_le_s (am_le_s (am_le_s (am_le_n (am_le_n (am_le_n am_le_0))))))))))) ?_
    exact n5_M_readByte hA hx0 hp ht h0 h1 h2 h3 hk4
  · refine g_iconst (pc := 55) (v := 1) dc_M_readByte_55 rfl ?_
    refine g_goto (pc := 56) (tgt := 60) dc_M_readByte_56 rfl ?_
    refine g_istore (pc := 60) dc_M_readByte_60 (by decide) ?_
    show am_G X mt_M_readByte _ 62 [some (.ref 84), some (.ref ca), some (.int (nI (s + p))), some (.int (nI (s + t))), some (.retAddr 35), some (.retAddr 36), some (.int 15), some (.int 4), some (.int 19), some (.int 1), none] [] _ _
    refine g_iload (pc := 62) dc_M_readByte_62 rfl ?_
    refine g_istore (pc := 64) dc_M_readByte_64 (by decide) ?_
    show am_G X mt_M_readByte _ 66 [some (.ref 84), some (.ref ca), some (.int (nI (s + p))), some (.int (nI (s + t))), some (.retAddr 35), some (.retAddr 36), some (.int 15), some (.int 4), some (.int 19), some (.int 1), some (.int 15)] [] _ _
    refine g_iload (pc := 66) dc_M_readByte_66 rfl ?_
    refine g_iload (pc := 68) dc_M_readByte_68 rfl ?_
    refine g_icmp_gt (pc := 70) (tgt := 112) dc_M_readByte_70 rfl (fun hc => absurd hc (by decide)) (fun _ => ?_)
    refine g_iload (pc := 73) dc_M_readByte_73 rfl ?_
    refine g_if_eq (pc := 75) (tgt := 112) dc_M_readByte_75 rfl (fun hc => absurd hc (by decide)) (fun _ => ?_)
    refine g_aload_n (pc := 78) dc_M_readByte_78 rfl ?_
    refine g_iload_n (pc := 79) dc_M_readByte_79 rfl ?_
    refine g_iconst (pc := 80) (v := 1) dc_M_readByte_80 rfl ?_
    refine g_iadd (pc := 81) (v := (nI (s + (p + 1)))) dc_M_readByte_81 (q_as s p 1) ?_
    refine g_iload (pc := 82) dc_M_readByte_82 rfl ?_
    refine g_iadd (pc := 84) (v := (nI (s + (p + 16)))) dc_M_readByte_84 ((q_as s (p + 1) 15).trans (congrArg nI (by omega))) ?_
    refine g_iload (pc := 85) dc_M_readByte_85 rfl ?_
    refine g_isub (pc := 87) (v := (nI (s + (p + 1)))) dc_M_readByte_87 ((q_sn (s := s) (a := p + 16) (b := 15) (by omega)).trans (congrArg nI (by omega))) ?_
    refine q_tx (pc := 88) (p + 1) dc_M_readByte_88 ha hT hs (by omega) hc ?_
    refine g_xload (pc := 89) dc_M_readByte_89 rfl ?_
    refine g_iload (pc := 91) dc_M_readByte_91 rfl ?_
    refine g_x1 (pc := 93) (M' := mt_JString_charAt) dc_M_readByte_93 mo_JString_charAt im_JString_charAt se_JString_charAt (am_t8 197 rfl rfl) (by decide) (Nat.le_of_ble_eq_true rfl) (Nat.le_of_ble_eq_true rfl) (am_G.mono (c_charAt (i := 35) (k := 15) (by decide) (by decide)) ?_)
    intro r h1 hq
    rw [hq.1, hq.2]
    clear hq h1 r
    refine ⟨am_nti _, ?_⟩
    rw [show ch 35 15 = 97 from rfl]
    refine g_icmp_ne (pc := 96) (tgt := 103) dc_M_readByte_96 rfl (fun hc96 => ?_) (fun hc96 => ?_)
    · refine g_iconst (pc := 103) (v := 0) dc_M_readByte_103 rfl ?_
      refine g_istore (pc := 104) dc_M_readByte_104 (by decide) ?_
      show am_G X mt_M_readByte _ 106 [some (.ref 84), some (.ref ca), some (.int (nI (s + p))), some (.int (nI (s + t))), some (.retAddr 35), some (.retAddr 36), some (.int 15), some (.int 4), some (.int 19), some (.int 0), some (.int 15)] [] _ _
      refine g_iinc (pc := 106) (v := 16) dc_M_readByte_106 rfl (by decide) (by decide) ?_
      show am_G X mt_M_readByte _ 109 [some (.ref 84), some (.ref ca), some (.int (nI (s + p))), some (.int (nI (s + t))), some (.retAddr 35), some (.retAddr 36), some (.int 15), some (.int 4), some (.int 19), some (.int 0), some (.int 16)] [] _ _
      refine g_goto (pc := 109) (tgt := 66) dc_M_readByte_109 rfl ?_
      refine g_iload (pc := 66) dc_M_readByte_66 rfl ?_
      refine g_iload (pc := 68) dc_M_readByte_68 rfl ?_
      refine g_icmp_gt (pc := 70) (tgt := 112) dc_M_readByte_70 rfl (fun hc => absurd hc (by decide)) (fun _ => ?_)
      refine g_iload (pc := 73) dc_M_readByte_73 rfl ?_
      refine g_if_eq (pc := 75) (tgt := 112) dc_M_readByte_75 rfl (fun _ => ?_) (fun hc => absurd hc (by decide))
      refine g_iload (pc := 112) dc_M_readByte_112 rfl ?_
      refine g_if_eq (pc := 114) (tgt := 138) dc_M_readByte_114 rfl (fun _ => ?_) (fun hc => absurd hc (by decide))
      refine g_iload (pc := 138) dc_M_readByte_138 rfl ?_
      refine g_iconst (pc := 140) (v := 1) dc_M_readByte_140 rfl ?_
      refine g_iadd (pc := 141) (v := 20) dc_M_readByte_141 (by decide) ?_
      refine g_istore (pc := 142) dc_M_readByte_142 (by decide) ?_
      show am_G X mt_M_readByte _ 144 [some (.ref 84), some (.ref ca), some (.int (nI (s + p))), some (.int (nI (s + t))), some (.retAddr 35), some (.retAddr 36), some (.int 20), some (.int 4), some (.int 19), some (.int 0), some (.int 16)] [] _ _
      refine g_iinc (pc := 144) (v := 5) dc_M_readByte_144 rfl (by decide) (by decide) ?_
      show am_G X mt_M_readByte _ 147 [some (.ref 84), some (.ref ca), some (.int (nI (s + p))), some (.int (nI (s + t))), some (.retAddr 35), some (.retAddr 36), some (.int 20), some (.int 5), some (.int 19), some (.int 0), some (.int 16)] [] _ _
      refine g_goto (pc := 147) (tgt := 14) dc_M_readByte_147 rfl ?_
      have hk4 : mnm 4 L p t = false := decide_eq_false (fun h9 => hc96 (h9.2.1))
      refine am_wk (am_le_s (am_le_s (am_le_s (am_le_s (am_le_s (am_le_s (am_le_s (am_le_s (am_le_n (am_le_n (am_le_n am_le_0))))))))))) ?_
      exact n5_M_readByte hA hx0 hp ht h0 h1 h2 h3 hk4
    · refine g_iconst (pc := 99) (v := 1) dc_M_readByte_99 rfl ?_
      refine g_goto (pc := 100) (tgt := 104) dc_M_readByte_100 rfl ?_
      refine g_istore (pc := 104) dc_M_readByte_104 (by decide) ?_
      show am_G X mt_M_readByte _ 106 [some (.ref 84), some (.ref ca), some (.int (nI (s + p))), some (.int (nI (s + t))), some (.retAddr 35), some (.retAddr 36), some (.int 15), some (.int 4), some (.int 19), some (.int 1), some (.int 15)] [] _ _
      refine g_iinc (pc := 106) (v := 16) dc_M_readByte_106 rfl (by decide) (by decide) ?_
      show am_G X mt_M_readByte _ 109 [some (.ref 84), some (.ref ca), some (.int (nI (s + p))), some (.int (nI (s + t))), some (.retAddr 35), some (.retAddr 36), some (.int 15), some (.int 4), some (.int 19), some (.int 1), some (.int 16)] [] _ _
      refine g_goto (pc := 109) (tgt := 66) dc_M_readByte_109 rfl ?_
      refine g_iload (pc := 66) dc_M_readByte_66 rfl ?_
      refine g_iload (pc := 68) dc_M_readByte_68 rfl ?_
      refine g_icmp_gt (pc := 70) (tgt := 112) dc_M_readByte_70 rfl (fun hc => absurd hc (by decide)) (fun _ => ?_)
      refine g_iload (pc := 73) dc_M_readByte_73 rfl ?_
      refine g_if_eq (pc := 75) (tgt := 112) dc_M_readByte_75 rfl (fun hc => absurd hc (by decide)) (fun _ => ?_)
      refine g_aload_n (pc := 78) dc_M_readByte_78 rfl ?_
      refine g_iload_n (pc := 79) dc_M_readByte_79 rfl ?_
      refine g_iconst (pc := 80) (v := 1) dc_M_readByte_80 rfl ?_
      refine g_iadd (pc := 81) (v := (nI (s + (p + 1)))) dc_M_readByte_81 (q_as s p 1) ?_
      refine g_iload (pc := 82) dc_M_readByte_82 rfl ?_
      refine g_iadd (pc := 84) (v := (nI (s + (p + 17)))) dc_M_readByte_84 ((q_as s (p + 1) 16).trans (congrArg nI (by omega))) ?_
      refine g_iload (pc := 85) dc_M_readByte_85 rfl ?_
      refine g_isub (pc := 87) (v := (nI (s + (p + 2)))) dc_M_readByte_87 ((q_sn (s := s) (a := p + 17) (b := 15) (by omega)).trans (congrArg nI (by omega))) ?_
      refine q_tx (pc := 88) (p + 2) dc_M_readByte_88 ha hT hs (by omega) hc ?_
      refine g_xload (pc := 89) dc_M_readByte_89 rfl ?_
      refine g_iload (pc := 91) dc_M_readByte_91 rfl ?_
      refine g_x1 (pc := 93) (M' := mt_JString_charAt) dc_M_readByte_93 mo_JString_charAt im_JString_charAt se_JString_charAt (am_t8 197 rfl rfl) (by decide) (Nat.le_of_ble_eq_true rfl) (Nat.le_of_ble_eq_true rfl) (am_G.mono (c_charAt (i := 35) (k := 16) (by decide) (by decide)) ?_)
      intro r h1 hq
      rw [hq.1, hq.2]
      clear hq h1 r
      refine ⟨am_nti _, ?_⟩
      rw [show ch 35 16 = 112 from rfl]
      refine g_icmp_ne (pc := 96) (tgt := 103) dc_M_readByte_96 rfl (fun hc96z => ?_) (fun hc96z => ?_)
      · refine g_iconst (pc := 103) (v := 0) dc_M_readByte_103 rfl ?_
        refine g_istore (pc := 104) dc_M_readByte_104 (by decide) ?_
        show am_G X mt_M_readByte _ 106 [some (.ref 84), some (.ref ca), some (.int (nI (s + p))), some (.int (nI (s + t))), some (.retAddr 35), some (.retAddr 36), some (.int 15), some (.int 4), some (.int 19), some (.int 0), some (.int 16)] [] _ _
        refine g_iinc (pc := 106) (v := 17) dc_M_readByte_106 rfl (by decide) (by decide) ?_
        show am_G X mt_M_readByte _ 109 [some (.ref 84), some (.ref ca), some (.int (nI (s + p))), some (.int (nI (s + t))), some (.retAddr 35), some (.retAddr 36), some (.int 15), some (.int 4), some (.int 19), some (.int 0), some (.int 17)] [] _ _
        refine g_goto (pc := 109) (tgt := 66) dc_M_readByte_109 rfl ?_
        refine g_iload (pc := 66) dc_M_readByte_66 rfl ?_
        refine g_iload (pc := 68) dc_M_readByte_68 rfl ?_
        refine g_icmp_gt (pc := 70) (tgt := 112) dc_M_readByte_70 rfl (fun hc => absurd hc (by decide)) (fun _ => ?_)
        refine g_iload (pc := 73) dc_M_readByte_73 rfl ?_
        refine g_if_eq (pc := 75) (tgt := 112) dc_M_readByte_75 rfl (fun _ => ?_) (fun hc => absurd hc (by decide))
        refine g_iload (pc := 112) dc_M_readByte_112 rfl ?_
        refine g_if_eq (pc := 114) (tgt := 138) dc_M_readByte_114 rfl (fun _ => ?_) (fun hc => absurd hc (by decide))
        refine g_iload (pc := 138) dc_M_readByte_138 rfl ?_
        refine g_iconst (pc := 140) (v := 1) dc_M_readByte_140 rfl ?_
        refine g_iadd (pc := 141) (v := 20) dc_M_readByte_141 (by decide) ?_
        refine g_istore (pc := 142) dc_M_readByte_142 (by decide) ?_
        show am_G X mt_M_readByte _ 144 [some (.ref 84), some (.ref ca), some (.int (nI (s + p))), some (.int (nI (s + t))), some (.retAddr 35), some (.retAddr 36), some (.int 20), some (.int 4), some (.int 19), some (.int 0), some (.int 17)] [] _ _
        refine g_iinc (pc := 144) (v := 5) dc_M_readByte_144 rfl (by decide) (by decide) ?_
        show am_G X mt_M_readByte _ 147 [some (.ref 84), some (.ref ca), some (.int (nI (s + p))), some (.int (nI (s + t))), some (.retAddr 35), some (.retAddr 36), some (.int 20), some (.int 5), some (.int 19), some (.int 0), some (.int 17)] [] _ _
        refine g_goto (pc := 147) (tgt := 14) dc_M_readByte_147 rfl ?_
        have hk4 : mnm 4 L p t = false := decide_eq_false (fun h9 => hc96z (h9.2.2.1))
        refine am_wk (am_le_s (am_le_s (am_le_s (am_le_s (am_le_s (am_le_s (am_le_s (am_le_s (am_le_n (am_le_n (am_le_n am_le_0))))))))))) ?_
        exact n5_M_readByte hA hx0 hp ht h0 h1 h2 h3 hk4
      · refine g_iconst (pc := 99) (v := 1) dc_M_readByte_99 rfl ?_
        refine g_goto (pc := 100) (tgt := 104) dc_M_readByte_100 rfl ?_
        refine g_istore (pc := 104) dc_M_readByte_104 (by decide) ?_
        show am_G X mt_M_readByte _ 106 [some (.ref 84), some (.ref ca), some (.int (nI (s + p))), some (.int (nI (s + t))), some (.retAddr 35), some (.retAddr 36), some (.int 15), some (.int 4), some (.int 19), some (.int 1), some (.int 16)] [] _ _
        refine g_iinc (pc := 106) (v := 17) dc_M_readByte_106 rfl (by decide) (by decide) ?_
        show am_G X mt_M_readByte _ 109 [some (.ref 84), some (.ref ca), some (.int (nI (s + p))), some (.int (nI (s + t))), some (.retAddr 35), some (.retAddr 36), some (.int 15), some (.int 4), some (.int 19), some (.int 1), some (.int 17)] [] _ _
        refine g_goto (pc := 109) (tgt := 66) dc_M_readByte_109 rfl ?_
        refine g_iload (pc := 66) dc_M_readByte_66 rfl ?_
        refine g_iload (pc := 68) dc_M_readByte_68 rfl ?_
        refine g_icmp_gt (pc := 70) (tgt := 112) dc_M_readByte_70 rfl (fun hc => absurd hc (by decide)) (fun _ => ?_)
        refine g_iload (pc := 73) dc_M_readByte_73 rfl ?_
        refine g_if_eq (pc := 75) (tgt := 112) dc_M_readByte_75 rfl (fun hc => absurd hc (by decide)) (fun _ => ?_)
        refine g_aload_n (pc := 78) dc_M_readByte_78 rfl ?_
        refine g_iload_n (pc := 79) dc_M_readByte_79 rfl ?_
        refine g_iconst (pc := 80) (v := 1) dc_M_readByte_80 rfl ?_
        refine g_iadd (pc := 81) (v := (nI (s + (p + 1)))) dc_M_readByte_81 (q_as s p 1) ?_
        refine g_iload (pc := 82) dc_M_readByte_82 rfl ?_
        refine g_iadd (pc := 84) (v := (nI (s + (p + 18)))) dc_M_readByte_84 ((q_as s (p + 1) 17).trans (congrArg nI (by omega))) ?_
        refine g_iload (pc := 85) dc_M_readByte_85 rfl ?_
        refine g_isub (pc := 87) (v := (nI (s + (p + 3)))) dc_M_readByte_87 ((q_sn (s := s) (a := p + 18) (b := 15) (by omega)).trans (congrArg nI (by omega))) ?_
        refine q_tx (pc := 88) (p + 3) dc_M_readByte_88 ha hT hs (by omega) hc ?_
        refine g_xload (pc := 89) dc_M_readByte_89 rfl ?_
        refine g_iload (pc := 91) dc_M_readByte_91 rfl ?_
        refine g_x1 (pc := 93) (M' := mt_JString_charAt) dc_M_readByte_93 mo_JString_charAt im_JString_charAt se_JString_charAt (am_t8 197 rfl rfl) (by decide) (Nat.le_of_ble_eq_true rfl) (Nat.le_of_ble_eq_true rfl) (am_G.mono (c_charAt (i := 35) (k := 17) (by decide) (by decide)) ?_)
        intro r h1 hq
        rw [hq.1, hq.2]
        clear hq h1 r
        refine ⟨am_nti _, ?_⟩
        rw [show ch 35 17 = 111 from rfl]
        refine g_icmp_ne (pc := 96) (tgt := 103) dc_M_readByte_96 rfl (fun hc96zz => ?_) (fun hc96zz => ?_)
        · refine g_iconst (pc := 103) (v := 0) dc_M_readByte_103 rfl ?_
          refine g_istore (pc := 104) dc_M_readByte_104 (by decide) ?_
          show am_G X mt_M_readByte _ 106 [some (.ref 84), some (.ref ca), some (.int (nI (s + p))), some (.int (nI (s + t))), some (.retAddr 35), some (.retAddr 36), some (.int 15), some (.int 4), some (.int 19), some (.int 0), some (.int 17)] [] _ _
          refine g_iinc (pc := 106) (v := 18) dc_M_readByte_106 rfl (by decide) (by decide) ?_
          show am_G X mt_M_readByte _ 109 [some (.ref 84), some (.ref ca), some (.int (nI (s + p))), some (.int (nI (s + t))), some (.retAddr 35), some (.retAddr 36), some (.int 15), some (.int 4), some (.int 19), some (.int 0), some (.int 18)] [] _ _
          refine g_goto (pc := 109) (tgt := 66) dc_M_readByte_109 rfl ?_
          refine g_iload (pc := 66) dc_M_readByte_66 rfl ?_
          refine g_iload (pc := 68) dc_M_readByte_68 rfl ?_
          refine g_icmp_gt (pc := 70) (tgt := 112) dc_M_readByte_70 rfl (fun hc => absurd hc (by decide)) (fun _ => ?_)
          refine g_iload (pc := 73) dc_M_readByte_73 rfl ?_
          refine g_if_eq (pc := 75) (tgt := 112) dc_M_readByte_75 rfl (fun _ => ?_) (fun hc => absurd hc (by decide))
          refine g_iload (pc := 112) dc_M_readByte_112 rfl ?_
          refine g_if_eq (pc := 114) (tgt := 138) dc_M_readByte_114 rfl (fun _ => ?_) (fun hc => absurd hc (by decide))
          refine g_iload (pc := 138) dc_M_readByte_138 rfl ?_
          refine g_iconst (pc := 140) (v := 1) dc_M_readByte_140 rfl ?_
          refine g_iadd (pc := 141) (v := 20) dc_M_readByte_141 (by decide) ?_
          refine g_istore (pc := 142) dc_M_readByte_142 (by decide) ?_
          show am_G X mt_M_readByte _ 144 [some (.ref 84), some (.ref ca), some (.int (nI (s + p))), some (.int (nI (s + t))), some (.retAddr 35), some (.retAddr 36), some (.int 20), some (.int 4), some (.int 19), some (.int 0), some (.int 18)] [] _ _
          refine g_iinc (pc := 144) (v := 5) dc_M_readByte_144 rfl (by decide) (by decide) ?_
          show am_G X mt_M_readByte _ 147 [some (.ref 84), some (.ref ca), some (.int (nI (s + p))), some (.int (nI (s + t))), some (.retAddr 35), some (.retAddr 36), some (.int 20), some (.int 5), some (.int 19), some (.int 0), some (.int 18)] [] _ _
          refine g_goto (pc := 147) (tgt := 14) dc_M_readByte_147 rfl ?_
          have hk4 : mnm 4 L p t = false := decide_eq_false (fun h9 => hc96zz (h9.2.2.2.1))
          refine am_wk (am_le_s (am_le_s (am_le_s (am_le_s (am_le_s (am_le_s (am_le_s (am_le_s (am_le_n (am_le_n (am_le_n am_le_0))))))))))) ?_
          exact n5_M_readByte hA hx0 hp ht h0 h1 h2 h3 hk4
        · refine g_iconst (pc := 99) (v := 1) dc_M_readByte_99 rfl ?_
          refine g_goto (pc := 100) (tgt := 104) dc_M_readByte_100 rfl ?_
          refine g_istore (pc := 104) dc_M_readByte_104 (by decide) ?_
          show am_G X mt_M_readByte _ 106 [some (.ref 84), some (.ref ca), some (.int (nI (s + p))), some (.int (nI (s + t))), some (.retAddr 35), some (.retAddr 36), some (.int 15), some (.int 4), some (.int 19), some (.int 1), some (.int 17)] [] _ _
          refine g_iinc (pc := 106) (v := 18) dc_M_readByte_106 rfl (by decide) (by decide) ?_
          show am_G X mt_M_readByte _ 109 [some (.ref 84), some (.ref ca), some (.int (nI (s + p))), some (.int (nI (s + t))), some (.retAddr 35), some (.retAddr 36), some (.int 15), some (.int 4), some (.int 19), some (.int 1), some (.int 18)] [] _ _
          refine g_goto (pc := 109) (tgt := 66) dc_M_readByte_109 rfl ?_
          refine g_iload (pc := 66) dc_M_readByte_66 rfl ?_
          refine g_iload (pc := 68) dc_M_readByte_68 rfl ?_
          refine g_icmp_gt (pc := 70) (tgt := 112) dc_M_readByte_70 rfl (fun hc => absurd hc (by decide)) (fun _ => ?_)
          refine g_iload (pc := 73) dc_M_readByte_73 rfl ?_
          refine g_if_eq (pc := 75) (tgt := 112) dc_M_readByte_75 rfl (fun hc => absurd hc (by decide)) (fun _ => ?_)
          refine g_aload_n (pc := 78) dc_M_readByte_78 rfl ?_
          refine g_iload_n (pc := 79) dc_M_readByte_79 rfl ?_
          refine g_iconst (pc := 80) (v := 1) dc_M_readByte_80 rfl ?_
          refine g_iadd (pc := 81) (v := (nI (s + (p + 1)))) dc_M_readByte_81 (q_as s p 1) ?_
          refine g_iload (pc := 82) dc_M_readByte_82 rfl ?_
          refine g_iadd (pc := 84) (v := (nI (s + (p + 19)))) dc_M_readByte_84 ((q_as s (p + 1) 18).trans (congrArg nI (by omega))) ?_
          refine g_iload (pc := 85) dc_M_readByte_85 rfl ?_
          refine g_isub (pc := 87) (v := (nI (s + (p + 4)))) dc_M_readByte_87 ((q_sn (s := s) (a := p + 19) (b := 15) (by omega)).trans (congrArg nI (by omega))) ?_
          refine q_tx (pc := 88) (p + 4) dc_M_readByte_88 ha hT hs (by omega) hc ?_
          refine g_xload (pc := 89) dc_M_readByte_89 rfl ?_
          refine g_iload (pc := 91) dc_M_readByte_91 rfl ?_
          refine g_x1 (pc := 93) (M' := mt_JString_charAt) dc_M_readByte_93 mo_JString_charAt im_JString_charAt se_JString_charAt (am_t8 197 rfl rfl) (by decide) (Nat.le_of_ble_eq_true rfl) (Nat.le_of_ble_eq_true rfl) (am_G.mono (c_charAt (i := 35) (k := 18) (by decide) (by decide)) ?_)
          intro r h1 hq
          rw [hq.1, hq.2]
          clear hq h1 r
          refine ⟨am_nti _, ?_⟩
          rw [show ch 35 18 = 115 from rfl]
          refine g_icmp_ne (pc := 96) (tgt := 103) dc_M_readByte_96 rfl (fun hc96zzz => ?_) (fun hc96zzz => ?_)
          · refine g_iconst (pc := 103) (v := 0) dc_M_readByte_103 rfl ?_
            refine g_istore (pc := 104) dc_M_readByte_104 (by decide) ?_
            show am_G X mt_M_readByte _ 106 [some (.ref 84), some (.ref ca), some (.int (nI (s + p))), some (.int (nI (s + t))), some (.retAddr 35), some (.retAddr 36), some (.int 15), some (.int 4), some (.int 19), some (.int 0), some (.int 18)] [] _ _
            refine g_iinc (pc := 106) (v := 19) dc_M_readByte_106 rfl (by decide) (by decide) ?_
            show am_G X mt_M_readByte _ 109 [some (.ref 84), some (.ref ca), some (.int (nI (s + p))), some (.int (nI (s + t))), some (.retAddr 35), some (.retAddr 36), some (.int 15), some (.int 4), some (.int 19), some (.int 0), some (.int 19)] [] _ _
            refine g_goto (pc := 109) (tgt := 66) dc_M_readByte_109 rfl ?_
            refine g_iload (pc := 66) dc_M_readByte_66 rfl ?_
            refine g_iload (pc := 68) dc_M_readByte_68 rfl ?_
            refine g_icmp_gt (pc := 70) (tgt := 112) dc_M_readByte_70 rfl (fun hc => absurd hc (by decide)) (fun _ => ?_)
            refine g_iload (pc := 73) dc_M_readByte_73 rfl ?_
            refine g_if_eq (pc := 75) (tgt := 112) dc_M_readByte_75 rfl (fun _ => ?_) (fun hc => absurd hc (by decide))
            refine g_iload (pc := 112) dc_M_readByte_112 rfl ?_
            refine g_if_eq (pc := 114) (tgt := 138) dc_M_readByte_114 rfl (fun _ => ?_) (fun hc => absurd hc (by decide))
            refine g_iload (pc := 138) dc_M_readByte_138 rfl ?_
            refine g_iconst (pc := 140) (v := 1) dc_M_readByte_140 rfl ?_
            refine g_iadd (pc := 141) (v := 20) dc_M_readByte_141 (by decide) ?_
            refine g_istore (pc := 142) dc_M_readByte_142 (by decide) ?_
            show am_G X mt_M_readByte _ 144 [some (.ref 84), some (.ref ca), some (.int (nI (s + p))), some (.int (nI (s + t))), some (.retAddr 35), some (.retAddr 36), some (.int 20), some (.int 4), some (.int 19), some (.int 0), some (.int 19)] [] _ _
            refine g_iinc (pc := 144) (v := 5) dc_M_readByte_144 rfl (by decide) (by decide) ?_
            show am_G X mt_M_readByte _ 147 [some (.ref 84), some (.ref ca), some (.int (nI (s + p))), some (.int (nI (s + t))), some (.retAddr 35), some (.retAddr 36), some (.int 20), some (.int 5), some (.int 19), some (.int 0), some (.int 19)] [] _ _
            refine g_goto (pc := 147) (tgt := 14) dc_M_readByte_147 rfl ?_
            have hk4 : mnm 4 L p t = false := decide_eq_false (fun h9 => hc96zzz (h9.2.2.2.2.1))
            refine am_wk (am_le_s (am_le_s (am_le_s (am_le_s (am_le_s (am_le_s (am_le_s (am_le_s (am_le_n (am_le_n (am_le_n am_le_0))))))))))) ?_
            exact n5_M_readByte hA hx0 hp ht h0 h1 h2 h3 hk4
          · refine g_iconst (pc := 99) (v := 1) dc_M_readByte_99 rfl ?_
            refine g_goto (pc := 100) (tgt := 104) dc_M_readByte_100 rfl ?_
            refine g_istore (pc := 104) dc_M_readByte_104 (by decide) ?_
            show am_G X mt_M_readByte _ 106 [some (.ref 84), some (.ref ca), some (.int (nI (s + p))), some (.int (nI (s + t))), some (.retAddr 35), some (.retAddr 36), some (.int 15), some (.int 4), some (.int 19), some (.int 1), some (.int 18)] [] _ _
            refine g_iinc (pc := 106) (v := 19) dc_M_readByte_106 rfl (by decide) (by decide) ?_
            show am_G X mt_M_readByte _ 109 [some (.ref 84), some (.ref ca), some (.int (nI (s + p))), some (.int (nI (s + t))), some (.retAddr 35), some (.retAddr 36), some (.int 15), some (.int 4), some (.int 19), some (.int 1), some (.int 19)] [] _ _
            refine g_goto (pc := 109) (tgt := 66) dc_M_readByte_109 rfl ?_
            refine g_iload (pc := 66) dc_M_readByte_66 rfl ?_
            refine g_iload (pc := 68) dc_M_readByte_68 rfl ?_
            refine g_icmp_gt (pc := 70) (tgt := 112) dc_M_readByte_70 rfl (fun hc => absurd hc (by decide)) (fun _ => ?_)
            refine g_iload (pc := 73) dc_M_readByte_73 rfl ?_
            refine g_if_eq (pc := 75) (tgt := 112) dc_M_readByte_75 rfl (fun hc => absurd hc (by decide)) (fun _ => ?_)
            refine g_aload_n (pc := 78) dc_M_readByte_78 rfl ?_
            refine g_iload_n (pc := 79) dc_M_readByte_79 rfl ?_
            refine g_iconst (pc := 80) (v := 1) dc_M_readByte_80 rfl ?_
            refine g_iadd (pc := 81) (v := (nI (s + (p + 1)))) dc_M_readByte_81 (q_as s p 1) ?_
            refine g_iload (pc := 82) dc_M_readByte_82 rfl ?_
            refine g_iadd (pc := 84) (v := (nI (s + (p + 20)))) dc_M_readByte_84 ((q_as s (p + 1) 19).trans (congrArg nI (by omega))) ?_
            refine g_iload (pc := 85) dc_M_readByte_85 rfl ?_
            refine g_isub (pc := 87) (v := (nI (s + (p + 5)))) dc_M_readByte_87 ((q_sn (s := s) (a := p + 20) (b := 15) (by omega)).trans (congrArg nI (by omega))) ?_
            refine q_tx (pc := 88) (p + 5) dc_M_readByte_88 ha hT hs (by omega) hc ?_
            refine g_xload (pc := 89) dc_M_readByte_89 rfl ?_
            refine g_iload (pc := 91) dc_M_readByte_91 rfl ?_
            refine g_x1 (pc := 93) (M' := mt_JString_charAt) dc_M_readByte_93 mo_JString_charAt im_JString_charAt se_JString_charAt (am_t8 197 rfl rfl) (by decide) (Nat.le_of_ble_eq_true rfl) (Nat.le_of_ble_eq_true rfl) (am_G.mono (c_charAt (i := 35) (k := 19) (by decide) (by decide)) ?_)
            intro r h1 hq
            rw [hq.1, hq.2]
            clear hq h1 r
            refine ⟨am_nti _, ?_⟩
            rw [show ch 35 19 = 59 from rfl]
            refine g_icmp_ne (pc := 96) (tgt := 103) dc_M_readByte_96 rfl (fun hc96zzzz => ?_) (fun hc96zzzz => ?_)
            · refine g_iconst (pc := 103) (v := 0) dc_M_readByte_103 rfl ?_
              refine g_istore (pc := 104) dc_M_readByte_104 (by decide) ?_
              show am_G X mt_M_readByte _ 106 [some (.ref 84), some (.ref ca), some (.int (nI (s + p))), some (.int (nI (s + t))), some (.retAddr 35), some (.retAddr 36), some (.int 15), some (.int 4), some (.int 19), some (.int 0), some (.int 19)] [] _ _
              refine g_iinc (pc := 106) (v := 20) dc_M_readByte_106 rfl (by decide) (by decide) ?_
              show am_G X mt_M_readByte _ 109 [some (.ref 84), some (.ref ca), some (.int (nI (s + p))), some (.int (nI (s + t))), some (.retAddr 35), some (.retAddr 36), some (.int 15), some (.int 4), some (.int 19), some (.int 0), some (.int 20)] [] _ _
              refine g_goto (pc := 109) (tgt := 66) dc_M_readByte_109 rfl ?_
              refine g_iload (pc := 66) dc_M_readByte_66 rfl ?_
              refine g_iload (pc := 68) dc_M_readByte_68 rfl ?_
              refine g_icmp_gt (pc := 70) (tgt := 112) dc_M_readByte_70 rfl (fun _ => ?_) (fun hc => absurd hc (by decide))
              refine g_iload (pc := 112) dc_M_readByte_112 rfl ?_
              refine g_if_eq (pc := 114) (tgt := 138) dc_M_readByte_114 rfl (fun _ => ?_) (fun hc => absurd hc (by decide))
              refine g_iload (pc := 138) dc_M_readByte_138 rfl ?_
              refine g_iconst (pc := 140) (v := 1) dc_M_readByte_140 rfl ?_
              refine g_iadd (pc := 141) (v := 20) dc_M_readByte_141 (by decide) ?_
              refine g_istore (pc := 142) dc_M_readByte_142 (by decide) ?_
              show am_G X mt_M_readByte _ 144 [some (.ref 84), some (.ref ca), some (.int (nI (s + p))), some (.int (nI (s + t))), some (.retAddr 35), some (.retAddr 36), some (.int 20), some (.int 4), some (.int 19), some (.int 0), some (.int 20)] [] _ _
              refine g_iinc (pc := 144) (v := 5) dc_M_readByte_144 rfl (by decide) (by decide) ?_
              show am_G X mt_M_readByte _ 147 [some (.ref 84), some (.ref ca), some (.int (nI (s + p))), some (.int (nI (s + t))), some (.retAddr 35), some (.retAddr 36), some (.int 20), some (.int 5), some (.int 19), some (.int 0), some (.int 20)] [] _ _
              refine g_goto (pc := 147) (tgt := 14) dc_M_readByte_147 rfl ?_
              have hk4 : mnm 4 L p t = false := decide_eq_false (fun h9 => hc96zzzz (h9.2.2.2.2.2))
              refine am_wk (am_le_s (am_le_s (am_le_s (am_le_s (am_le_s (am_le_s (am_le_s (am_le_s (am_le_n (am_le_n (am_le_n am_le_0))))))))))) ?_
              exact n5_M_readByte hA hx0 hp ht h0 h1 h2 h3 hk4
            · refine g_iconst (pc := 99) (v := 1) dc_M_readByte_99 rfl ?_
              refine g_goto (pc := 100) (tgt := 104) dc_M_readByte_100 rfl ?_
              refine g_istore (pc := 104) dc_M_readByte_104 (by decide) ?_
              show am_G X mt_M_readByte _ 106 [some (.ref 84), some (.ref ca), some (.int (nI (s + p))), some (.int (nI (s + t))), some (.retAddr 35), some (.retAddr 36), some (.int 15), some (.int 4), some (.int 19), some (.int 1), some (.int 19)] [] _ _
              refine g_iinc (pc := 106) (v := 20) dc_M_readByte_106 rfl (by decide) (by decide) ?_
              show am_G X mt_M_readByte _ 109 [some (.ref 84), some (.ref ca), some (.int (nI (s + p))), some (.int (nI (s + t))), some (.retAddr 35), some (.retAddr 36), some (.int 15), some (.int 4), some (.int 19), some (.int 1), some (.int 20)] [] _ _
              refine g_goto (pc := 109) (tgt := 66) dc_M_readByte_109 rfl ?_
              refine g_iload (pc := 66) dc_M_readByte_66 rfl ?_
              refine g_iload (pc := 68) dc_M_readByte_68 rfl ?_
              refine g_icmp_gt (pc := 70) (tgt := 112) dc_M_readByte_70 rfl (fun _ => ?_) (fun hc => absurd hc (by decide))
              refine g_iload (pc := 112) dc_M_readByte_112 rfl ?_
              refine g_if_eq (pc := 114) (tgt := 138) dc_M_readByte_114 rfl (fun hc => absurd hc (by decide)) (fun _ => ?_)
              refine g_aload_n (pc := 117) dc_M_readByte_117 rfl ?_
              refine g_xload (pc := 118) dc_M_readByte_118 rfl ?_
              refine g_iload (pc := 120) dc_M_readByte_120 rfl ?_
              refine g_x1 (pc := 122) (M' := mt_JString_charAt) dc_M_readByte_122 mo_JString_charAt im_JString_charAt se_JString_charAt (am_t8 197 rfl rfl) (by decide) (Nat.le_of_ble_eq_true rfl) (Nat.le_of_ble_eq_true rfl) (am_G.mono (c_charAt (i := 36) (k := 4) (by decide) (by decide)) ?_)
              intro r h1 hq
              rw [hq.1, hq.2]
              clear hq h1 r
              refine ⟨am_nti _, ?_⟩
              rw [show ch 36 4 = 39 from rfl]
              refine pf_byteValue (pc := 125) (v := 39) hA dc_M_readByte_125 fp_M_readByte_217 ?_
              refine g_iload_n (pc := 128) dc_M_readByte_128 rfl ?_
              refine g_iconst (pc := 129) (v := 2) dc_M_readByte_129 rfl ?_
              refine g_iadd (pc := 130) (v := (nI (s + (p + 2)))) dc_M_readByte_130 (q_as s p 2) ?_
              refine g_iload (pc := 131) dc_M_readByte_131 rfl ?_
              refine g_iadd (pc := 133) (v := (nI (s + (p + 21)))) dc_M_readByte_133 ((q_as s (p + 2) 19).trans (congrArg nI (by omega))) ?_
              refine g_iload (pc := 134) dc_M_readByte_134 rfl ?_
              refine g_isub (pc := 136) (v := (nI (s + (p + 6)))) dc_M_readByte_136 ((q_sn (s := s) (a := p + 21) (b := 15) (by omega)).trans (congrArg nI (by omega))) ?_
              have hm : mnm 4 L p t = true := decide_eq_true ⟨by omega, hc96, hc96z, hc96zz, hc96zzz, hc96zzzz⟩
              have e9 : mrb L p t = some (39, p + 6) := by unfold mrb; rw [if_neg (by rw [h0]; decide), if_neg (by rw [h1]; decide), if_neg (by rw [h2]; decide), if_neg (by rw [h3]; decide), if_pos hm]
              exact g_ireturn dc_M_readByte_137 rfl ⟨by rw [e9]; rfl, by rw [e9]; rfl⟩
theorem n3_M_readByte (hA : A.length = 84) (hx : tt (mput A S B) ca s L) (hp : p < t) (ht : t ≤ L.length) (h0 : mnm 0 L p t = false) (h1 : mnm 1 L p t = false) (h2 : mnm 2 L p t = false) : am_G X mt_M_readByte (d + 4) 14 [some (.ref 84), some (.ref ca), some (.int (nI (s + p))), some (.int (nI (s + t))), some (.retAddr 35), some (.retAddr 36), some (.int 10), some (.int 3), none, none, none] [] (mput A S B) (fun r h1 => r = some (.int (er ((mrb L p t).map (fun q => s + q.2)))) ∧ h1 = mput A (match mrb L p t with | some q => S.s_byteValue (nI q.1) | none => S) B) := by
  have hx0 := hx
  obtain ⟨cap, g, ha, hT, hs, hc⟩ := hx
  refine g_iload (pc := 14) dc_M_readByte_14 rfl ?_
  refine g_iconst (pc := 16) (v := 5) dc_M_readByte_16 rfl ?_
  refine g_icmp_ge (pc := 17) (tgt := 150) dc_M_readByte_17 rfl (fun hc => absurd hc (by decide)) (fun _ => ?_)
  refine g_iload (pc := 20) dc_M_readByte_20 rfl ?_
  refine g_istore (pc := 22) dc_M_readByte_22 (by decide) ?_
  show am_G X mt_M_readByte _ 24 [some (.ref 84), some (.ref ca), some (.int (nI (s + p))), some (.int (nI (s + t))), some (.retAddr 35), some (.retAddr 36), some (.int 10), some (.int 3), some (.int 10), none, none] [] _ _
  refine g_xload (pc := 24) dc_M_readByte_24 rfl ?_
  refine g_iload (pc := 26) dc_M_readByte_26 rfl ?_
  refine g_x1 (pc := 28) (M' := mt_JString_charAt) dc_M_readByte_28 mo_JString_charAt im_JString_charAt se_JString_charAt (am_t8 197 rfl rfl) (by decide) (Nat.le_of_ble_eq_true rfl) (Nat.le_of_ble_eq_true rfl) (am_G.mono (c_charAt (i := 35) (k := 10) (by decide) (by decide)) ?_)
  intro r h1 hq
  rw [hq.1, hq.2]
  clear hq h1 r
  refine ⟨am_nti _, ?_⟩
  rw [show ch 35 10 = 113 from rfl]
  refine g_bipush (pc := 31) (v := 59) dc_M_readByte_31 rfl ?_
  refine g_icmp_eq (pc := 33) (tgt := 42) dc_M_readByte_33 rfl (fun hc => absurd hc (by decide)) (fun _ => ?_)
  refine g_iinc (pc := 36) (v := 11) dc_M_readByte_36 rfl (by decide) (by decide) ?_
  show am_G X mt_M_readByte _ 39 [some (.ref 84), some (.ref ca), some (.int (nI (s + p))), some (.int (nI (s + t))), some (.retAddr 35), some (.retAddr 36), some (.int 10), some (.int 3), some (.int 11), none, none] [] _ _
  refine g_goto (pc := 39) (tgt := 24) dc_M_readByte_39 rfl ?_
  refine g_xload (pc := 24) dc_M_readByte_24 rfl ?_
  refine g_iload (pc := 26) dc_M_readByte_26 rfl ?_
  refine g_x1 (pc := 28) (M' := mt_JString_charAt) dc_M_readByte_28 mo_JString_charAt im_JString_charAt se_JString_charAt (am_t8 197 rfl rfl) (by decide) (Nat.le_of_ble_eq_true rfl) (Nat.le_of_ble_eq_true rfl) (am_G.mono (c_charAt (i := 35) (k := 11) (by decide) (by decide)) ?_)
  intro r h1 hq
  rw [hq.1, hq.2]
  clear hq h1 r
  refine ⟨am_nti _, ?_⟩
  rw [show ch 35 11 = 117 from rfl]
  refine g_bipush (pc := 31) (v := 59) dc_M_readByte_31 rfl ?_
  refine g_icmp_eq (pc := 33) (tgt := 42) dc_M_readByte_33 rfl (fun hc => absurd hc (by decide)) (fun _ => ?_)
  refine g_iinc (pc := 36) (v := 12) dc_M_readByte_36 rfl (by decide) (by decide) ?_
  show am_G X mt_M_readByte _ 39 [some (.ref 84), some (.ref ca), some (.int (nI (s + p))), some (.int (nI (s + t))), some (.retAddr 35), some (.retAddr 36), some (.int 10), some (.int 3), some (.int 12), none, none] [] _ _
  refine g_goto (pc := 39) (tgt := 24) dc_M_readByte_39 rfl ?_
  refine g_xload (pc := 24) dc_M_readByte_24 rfl ?_
  refine g_iload (pc := 26) dc_M_readByte_26 rfl ?_
  refine g_x1 (pc := 28) (M' := mt_JString_charAt) dc_M_readByte_28 mo_JString_charAt im_JString_charAt se_JString_charAt (am_t8 197 rfl rfl) (by decide) (Nat.le_of_ble_eq_true rfl) (Nat.le_of_ble_eq_true rfl) (am_G.mono (c_charAt (i := 35) (k := 12) (by decide) (by decide)) ?_)
  intro r h1 hq
  rw [hq.1, hq.2]
  clear hq h1 r
  refine ⟨am_nti _, ?_⟩
  rw [show ch 35 12 = 111 from rfl]
  refine g_bipush (pc := 31) (v := 59) dc_M_readByte_31 rfl ?_
  refine g_icmp_eq (pc := 33) (tgt := 42) dc_M_readByte_33 rfl (fun hc => absurd hc (by decide)) (fun _ => ?_)
  refine g_iinc (pc := 36) (v := 13) dc_M_readByte_36 rfl (by decide) (by decide) ?_
  show am_G X mt_M_readByte _ 39 [some (.ref 84), some (.ref ca), some (.int (nI (s + p))), some (.int (nI (s + t))), some (.retAddr 35), some (.retAddr 36), some (.int 10), some (.int 3), some (.int 13), none, none] [] _ _
  refine g_goto (pc := 39) (tgt := 24) dc_M_readByte_39 rfl ?_
  refine g_xload (pc := 24) dc_M_readByte_24 rfl ?_
  refine g_iload (pc := 26) dc_M_readByte_26 rfl ?_
  refine g_x1 (pc := 28) (M' := mt_JString_charAt) dc_M_readByte_28 mo_JString_charAt im_JString_charAt se_JString_charAt (am_t8 197 rfl rfl) (by decide) (Nat.le_of_ble_eq_true rfl) (Nat.le_of_ble_eq_true rfl) (am_G.mono (c_charAt (i := 35) (k := 13) (by decide) (by decide)) ?_)
  intro r h1 hq
  rw [hq.1, hq.2]
  clear hq h1 r
  refine ⟨am_nti _, ?_⟩
  rw [show ch 35 13 = 116 from rfl]
  refine g_bipush (pc := 31) (v := 59) dc_M_readByte_31 rfl ?_
  refine g_icmp_eq (pc := 33) (tgt := 42) dc_M_readByte_33 rfl (fun hc => absurd hc (by decide)) (fun _ => ?_)
  refine g_iinc (pc := 36) (v := 14) dc_M_readByte_36 rfl (by decide) (by decide) ?_
  show am_G X mt_M_readByte _ 39 [some (.ref 84), some (.ref ca), some (.int (nI (s + p))), some (.int (nI (s + t))), some (.retAddr 35), some (.retAddr 36), some (.int 10), some (.int 3), some (.int 14), none, none] [] _ _
  refine g_goto (pc := 39) (tgt := 24) dc_M_readByte_39 rfl ?_
  refine g_xload (pc := 24) dc_M_readByte_24 rfl ?_
  refine g_iload (pc := 26) dc_M_readByte_26 rfl ?_
  refine g_x1 (pc := 28) (M' := mt_JString_charAt) dc_M_readByte_28 mo_JString_charAt im_JString_charAt se_JString_charAt (am_t8 197 rfl rfl) (by decide) (Nat.le_of_ble_eq_true rfl) (Nat.le_of_ble_eq_true rfl) (am_G.mono (c_charAt (i := 35) (k := 14) (by decide) (by decide)) ?_)
  intro r h1 hq
  rw [hq.1, hq.2]
  clear hq h1 r
  refine ⟨am_nti _, ?_⟩
  rw [show ch 35 14 = 59 from rfl]
  refine g_bipush (pc := 31) (v := 59) dc_M_readByte_31 rfl ?_
  refine g_icmp_eq (pc := 33) (tgt := 42) dc_M_readByte_33 rfl (fun _ => ?_) (fun hc => absurd hc (by decide))
  refine g_iload_n (pc := 42) dc_M_readByte_42 rfl ?_
  refine g_iconst (pc := 43) (v := 2) dc_M_readByte_43 rfl ?_
  refine g_iadd (pc := 44) (v := (nI (s + (p + 2)))) dc_M_readByte_44 (q_as s p 2) ?_
  refine g_iload (pc := 45) dc_M_readByte_45 rfl ?_
  refine g_iadd (pc := 47) (v := (nI (s + (p + 16)))) dc_M_readByte_47 ((q_as s (p + 2) 14).trans (congrArg nI (by omega))) ?_
  refine g_iload (pc := 48) dc_M_readByte_48 rfl ?_
  refine g_isub (pc := 50) (v := (nI (s + (p + 6)))) dc_M_readByte_50 ((q_sn (s := s) (a := p + 16) (b := 10) (by omega)).trans (congrArg nI (by omega))) ?_
  refine g_iload_n (pc := 51) dc_M_readByte_51 rfl ?_
  refine q_icmp_gt (pc := 52) (tgt := 59) (s + (p + 6)) (s + t) dc_M_readByte_52 (by omega) (by omega) rfl (fun hc52 => ?_) (fun hc52 => ?_)
  · refine g_iconst (pc := 59) (v := 0) dc_M_readByte_59 rfl ?_
    refine g_istore (pc := 60) dc_M_readByte_60 (by decide) ?_
    show am_G X mt_M_readByte _ 62 [some (.ref 84), some (.ref ca), some (.int (nI (s + p))), some (.int (nI (s + t))), some (.retAddr 35), some (.retAddr 36), some (.int 10), some (.int 3), some (.int 14), some (.int 0), none] [] _ _
    refine g_iload (pc := 62) dc_M_readByte_62 rfl ?_
    refine g_istore (pc := 64) dc_M_readByte_64 (by decide) ?_
    show am_G X mt_M_readByte _ 66 [some (.ref 84), some (.ref ca), some (.int (nI (s + p))), some (.int (nI (s + t))), some (.retAddr 35), some (.retAddr 36), some (.int 10), some (.int 3), some (.int 14), some (.int 0), some (.int 10)] [] _ _
    refine g_iload (pc := 66) dc_M_readByte_66 rfl ?_
    refine g_iload (pc := 68) dc_M_readByte_68 rfl ?_
    refine g_icmp_gt (pc := 70) (tgt := 112) dc_M_readByte_70 rfl (fun hc => absurd hc (by decide)) (fun _ => ?_)
    refine g_iload (pc := 73) dc_M_readByte_73 rfl ?_
    refine g_if_eq (pc := 75) (tgt := 112) dc_M_readByte_75 rfl (fun _ => ?_) (fun hc => absurd hc (by decide))
    refine g_iload (pc := 112) dc_M_readByte_112 rfl ?_
    refine g_if_eq (pc := 114) (tgt := 138) dc_M_readByte_114 rfl (fun _ => ?_) (fun hc => absurd hc (by decide))
    refine g_iload (pc := 138) dc_M_readByte_138 rfl ?_
    refine g_iconst (pc := 140) (v := 1) dc_M_readByte_140 rfl ?_
    refine g_iadd (pc := 141) (v := 15) dc_M_readByte_141 (by decide) ?_
    refine g_istore (pc := 142) dc_M_readByte_142 (by decide) ?_
    show am_G X mt_M_readByte _ 144 [some (.ref 84), some (.ref ca), some (.int (nI (s + p))), some (.int (nI (s + t))), some (.retAddr 35), some (.retAddr 36), some (.int 15), some (.int 3), some (.int 14), some (.int 0), some (.int 10)] [] _ _
    refine g_iinc (pc := 144) (v := 4) dc_M_readByte_144 rfl (by decide) (by decide) ?_
    show am_G X mt_M_readByte _ 147 [some (.ref 84), some (.ref ca), some (.int (nI (s + p))), some (.int (nI (s + t))), some (.retAddr 35), some (.retAddr 36), some (.int 15), some (.int 4), some (.int 14), some (.int 0), some (.int 10)] [] _ _
    refine g_goto (pc := 147) (tgt := 14) dc_M_readByte_147 rfl ?_
    have hk3 : mnm 3 L p t = false := decide_eq_false (fun h9 => by have h10 := h9.1; omega)
    refine am_wk (am_le_s (am_le_s (am_le_s (am_le_s (am_le_s (am_le_s (am_le_s (am_le_s (am_le_n (am_le_n (am_le_n am_le_0))))))))))) ?_
    exact n4_M_readByte hA hx0 hp ht h0 h1 h2 hk3
  · refine g_iconst (pc := 55) (v := 1) dc_M_readByte_55 rfl ?_
    refine g_goto (pc := 56) (tgt := 60) dc_M_readByte_56 rfl ?_
    refine g_istore (pc := 60) dc_M_readByte_60 (by decide) ?_
    show am_G X mt_M_readByte _ 62 [some (.ref 84), some (.ref ca), some (.int (nI (s + p))), some (.int (nI (s + t))), some (.retAddr 35), some (.retAddr 36), some (.int 10), some (.int 3), some (.int 14), some (.int 1), none] [] _ _
    refine g_iload (pc := 62) dc_M_readByte_62 rfl ?_
    refine g_istore (pc := 64) dc_M_readByte_64 (by decide) ?_
    show am_G X mt_M_readByte _ 66 [some (.ref 84), some (.ref ca), some (.int (nI (s + p))), some (.int (nI (s + t))), some (.retAddr 35), some (.retAddr 36), some (.int 10), some (.int 3), some (.int 14), some (.int 1), some (.int 10)] [] _ _
    refine g_iload (pc := 66) dc_M_readByte_66 rfl ?_
    refine g_iload (pc := 68) dc_M_readByte_68 rfl ?_
    refine g_icmp_gt (pc := 70) (tgt := 112) dc_M_readByte_70 rfl (fun hc => absurd hc (by decide)) (fun _ => ?_)
    refine g_iload (pc := 73) dc_M_readByte_73 rfl ?_
    refine g_if_eq (pc := 75) (tgt := 112) dc_M_readByte_75 rfl (fun hc => absurd hc (by decide)) (fun _ => ?_)
    refine g_aload_n (pc := 78) dc_M_readByte_78 rfl ?_
    refine g_iload_n (pc := 79) dc_M_readByte_79 rfl ?_
    refine g_iconst (pc := 80) (v := 1) dc_M_readByte_80 rfl ?_
    refine g_iadd (pc := 81) (v := (nI (s + (p + 1)))) dc_M_readByte_81 (q_as s p 1) ?_
    refine g_iload (pc := 82) dc_M_readByte_82 rfl ?_
    refine g_iadd (pc := 84) (v := (nI (s + (p + 11)))) dc_M_readByte_84 ((q_as s (p + 1) 10).trans (congrArg nI (by omega))) ?_
    refine g_iload (pc := 85) dc_M_readByte_85 rfl ?_
    refine g_isub (pc := 87) (v := (nI (s + (p + 1)))) dc_M_readByte_87 ((q_sn (s := s) (a := p + 11) (b := 10) (by omega)).trans (congrArg nI (by omega))) ?_
    refine q_tx (pc := 88) (p + 1) dc_M_readByte_88 ha hT hs (by omega) hc ?_
    refine g_xload (pc := 89) dc_M_readByte_89 rfl ?_
    refine g_iload (pc := 91) dc_M_readByte_91 rfl ?_
    refine g_x1 (pc := 93) (M' := mt_JString_charAt) dc_M_readByte_93 mo_JString_charAt im_JString_charAt se_JString_charAt (am_t8 197 rfl rfl) (by decide) (Nat.le_of_ble_eq_true rfl) (Nat.le_of_ble_eq_true rfl) (am_G.mono (c_charAt (i := 35) (k := 10) (by decide) (by decide)) ?_)
    intro r h1 hq
    rw [hq.1, hq.2]
    clear hq h1 r
    refine ⟨am_nti _, ?_⟩
    rw [show ch 35 10 = 113 from rfl]
    refine g_icmp_ne (pc := 96) (tgt := 103) dc_M_readByte_96 rfl (fun hc96 => ?_) (fun hc96 => ?_)
    · refine g_iconst (pc := 103) (v := 0) dc_M_readByte_103 rfl ?_
      refine g_istore (pc := 104) dc_M_readByte_104 (by decide) ?_
      show am_G X mt_M_readByte _ 106 [some (.ref 84), some (.ref ca), some (.int (nI (s + p))), some (.int (nI (s + t))), some (.retAddr 35), some (.retAddr 36), some (.int 10), some (.int 3), some (.int 14), some (.int 0), some (.int 10)] [] _ _
      refine g_iinc (pc := 106) (v := 11) dc_M_readByte_106 rfl (by decide) (by decide) ?_
      show am_G X mt_M_readByte _ 109 [some (.ref 84), some (.ref ca), some (.int (nI (s + p))), some (.int (nI (s + t))), some (.retAddr 35), some (.retAddr 36), some (.int 10), some (.int 3), some (.int 14), some (.int 0), some (.int 11)] [] _ _
      refine g_goto (pc := 109) (tgt := 66) dc_M_readByte_109 rfl ?_
      refine g_iload (pc := 66) dc_M_readByte_66 rfl ?_
      refine g_iload (pc := 68) dc_M_readByte_68 rfl ?_
      refine g_icmp_gt (pc := 70) (tgt := 112) dc_M_readByte_70 rfl (fun hc => absurd hc (by decide)) (fun _ => ?_)
      refine g_iload (pc := 73) dc_M_readByte_73 rfl ?_
      refine g_if_eq (pc := 75) (tgt := 112) dc_M_readByte_75 rfl (fun _ => ?_) (fun hc => absurd hc (by decide))
      refine g_iload (pc := 112) dc_M_readByte_112 rfl ?_
      refine g_if_eq (pc := 114) (tgt := 138) dc_M_readByte_114 rfl (fun _ => ?_) (fun hc => absurd hc (by decide))
      refine g_iload (pc := 138) dc_M_readByte_138 rfl ?_
      refine g_iconst (pc := 140) (v := 1) dc_M_readByte_140 rfl ?_
      refine g_iadd (pc := 141) (v := 15) dc_M_readByte_141 (by decide) ?_
      refine g_istore (pc := 142) dc_M_readByte_142 (by decide) ?_
      show am_G X mt_M_readByte _ 144 [some (.ref 84), some (.ref ca), some (.int (nI (s + p))), some (.int (nI (s + t))), some (.retAddr 35), some (.retAddr 36), some (.int 15), some (.int 3), some (.int 14), some (.int 0), some (.int 11)] [] _ _
      refine g_iinc (pc := 144) (v := 4) dc_M_readByte_144 rfl (by decide) (by decide) ?_
      show am_G X mt_M_readByte _ 147 [some (.ref 84), some (.ref ca), some (.int (nI (s + p))), some (.int (nI (s + t))), some (.retAddr 35), some (.retAddr 36), some (.int 15), some (.int 4), some (.int 14), some (.int 0), some (.int 11)] [] _ _
      refine g_goto (pc := 147) (tgt := 14) dc_M_readByte_147 rfl ?_
      have hk3 : mnm 3 L p t = false := decide_eq_false (fun h9 => hc96 (h9.2.1))
      refine am_wk (am_le_s (am_le_s (am_le_s (am_le_s (am_le_s (am_le_s (am_le_s (am_le_s (am_le_n (am_le_n (am_le_n am_le_0))))))))))) ?_
      exact n4_M_readByte hA hx0 hp ht h0 h1 h2 hk3
    · refine g_iconst (pc := 99) (v := 1) dc_M_readByte_99 rfl ?_
      refine g_goto (pc := 100) (tgt := 104) dc_M_readByte_100 rfl ?_
      refine g_istore (pc := 104) dc_M_readByte_104 (by decide) ?_
      show am_G X mt_M_readByte _ 106 [some (.ref 84), some (.ref ca), some (.int (nI (s + p))), some (.int (nI (s + t))), some (.retAddr 35), some (.retAddr 36), some (.int 10), some (.int 3), some (.int 14), some (.int 1), some (.int 10)] [] _ _
      refine g_iinc (pc := 106) (v := 11) dc_M_readByte_106 rfl (by decide) (by decide) ?_
      show am_G X mt_M_readByte _ 109 [some (.ref 84), some (.ref ca), some (.int (nI (s + p))), some (.int (nI (s + t))), some (.retAddr 35), some (.retAddr 36), some (.int 10), some (.int 3), some (.int 14), some (.int 1), some (.int 11)] [] _ _
      refine g_goto (pc := 109) (tgt := 66) dc_M_readByte_109 rfl ?_
      refine g_iload (pc := 66) dc_M_readByte_66 rfl ?_
      refine g_iload (pc := 68) dc_M_readByte_68 rfl ?_
      refine g_icmp_gt (pc := 70) (tgt := 112) dc_M_readByte_70 rfl (fun hc => absurd hc (by decide)) (fun _ => ?_)
      refine g_iload (pc := 73) dc_M_readByte_73 rfl ?_
      refine g_if_eq (pc := 75) (tgt := 112) dc_M_readByte_75 rfl (fun hc => absurd hc (by decide)) (fun _ => ?_)
      refine g_aload_n (pc := 78) dc_M_readByte_78 rfl ?_
      refine g_iload_n (pc := 79) dc_M_readByte_79 rfl ?_
      refine g_iconst (pc := 80) (v := 1) dc_M_readByte_80 rfl ?_
      refine g_iadd (pc := 81) (v := (nI (s + (p + 1)))) dc_M_readByte_81 (q_as s p 1) ?_
      refine g_iload (pc := 82) dc_M_readByte_82 rfl ?_
      refine g_iadd (pc := 84) (v := (nI (s + (p + 12)))) dc_M_readByte_84 ((q_as s (p + 1) 11).trans (congrArg nI (by omega))) ?_
      refine g_iload (pc := 85) dc_M_readByte_85 rfl ?_
      refine g_isub (pc := 87) (v := (nI (s + (p + 2)))) dc_M_readByte_87 ((q_sn (s := s) (a := p + 12) (b := 10) (by omega)).trans (congrArg nI (by omega))) ?_
      refine q_tx (pc := 88) (p + 2) dc_M_readByte_88 ha hT hs (by omega) hc ?_
      refine g_xload (pc := 89) dc_M_readByte_89 rfl ?_
      refine g_iload (pc := 91) dc_M_readByte_91 rfl ?_
      refine g_x1 (pc := 93) (M' := mt_JString_charAt) dc_M_readByte_93 mo_JString_charAt im_JString_charAt se_JString_charAt (am_t8 197 rfl rfl) (by decide) (Nat.le_of_ble_eq_true rfl) (Nat.le_of_ble_eq_true rfl) (am_G.mono (c_charAt (i := 35) (k := 11) (by decide) (by decide)) ?_)
      intro r h1 hq
      rw [hq.1, hq.2]
      clear hq h1 r
      refine ⟨am_nti _, ?_⟩
      rw [show ch 35 11 = 117 from rfl]
      refine g_icmp_ne (pc := 96) (tgt := 103) dc_M_readByte_96 rfl (fun hc96z => ?_) (fun hc96z => ?_)
      · refine g_iconst (pc := 103) (v := 0) dc_M_readByte_103 rfl ?_
        refine g_istore (pc := 104) dc_M_readByte_104 (by decide) ?_
        show am_G X mt_M_readByte _ 106 [some (.ref 84), some (.ref ca), some (.int (nI (s + p))), some (.int (nI (s + t))), some (.retAddr 35), some (.retAddr 36), some (.int 10), some (.int 3), some (.int 14), some (.int 0), some (.int 11)] [] _ _
        refine g_iinc (pc := 106) (v := 12) dc_M_readByte_106 rfl (by decide) (by decide) ?_
        show am_G X mt_M_readByte _ 109 [some (.ref 84), some (.ref ca), some (.int (nI (s + p))), some (.int (nI (s + t))), some (.retAddr 35), some (.retAddr 36), some (.int 10), some (.int 3), some (.int 14), some (.int 0), some (.int 12)] [] _ _
        refine g_goto (pc := 109) (tgt := 66) dc_M_readByte_109 rfl ?_
        refine g_iload (pc := 66) dc_M_readByte_66 rfl ?_
        refine g_iload (pc := 68) dc_M_readByte_68 rfl ?_
        refine g_icmp_gt (pc := 70) (tgt := 112) dc_M_readByte_70 rfl (fun hc => absurd hc (by decide)) (fun _ => ?_)
        refine g_iload (pc := 73) dc_M_readByte_73 rfl ?_
        refine g_if_eq (pc := 75) (tgt := 112) dc_M_readByte_75 rfl (fun _ => ?_) (fun hc => absurd hc (by decide))
        refine g_iload (pc := 112) dc_M_readByte_112 rfl ?_
        refine g_if_eq (pc := 114) (tgt := 138) dc_M_readByte_114 rfl (fun _ => ?_) (fun hc => absurd hc (by decide))
        refine g_iload (pc := 138) dc_M_readByte_138 rfl ?_
        refine g_iconst (pc := 140) (v := 1) dc_M_readByte_140 rfl ?_
        refine g_iadd (pc := 141) (v := 15) dc_M_readByte_141 (by decide) ?_
        refine g_istore (pc := 142) dc_M_readByte_142 (by decide) ?_
        show am_G X mt_M_readByte _ 144 [some (.ref 84), some (.ref ca), some (.int (nI (s + p))), some (.int (nI (s + t))), some (.retAddr 35), some (.retAddr 36), some (.int 15), some (.int 3), some (.int 14), some (.int 0), some (.int 12)] [] _ _
        refine g_iinc (pc := 144) (v := 4) dc_M_readByte_144 rfl (by decide) (by decide) ?_
        show am_G X mt_M_readByte _ 147 [some (.ref 84), some (.ref ca), some (.int (nI (s + p))), some (.int (nI (s + t))), some (.retAddr 35), some (.retAddr 36), some (.int 15), some (.int 4), some (.int 14), some (.int 0), some (.int 12)] [] _ _
        refine g_goto (pc := 147) (tgt := 14) dc_M_readByte_147 rfl ?_
        have hk3 : mnm 3 L p t = false := decide_eq_false (fun h9 => hc96z (h9.2.2.1))
        refine am_wk (am_le_s (am_le_s (am_le_s (am_le_s (am_le_s (am_le_s (am_le_s (am_le_s (am_le_n (am_le_n (am_le_n am_le_0))))))))))) ?_
        exact n4_M_readByte hA hx0 hp ht h0 h1 h2 hk3
      · refine g_iconst (pc := 99) (v := 1) dc_M_readByte_99 rfl ?_
        refine g_goto (pc := 100) (tgt := 104) dc_M_readByte_100 rfl ?_
        refine g_istore (pc := 104) dc_M_readByte_104 (by decide) ?_
        show am_G X mt_M_readByte _ 106 [some (.ref 84), some (.ref ca), some (.int (nI (s + p))), some (.int (nI (s + t))), some (.retAddr 35), some (.retAddr 36), some (.int 10), some (.int 3), some (.int 14), some (.int 1), some (.int 11)] [] _ _
        refine g_iinc (pc := 106) (v := 12) dc_M_readByte_106 rfl (by decide) (by decide) ?_
        show am_G X mt_M_readByte _ 109 [some (.ref 84), some (.ref ca), some (.int (nI (s + p))), some (.int (nI (s + t))), some (.retAddr 35), some (.retAddr 36), some (.int 10), some (.int 3), some (.int 14), some (.int 1), some (.int 12)] [] _ _
        refine g_goto (pc := 109) (tgt := 66) dc_M_readByte_109 rfl ?_
        refine g_iload (pc := 66) dc_M_readByte_66 rfl ?_
        refine g_iload (pc := 68) dc_M_readByte_68 rfl ?_
        refine g_icmp_gt (pc := 70) (tgt := 112) dc_M_readByte_70 rfl (fun hc => absurd hc (by decide)) (fun _ => ?_)
        refine g_iload (pc := 73) dc_M_readByte_73 rfl ?_
        refine g_if_eq (pc := 75) (tgt := 112) dc_M_readByte_75 rfl (fun hc => absurd hc (by decide)) (fun _ => ?_)
        refine g_aload_n (pc := 78) dc_M_readByte_78 rfl ?_
        refine g_iload_n (pc := 79) dc_M_readByte_79 rfl ?_
        refine g_iconst (pc := 80) (v := 1) dc_M_readByte_80 rfl ?_
        refine g_iadd (pc := 81) (v := (nI (s + (p + 1)))) dc_M_readByte_81 (q_as s p 1) ?_
        refine g_iload (pc := 82) dc_M_readByte_82 rfl ?_
        refine g_iadd (pc := 84) (v := (nI (s + (p + 13)))) dc_M_readByte_84 ((q_as s (p + 1) 12).trans (congrArg nI (by omega))) ?_
        refine g_iload (pc := 85) dc_M_readByte_85 rfl ?_
        refine g_isub (pc := 87) (v := (nI (s + (p + 3)))) dc_M_readByte_87 ((q_sn (s := s) (a := p + 13) (b := 10) (by omega)).trans (congrArg nI (by omega))) ?_
        refine q_tx (pc := 88) (p + 3) dc_M_readByte_88 ha hT hs (by omega) hc ?_
        refine g_xload (pc := 89) dc_M_readByte_89 rfl ?_
        refine g_iload (pc := 91) dc_M_readByte_91 rfl ?_
        refine g_x1 (pc := 93) (M' := mt_JString_charAt) dc_M_readByte_93 mo_JString_charAt im_JString_charAt se_JString_charAt (am_t8 197 rfl rfl) (by decide) (Nat.le_of_ble_eq_true rfl) (Nat.le_of_ble_eq_true rfl) (am_G.mono (c_charAt (i := 35) (k := 12) (by decide) (by decide)) ?_)
        intro r h1 hq
        rw [hq.1, hq.2]
        clear hq h1 r
        refine ⟨am_nti _, ?_⟩
        rw [show ch 35 12 = 111 from rfl]
        refine g_icmp_ne (pc := 96) (tgt := 103) dc_M_readByte_96 rfl (fun hc96zz => ?_) (fun hc96zz => ?_)
        · refine g_iconst (pc := 103) (v := 0) dc_M_readByte_103 rfl ?_
          refine g_istore (pc := 104) dc_M_readByte_104 (by decide) ?_
          show am_G X mt_M_readByte _ 106 [some (.ref 84), some (.ref ca), some (.int (nI (s + p))), some (.int (nI (s + t))), some (.retAddr 35), some (.retAddr 36), some (.int 10), some (.int 3), some (.int 14), some (.int 0), some (.int 12)] [] _ _
          refine g_iinc (pc := 106) (v := 13) dc_M_readByte_106 rfl (by decide) (by decide) ?_
          show am_G X mt_M_readByte _ 109 [some (.ref 84), some (.ref ca), some (.int (nI (s + p))), some (.int (nI (s + t))), some (.retAddr 35), some (.retAddr 36), some (.int 10), some (.int 3), some (.int 14), some (.int 0), some (.int 13)] [] _ _
          refine g_goto (pc := 109) (tgt := 66) dc_M_readByte_109 rfl ?_
          refine g_iload (pc := 66) dc_M_readByte_66 rfl ?_
          refine g_iload (pc := 68) dc_M_readByte_68 rfl ?_
          refine g_icmp_gt (pc := 70) (tgt := 112) dc_M_readByte_70 rfl (fun hc => absurd hc (by decide)) (fun _ => ?_)
          refine g_iload (pc := 73) dc_M_readByte_73 rfl ?_
          refine g_if_eq (pc := 75) (tgt := 112) dc_M_readByte_75 rfl (fun _ => ?_) (fun hc => absurd hc (by decide))
          refine g_iload (pc := 112) dc_M_readByte_112 rfl ?_
          refine g_if_eq (pc := 114) (tgt := 138) dc_M_readByte_114 rfl (fun _ => ?_) (fun hc => absurd hc (by decide))
          refine g_iload (pc := 138) dc_M_readByte_138 rfl ?_
          refine g_iconst (pc := 140) (v := 1) dc_M_readByte_140 rfl ?_
          refine g_iadd (pc := 141) (v := 15) dc_M_readByte_141 (by decide) ?_
          refine g_istore (pc := 142) dc_M_readByte_142 (by decide) ?_
          show am_G X mt_M_readByte _ 144 [some (.ref 84), some (.ref ca), some (.int (nI (s + p))), some (.int (nI (s + t))), some (.retAddr 35), some (.retAddr 36), some (.int 15), some (.int 3), some (.int 14), some (.int 0), some (.int 13)] [] _ _
          refine g_iinc (pc := 144) (v := 4) dc_M_readByte_144 rfl (by decide) (by decide) ?_
          show am_G X mt_M_readByte _ 147 [some (.ref 84), some (.ref ca), some (.int (nI (s + p))), some (.int (nI (s + t))), some (.retAddr 35), some (.retAddr 36), some (.int 15), some (.int 4), some (.int 14), some (.int 0), some (.int 13)] [] _ _
          refine g_goto (pc := 147) (tgt := 14) dc_M_readByte_147 rfl ?_
          have hk3 : mnm 3 L p t = false := decide_eq_false (fun h9 => hc96zz (h9.2.2.2.1))
          refine am_wk (am_le_s (am_le_s (am_le_s (am_le_s (am_le_s (am_le_s (am_le_s (am_le_s (am_le_n (am_le_n (am_le_n am_le_0))))))))))) ?_
          exact n4_M_readByte hA hx0 hp ht h0 h1 h2 hk3
        · refine g_iconst (pc := 99) (v := 1) dc_M_readByte_99 rfl ?_
          refine g_goto (pc := 100) (tgt := 104) dc_M_readByte_100 rfl ?_
          refine g_istore (pc := 104) dc_M_readByte_104 (by decide) ?_
          show am_G X mt_M_readByte _ 106 [some (.ref 84), some (.ref ca), some (.int (nI (s + p))), some (.int (nI (s + t))), some (.retAddr 35), some (.retAddr 36), some (.int 10), some (.int 3), some (.int 14), some (.int 1), some (.int 12)] [] _ _
          refine g_iinc (pc := 106) (v := 13) dc_M_readByte_106 rfl (by decide) (by decide) ?_
          show am_G X mt_M_readByte _ 109 [some (.ref 84), some (.ref ca), some (.int (nI (s + p))), some (.int (nI (s + t))), some (.retAddr 35), some (.retAddr 36), some (.int 10), some (.int 3), some (.int 14), some (.int 1), some (.int 13)] [] _ _
          refine g_goto (pc := 109) (tgt := 66) dc_M_readByte_109 rfl ?_
          refine g_iload (pc := 66) dc_M_readByte_66 rfl ?_
          refine g_iload (pc := 68) dc_M_readByte_68 rfl ?_
          refine g_icmp_gt (pc := 70) (tgt := 112) dc_M_readByte_70 rfl (fun hc => absurd hc (by decide)) (fun _ => ?_)
          refine g_iload (pc := 73) dc_M_readByte_73 rfl ?_
          refine g_if_eq (pc := 75) (tgt := 112) dc_M_readByte_75 rfl (fun hc => absurd hc (by decide)) (fun _ => ?_)
          refine g_aload_n (pc := 78) dc_M_readByte_78 rfl ?_
          refine g_iload_n (pc := 79) dc_M_readByte_79 rfl ?_
          refine g_iconst (pc := 80) (v := 1) dc_M_readByte_80 rfl ?_
          refine g_iadd (pc := 81) (v := (nI (s + (p + 1)))) dc_M_readByte_81 (q_as s p 1) ?_
          refine g_iload (pc := 82) dc_M_readByte_82 rfl ?_
          refine g_iadd (pc := 84) (v := (nI (s + (p + 14)))) dc_M_readByte_84 ((q_as s (p + 1) 13).trans (congrArg nI (by omega))) ?_
          refine g_iload (pc := 85) dc_M_readByte_85 rfl ?_
          refine g_isub (pc := 87) (v := (nI (s + (p + 4)))) dc_M_readByte_87 ((q_sn (s := s) (a := p + 14) (b := 10) (by omega)).trans (congrArg nI (by omega))) ?_
          refine q_tx (pc := 88) (p + 4) dc_M_readByte_88 ha hT hs (by omega) hc ?_
          refine g_xload (pc := 89) dc_M_readByte_89 rfl ?_
          refine g_iload (pc := 91) dc_M_readByte_91 rfl ?_
          refine g_x1 (pc := 93) (M' := mt_JString_charAt) dc_M_readByte_93 mo_JString_charAt im_JString_charAt se_JString_charAt (am_t8 197 rfl rfl) (by decide) (Nat.le_of_ble_eq_true rfl) (Nat.le_of_ble_eq_true rfl) (am_G.mono (c_charAt (i := 35) (k := 13) (by decide) (by decide)) ?_)
          intro r h1 hq
          rw [hq.1, hq.2]
          clear hq h1 r
          refine ⟨am_nti _, ?_⟩
          rw [show ch 35 13 = 116 from rfl]
          refine g_icmp_ne (pc := 96) (tgt := 103) dc_M_readByte_96 rfl (fun hc96zzz => ?_) (fun hc96zzz => ?_)
          · refine g_iconst (pc := 103) (v := 0) dc_M_readByte_103 rfl ?_
            refine g_istore (pc := 104) dc_M_readByte_104 (by decide) ?_
            show am_G X mt_M_readByte _ 106 [some (.ref 84), some (.ref ca), some (.int (nI (s + p))), some (.int (nI (s + t))), some (.retAddr 35), some (.retAddr 36), some (.int 10), some (.int 3), some (.int 14), some (.int 0), some (.int 13)] [] _ _
            refine g_iinc (pc := 106) (v := 14) dc_M_readByte_106 rfl (by decide) (by decide) ?_
            show am_G X mt_M_readByte _ 109 [some (.ref 84), some (.ref ca), some (.int (nI (s + p))), some (.int (nI (s + t))), some (.retAddr 35), some (.retAddr 36), some (.int 10), some (.int 3), some (.int 14), some (.int 0), some (.int 14)] [] _ _
            refine g_goto (pc := 109) (tgt := 66) dc_M_readByte_109 rfl ?_
            refine g_iload (pc := 66) dc_M_readByte_66 rfl ?_
            refine g_iload (pc := 68) dc_M_readByte_68 rfl ?_
            refine g_icmp_gt (pc := 70) (tgt := 112) dc_M_readByte_70 rfl (fun hc => absurd hc (by decide)) (fun _ => ?_)
            refine g_iload (pc := 73) dc_M_readByte_73 rfl ?_
            refine g_if_eq (pc := 75) (tgt := 112) dc_M_readByte_75 rfl (fun _ => ?_) (fun hc => absurd hc (by decide))
            refine g_iload (pc := 112) dc_M_readByte_112 rfl ?_
            refine g_if_eq (pc := 114) (tgt := 138) dc_M_readByte_114 rfl (fun _ => ?_) (fun hc => absurd hc (by decide))
            refine g_iload (pc := 138) dc_M_readByte_138 rfl ?_
            refine g_iconst (pc := 140) (v := 1) dc_M_readByte_140 rfl ?_
            refine g_iadd (pc := 141) (v := 15) dc_M_readByte_141 (by decide) ?_
            refine g_istore (pc := 142) dc_M_readByte_142 (by decide) ?_
            show am_G X mt_M_readByte _ 144 [some (.ref 84), some (.ref ca), some (.int (nI (s + p))), some (.int (nI (s + t))), some (.retAddr 35), some (.retAddr 36), some (.int 15), some (.int 3), some (.int 14), some (.int 0), some (.int 14)] [] _ _
            refine g_iinc (pc := 144) (v := 4) dc_M_readByte_144 rfl (by decide) (by decide) ?_
            show am_G X mt_M_readByte _ 147 [some (.ref 84), some (.ref ca), some (.int (nI (s + p))), some (.int (nI (s + t))), some (.retAddr 35), some (.retAddr 36), some (.int 15), some (.int 4), some (.int 14), some (.int 0), some (.int 14)] [] _ _
            refine g_goto (pc := 147) (tgt := 14) dc_M_readByte_147 rfl ?_
            have hk3 : mnm 3 L p t = false := decide_eq_false (fun h9 => hc96zzz (h9.2.2.2.2.1))
            refine am_wk (am_le_s (am_le_s (am_le_s (am_le_s (am_le_s (am_le_s (am_le_s (am_le_s (am_le_n (am_le_n (am_le_n am_le_0))))))))))) ?_
            exact n4_M_readByte hA hx0 hp ht h0 h1 h2 hk3
          · refine g_iconst (pc := 99) (v := 1) dc_M_readByte_99 rfl ?_
            refine g_goto (pc := 100) (tgt := 104) dc_M_readByte_100 rfl ?_
            refine g_istore (pc := 104) dc_M_readByte_104 (by decide) ?_
            show am_G X mt_M_readByte _ 106 [some (.ref 84), some (.ref ca), some (.int (nI (s + p))), some (.int (nI (s + t))), some (.retAddr 35), some (.retAddr 36), some (.int 10), some (.int 3), some (.int 14), some (.int 1), some (.int 13)] [] _ _
            refine g_iinc (pc := 106) (v := 14) dc_M_readByte_106 rfl (by decide) (by decide) ?_
            show am_G X mt_M_readByte _ 109 [some (.ref 84), some (.ref ca), some (.int (nI (s + p))), some (.int (nI (s + t))), some (.retAddr 35), some (.retAddr 36), some (.int 10), some (.int 3), some (.int 14), some (.int 1), some (.int 14)] [] _ _
            refine g_goto (pc := 109) (tgt := 66) dc_M_readByte_109 rfl ?_
            refine g_iload (pc := 66) dc_M_readByte_66 rfl ?_
            refine g_iload (pc := 68) dc_M_readByte_68 rfl ?_
            refine g_icmp_gt (pc := 70) (tgt := 112) dc_M_readByte_70 rfl (fun hc => absurd hc (by decide)) (fun _ => ?_)
            refine g_iload (pc := 73) dc_M_readByte_73 rfl ?_
            refine g_if_eq (pc := 75) (tgt := 112) dc_M_readByte_75 rfl (fun hc => absurd hc (by decide)) (fun _ => ?_)
            refine g_aload_n (pc := 78) dc_M_readByte_78 rfl ?_
            refine g_iload_n (pc := 79) dc_M_readByte_79 rfl ?_
            refine g_iconst (pc := 80) (v := 1) dc_M_readByte_80 rfl ?_
            refine g_iadd (pc := 81) (v := (nI (s + (p + 1)))) dc_M_readByte_81 (q_as s p 1) ?_
            refine g_iload (pc := 82) dc_M_readByte_82 rfl ?_
            refine g_iadd (pc := 84) (v := (nI (s + (p + 15)))) dc_M_readByte_84 ((q_as s (p + 1) 14).trans (congrArg nI (by omega))) ?_
            refine g_iload (pc := 85) dc_M_readByte_85 rfl ?_
            refine g_isub (pc := 87) (v := (nI (s + (p + 5)))) dc_M_readByte_87 ((q_sn (s := s) (a := p + 15) (b := 10) (by omega)).trans (congrArg nI (by omega))) ?_
            refine q_tx (pc := 88) (p + 5) dc_M_readByte_88 ha hT hs (by omega) hc ?_
            refine g_xload (pc := 89) dc_M_readByte_89 rfl ?_
            refine g_iload (pc := 91) dc_M_readByte_91 rfl ?_
            refine g_x1 (pc := 93) (M' := mt_JString_charAt) dc_M_readByte_93 mo_JString_charAt im_JString_charAt se_JString_charAt (am_t8 197 rfl rfl) (by decide) (Nat.le_of_ble_eq_true rfl) (Nat.le_of_ble_eq_true rfl) (am_G.mono (c_charAt (i := 35) (k := 14) (by decide) (by decide)) ?_)
            intro r h1 hq
            rw [hq.1, hq.2]
            clear hq h1 r
            refine ⟨am_nti _, ?_⟩
            rw [show ch 35 14 = 59 from rfl]
            refine g_icmp_ne (pc := 96) (tgt := 103) dc_M_readByte_96 rfl (fun hc96zzzz => ?_) (fun hc96zzzz => ?_)
            · refine g_iconst (pc := 103) (v := 0) dc_M_readByte_103 rfl ?_
              refine g_istore (pc := 104) dc_M_readByte_104 (by decide) ?_
              show am_G X mt_M_readByte _ 106 [some (.ref 84), some (.ref ca), some (.int (nI (s + p))), some (.int (nI (s + t))), some (.retAddr 35), some (.retAddr 36), some (.int 10), some (.int 3), some (.int 14), some (.int 0), some (.int 14)] [] _ _
              refine g_iinc (pc := 106) (v := 15) dc_M_readByte_106 rfl (by decide) (by decide) ?_
              show am_G X mt_M_readByte _ 109 [some (.ref 84), some (.ref ca), some (.int (nI (s + p))), some (.int (nI (s + t))), some (.retAddr 35), some (.retAddr 36), some (.int 10), some (.int 3), some (.int 14), some (.int 0), some (.int 15)] [] _ _
              refine g_goto (pc := 109) (tgt := 66) dc_M_readByte_109 rfl ?_
              refine g_iload (pc := 66) dc_M_readByte_66 rfl ?_
              refine g_iload (pc := 68) dc_M_readByte_68 rfl ?_
              refine g_icmp_gt (pc := 70) (tgt := 112) dc_M_readByte_70 rfl (fun _ => ?_) (fun hc => absurd hc (by decide))
              refine g_iload (pc := 112) dc_M_readByte_112 rfl ?_
              refine g_if_eq (pc := 114) (tgt := 138) dc_M_readByte_114 rfl (fun _ => ?_) (fun hc => absurd hc (by decide))
              refine g_iload (pc := 138) dc_M_readByte_138 rfl ?_
              refine g_iconst (pc := 140) (v := 1) dc_M_readByte_140 rfl ?_
              refine g_iadd (pc := 141) (v := 15) dc_M_readByte_141 (by decide) ?_
              refine g_istore (pc := 142) dc_M_readByte_142 (by decide) ?_
              show am_G X mt_M_readByte _ 144 [some (.ref 84), some (.ref ca), some (.int (nI (s + p))), some (.int (nI (s + t))), some (.retAddr 35), some (.retAddr 36), some (.int 15), some (.int 3), some (.int 14), some (.int 0), some (.int 15)] [] _ _
              refine g_iinc (pc := 144) (v := 4) dc_M_readByte_144 rfl (by decide) (by decide) ?_
              show am_G X mt_M_readByte _ 147 [some (.ref 84), some (.ref ca), some (.int (nI (s + p))), some (.int (nI (s + t))), some (.retAddr 35), some (.retAddr 36), some (.int 15), some (.int 4), some (.int 14), some (.int 0), some (.int 15)] [] _ _
              refine g_goto (pc := 147) (tgt := 14) dc_M_readByte_147 rfl ?_
              have hk3 : mnm 3 L p t = false := decide_eq_false (fun h9 => hc96zzzz (h9.2.2.2.2.2))
              refine am_wk (am_le_s (am_le_s (am_le_s (am_le_s (am_le_s (am_le_s (am_le_s (am_le_s (am_le_n (am_le_n (am_le_n am_le_0))))))))))) ?_
              exact n4_M_readByte hA hx0 hp ht h0 h1 h2 hk3
            · refine g_iconst (pc := 99) (v := 1) dc_M_readByte_99 rfl ?_
              refine g_goto (pc := 100) (tgt := 104) dc_M_readByte_100 rfl ?_
              refine g_istore (pc := 104) dc_M_readByte_104 (by decide) ?_
              show am_G X mt_M_readByte _ 106 [some (.ref 84), some (.ref ca), some (.int (nI (s + p))), some (.int (nI (s + t))), some (.retAddr 35), some (.retAddr 36), some (.int 10), some (.int 3), some (.int 14), some (.int 1), some (.int 14)] [] _ _
              refine g_iinc (pc := 106) (v := 15) dc_M_readByte_106 rfl (by decide) (by decide) ?_
              show am_G X mt_M_readByte _ 109 [some (.ref 84), some (.ref ca), some (.int (nI (s + p))), some (.int (nI (s + t))), some (.retAddr 35), some (.retAddr 36), some (.int 10), some (.int 3), some (.int 14), some (.int 1), some (.int 15)] [] _ _
              refine g_goto (pc := 109) (tgt := 66) dc_M_readByte_109 rfl ?_
              refine g_iload (pc := 66) dc_M_readByte_66 rfl ?_
              refine g_iload (pc := 68) dc_M_readByte_68 rfl ?_
              refine g_icmp_gt (pc := 70) (tgt := 112) dc_M_readByte_70 rfl (fun _ => ?_) (fun hc => absurd hc (by decide))
              refine g_iload (pc := 112) dc_M_readByte_112 rfl ?_
              refine g_if_eq (pc := 114) (tgt := 138) dc_M_readByte_114 rfl (fun hc => absurd hc (by decide)) (fun _ => ?_)
              refine g_aload_n (pc := 117) dc_M_readByte_117 rfl ?_
              refine g_xload (pc := 118) dc_M_readByte_118 rfl ?_
              refine g_iload (pc := 120) dc_M_readByte_120 rfl ?_
              refine g_x1 (pc := 122) (M' := mt_JString_charAt) dc_M_readByte_122 mo_JString_charAt im_JString_charAt se_JString_charAt (am_t8 197 rfl rfl) (by decide) (Nat.le_of_ble_eq_true rfl) (Nat.le_of_ble_eq_true rfl) (am_G.mono (c_charAt (i := 36) (k := 3) (by decide) (by decide)) ?_)
              intro r h1 hq
              rw [hq.1, hq.2]
              clear hq h1 r
              refine ⟨am_nti _, ?_⟩
              rw [show ch 36 3 = 34 from rfl]
              refine pf_byteValue (pc := 125) (v := 34) hA dc_M_readByte_125 fp_M_readByte_217 ?_
              refine g_iload_n (pc := 128) dc_M_readByte_128 rfl ?_
              refine g_iconst (pc := 129) (v := 2) dc_M_readByte_129 rfl ?_
              refine g_iadd (pc := 130) (v := (nI (s + (p + 2)))) dc_M_readByte_130 (q_as s p 2) ?_
              refine g_iload (pc := 131) dc_M_readByte_131 rfl ?_
              refine g_iadd (pc := 133) (v := (nI (s + (p + 16)))) dc_M_readByte_133 ((q_as s (p + 2) 14).trans (congrArg nI (by omega))) ?_
              refine g_iload (pc := 134) dc_M_readByte_134 rfl ?_
              refine g_isub (pc := 136) (v := (nI (s + (p + 6)))) dc_M_readByte_136 ((q_sn (s := s) (a := p + 16) (b := 10) (by omega)).trans (congrArg nI (by omega))) ?_
              have hm : mnm 3 L p t = true := decide_eq_true ⟨by omega, hc96, hc96z, hc96zz, hc96zzz, hc96zzzz⟩
              have e9 : mrb L p t = some (34, p + 6) := by unfold mrb; rw [if_neg (by rw [h0]; decide), if_neg (by rw [h1]; decide), if_neg (by rw [h2]; decide), if_pos hm]
              exact g_ireturn dc_M_readByte_137 rfl ⟨by rw [e9]; rfl, by rw [e9]; rfl⟩
theorem n2_M_readByte (hA : A.length = 84) (hx : tt (mput A S B) ca s L) (hp : p < t) (ht : t ≤ L.length) (h0 : mnm 0 L p t = false) (h1 : mnm 1 L p t = false) : am_G X mt_M_readByte (d + 4) 14 [some (.ref 84), some (.ref ca), some (.int (nI (s + p))), some (.int (nI (s + t))), some (.retAddr 35), some (.retAddr 36), some (.int 7), some (.int 2), none, none, none] [] (mput A S B) (fun r h1 => r = some (.int (er ((mrb L p t).map (fun q => s + q.2)))) ∧ h1 = mput A (match mrb L p t with | some q => S.s_byteValue (nI q.1) | none => S) B) := by
  have hx0 := hx
  obtain ⟨cap, g, ha, hT, hs, hc⟩ := hx
  refine g_iload (pc := 14) dc_M_readByte_14 rfl ?_
  refine g_iconst (pc := 16) (v := 5) dc_M_readByte_16 rfl ?_
  refine g_icmp_ge (pc := 17) (tgt := 150) dc_M_readByte_17 rfl (fun hc => absurd hc (by decide)) (fun _ => ?_)
  refine g_iload (pc := 20) dc_M_readByte_20 rfl ?_
  refine g_istore (pc := 22) dc_M_readByte_22 (by decide) ?_
  show am_G X mt_M_readByte _ 24 [some (.ref 84), some (.ref ca), some (.int (nI (s + p))), some (.int (nI (s + t))), some (.retAddr 35), some (.retAddr 36), some (.int 7), some (.int 2), some (.int 7), none, none] [] _ _
  refine g_xload (pc := 24) dc_M_readByte_24 rfl ?_
  refine g_iload (pc := 26) dc_M_readByte_26 rfl ?_
  refine g_x1 (pc := 28) (M' := mt_JString_charAt) dc_M_readByte_28 mo_JString_charAt im_JString_charAt se_JString_charAt (am_t8 197 rfl rfl) (by decide) (Nat.le_of_ble_eq_true rfl) (Nat.le_of_ble_eq_true rfl) (am_G.mono (c_charAt (i := 35) (k := 7) (by decide) (by decide)) ?_)
  intro r h1 hq
  rw [hq.1, hq.2]
  clear hq h1 r
  refine ⟨am_nti _, ?_⟩
  rw [show ch 35 7 = 103 from rfl]
  refine g_bipush (pc := 31) (v := 59) dc_M_readByte_31 rfl ?_
  refine g_icmp_eq (pc := 33) (tgt := 42) dc_M_readByte_33 rfl (fun hc => absurd hc (by decide)) (fun _ => ?_)
  refine g_iinc (pc := 36) (v := 8) dc_M_readByte_36 rfl (by decide) (by decide) ?_
  show am_G X mt_M_readByte _ 39 [some (.ref 84), some (.ref ca), some (.int (nI (s + p))), some (.int (nI (s + t))), some (.retAddr 35), some (.retAddr 36), some (.int 7), some (.int 2), some (.int 8), none, none] [] _ _
  refine g_goto (pc := 39) (tgt := 24) dc_M_readByte_39 rfl ?_
  refine g_xload (pc := 24) dc_M_readByte_24 rfl ?_
  refine g_iload (pc := 26) dc_M_readByte_26 rfl ?_
  refine g_x1 (pc := 28) (M' := mt_JString_charAt) dc_M_readByte_28 mo_JString_charAt im_JString_charAt se_JString_charAt (am_t8 197 rfl rfl) (by decide) (Nat.le_of_ble_eq_true rfl) (Nat.le_of_ble_eq_true rfl) (am_G.mono (c_charAt (i := 35) (k := 8) (by decide) (by decide)) ?_)
  intro r h1 hq
  rw [hq.1, hq.2]
  clear hq h1 r
  refine ⟨am_nti _, ?_⟩
  rw [show ch 35 8 = 116 from rfl]
  refine g_bipush (pc := 31) (v := 59) dc_M_readByte_31 rfl ?_
  refine g_icmp_eq (pc := 33) (tgt := 42) dc_M_readByte_33 rfl (fun hc => absurd hc (by decide)) (fun _ => ?_)
  refine g_iinc (pc := 36) (v := 9) dc_M_readByte_36 rfl (by decide) (by decide) ?_
  show am_G X mt_M_readByte _ 39 [some (.ref 84), some (.ref ca), some (.int (nI (s + p))), some (.int (nI (s + t))), some (.retAddr 35), some (.retAddr 36), some (.int 7), some (.int 2), some (.int 9), none, none] [] _ _
  refine g_goto (pc := 39) (tgt := 24) dc_M_readByte_39 rfl ?_
  refine g_xload (pc := 24) dc_M_readByte_24 rfl ?_
  refine g_iload (pc := 26) dc_M_readByte_26 rfl ?_
  refine g_x1 (pc := 28) (M' := mt_JString_charAt) dc_M_readByte_28 mo_JString_charAt im_JString_charAt se_JString_charAt (am_t8 197 rfl rfl) (by decide) (Nat.le_of_ble_eq_true rfl) (Nat.le_of_ble_eq_true rfl) (am_G.mono (c_charAt (i := 35) (k := 9) (by decide) (by decide)) ?_)
  intro r h1 hq
  rw [hq.1, hq.2]
  clear hq h1 r
  refine ⟨am_nti _, ?_⟩
  rw [show ch 35 9 = 59 from rfl]
  refine g_bipush (pc := 31) (v := 59) dc_M_readByte_31 rfl ?_
  refine g_icmp_eq (pc := 33) (tgt := 42) dc_M_readByte_33 rfl (fun _ => ?_) (fun hc => absurd hc (by decide))
  refine g_iload_n (pc := 42) dc_M_readByte_42 rfl ?_
  refine g_iconst (pc := 43) (v := 2) dc_M_readByte_43 rfl ?_
  refine g_iadd (pc := 44) (v := (nI (s + (p + 2)))) dc_M_readByte_44 (q_as s p 2) ?_
  refine g_iload (pc := 45) dc_M_readByte_45 rfl ?_
  refine g_iadd (pc := 47) (v := (nI (s + (p + 11)))) dc_M_readByte_47 ((q_as s (p + 2) 9).trans (congrArg nI (by omega))) ?_
  refine g_iload (pc := 48) dc_M_readByte_48 rfl ?_
  refine g_isub (pc := 50) (v := (nI (s + (p + 4)))) dc_M_readByte_50 ((q_sn (s := s) (a := p + 11) (b := 7) (by omega)).trans (congrArg nI (by omega))) ?_
  refine g_iload_n (pc := 51) dc_M_readByte_51 rfl ?_
  refine q_icmp_gt (pc := 52) (tgt := 59) (s + (p + 4)) (s + t) dc_M_readByte_52 (by omega) (by omega) rfl (fun hc52 => ?_) (fun hc52 => ?_)
  · refine g_iconst (pc := 59) (v := 0) dc_M_readByte_59 rfl ?_
    refine g_istore (pc := 60) dc_M_readByte_60 (by decide) ?_
    show am_G X mt_M_readByte _ 62 [some (.ref 84), some (.ref ca), some (.int (nI (s + p))), some (.int (nI (s + t))), some (.retAddr 35), some (.retAddr 36), some (.int 7), some (.int 2), some (.int 9), some (.int 0), none] [] _ _
    refine g_iload (pc := 62) dc_M_readByte_62 rfl ?_
    refine g_istore (pc := 64) dc_M_readByte_64 (by decide) ?_
    show am_G X mt_M_readByte _ 66 [some (.ref 84), some (.ref ca), some (.int (nI (s + p))), some (.int (nI (s + t))), some (.retAddr 35), some (.retAddr 36), some (.int 7), some (.int 2), some (.int 9), some (.int 0), some (.int 7)] [] _ _
    refine g_iload (pc := 66) dc_M_readByte_66 rfl ?_
    refine g_iload (pc := 68) dc_M_readByte_68 rfl ?_
    refine g_icmp_gt (pc := 70) (tgt := 112) dc_M_readByte_70 rfl (fun hc => absurd hc (by decide)) (fun _ => ?_)
    refine g_iload (pc := 73) dc_M_readByte_73 rfl ?_
    refine g_if_eq (pc := 75) (tgt := 112) dc_M_readByte_75 rfl (fun _ => ?_) (fun hc => absurd hc (by decide))
    refine g_iload (pc := 112) dc_M_readByte_112 rfl ?_
    refine g_if_eq (pc := 114) (tgt := 138) dc_M_readByte_114 rfl (fun _ => ?_) (fun hc => absurd hc (by decide))
    refine g_iload (pc := 138) dc_M_readByte_138 rfl ?_
    refine g_iconst (pc := 140) (v := 1) dc_M_readByte_140 rfl ?_
    refine g_iadd (pc := 141) (v := 10) dc_M_readByte_141 (by decide) ?_
    refine g_istore (pc := 142) dc_M_readByte_142 (by decide) ?_
    show am_G X mt_M_readByte _ 144 [some (.ref 84), some (.ref ca), some (.int (nI (s + p))), some (.int (nI (s + t))), some (.retAddr 35), some (.retAddr 36), some (.int 10), some (.int 2), some (.int 9), some (.int 0), some (.int 7)] [] _ _
    refine g_iinc (pc := 144) (v := 3) dc_M_readByte_144 rfl (by decide) (by decide) ?_
    show am_G X mt_M_readByte _ 147 [some (.ref 84), some (.ref ca), some (.int (nI (s + p))), some (.int (nI (s + t))), some (.retAddr 35), some (.retAddr 36), some (.int 10), some (.int 3), some (.int 9), some (.int 0), some (.int 7)] [] _ _
    refine g_goto (pc := 147) (tgt := 14) dc_M_readByte_147 rfl ?_
    have hk2 : mnm 2 L p t = false := decide_eq_false (fun h9 => by have h10 := h9.1; omega)
    refine am_wk (am_le_s (am_le_s (am_le_s (am_le_s (am_le_s (am_le_s (am_le_s (am_le_s (am_le_n (am_le_n (am_le_n am_le_0))))))))))) ?_
    exact n3_M_readByte hA hx0 hp ht h0 h1 hk2
  · refine g_iconst (pc := 55) (v := 1) dc_M_readByte_55 rfl ?_
    refine g_goto (pc := 56) (tgt := 60) dc_M_readByte_56 rfl ?_
    refine g_istore (pc := 60) dc_M_readByte_60 (by decide) ?_
    show am_G X mt_M_readByte _ 62 [some (.ref 84), some (.ref ca), some (.int (nI (s + p))), some (.int (nI (s + t))), some (.retAddr 35), some (.retAddr 36), some (.int 7), some (.int 2), some (.int 9), some (.int 1), none] [] _ _
    refine g_iload (pc := 62) dc_M_readByte_62 rfl ?_
    refine g_istore (pc := 64) dc_M_readByte_64 (by decide) ?_
    show am_G X mt_M_readByte _ 66 [some (.ref 84), some (.ref ca), some (.int (nI (s + p))), some (.int (nI (s + t))), some (.retAddr 35), some (.retAddr 36), some (.int 7), some (.int 2), some (.int 9), some (.int 1), some (.int 7)] [] _ _
    refine g_iload (pc := 66) dc_M_readByte_66 rfl ?_
    refine g_iload (pc := 68) dc_M_readByte_68 rfl ?_
    refine g_icmp_gt (pc := 70) (tgt := 112) dc_M_readByte_70 rfl (fun hc => absurd hc (by decide)) (fun _ => ?_)
    refine g_iload (pc := 73) dc_M_readByte_73 rfl ?_
    refine g_if_eq (pc := 75) (tgt := 112) dc_M_readByte_75 rfl (fun hc => absurd hc (by decide)) (fun _ => ?_)
    refine g_aload_n (pc := 78) dc_M_readByte_78 rfl ?_
    refine g_iload_n (pc := 79) dc_M_readByte_79 rfl ?_
    refine g_iconst (pc := 80) (v := 1) dc_M_readByte_80 rfl ?_
    refine g_iadd (pc := 81) (v := (nI (s + (p + 1)))) dc_M_readByte_81 (q_as s p 1) ?_
    refine g_iload (pc := 82) dc_M_readByte_82 rfl ?_
    refine g_iadd (pc := 84) (v := (nI (s + (p + 8)))) dc_M_readByte_84 ((q_as s (p + 1) 7).trans (congrArg nI (by omega))) ?_
    refine g_iload (pc := 85) dc_M_readByte_85 rfl ?_
    refine g_isub (pc := 87) (v := (nI (s + (p + 1)))) dc_M_readByte_87 ((q_sn (s := s) (a := p + 8) (b := 7) (by omega)).trans (congrArg nI (by omega))) ?_
    refine q_tx (pc := 88) (p + 1) dc_M_readByte_88 ha hT hs (by omega) hc ?_
    refine g_xload (pc := 89) dc_M_readByte_89 rfl ?_
    refine g_iload (pc := 91) dc_M_readByte_91 rfl ?_
    refine g_x1 (pc := 93) (M' := mt_JString_charAt) dc_M_readByte_93 mo_JString_charAt im_JString_charAt se_JString_charAt (am_t8 197 rfl rfl) (by decide) (Nat.le_of_ble_eq_true rfl) (Nat.le_of_ble_eq_true rfl) (am_G.mono (c_charAt (i := 35) (k := 7) (by decide) (by decide)) ?_)
    intro r h1 hq
    rw [hq.1, hq.2]
    clear hq h1 r
    refine ⟨am_nti _, ?_⟩
    rw [show ch 35 7 = 103 from rfl]
    refine g_icmp_ne (pc := 96) (tgt := 103) dc_M_readByte_96 rfl (fun hc96 => ?_) (fun hc96 => ?_)
    · refine g_iconst (pc := 103) (v := 0) dc_M_readByte_103 rfl ?_
      refine g_istore (pc := 104) dc_M_readByte_104 (by decide) ?_
      show am_G X mt_M_readByte _ 106 [some (.ref 84), some (.ref ca), some (.int (nI (s + p))), some (.int (nI (s + t))), some (.retAddr 35), some (.retAddr 36), some (.int 7), some (.int 2), some (.int 9), some (.int 0), some (.int 7)] [] _ _
      refine g_iinc (pc := 106) (v := 8) dc_M_readByte_106 rfl (by decide) (by decide) ?_
      show am_G X mt_M_readByte _ 109 [some (.ref 84), some (.ref ca), some (.int (nI (s + p))), some (.int (nI (s + t))), some (.retAddr 35), some (.retAddr 36), some (.int 7), some (.int 2), some (.int 9), some (.int 0), some (.int 8)] [] _ _
      refine g_goto (pc := 109) (tgt := 66) dc_M_readByte_109 rfl ?_
      refine g_iload (pc := 66) dc_M_readByte_66 rfl ?_
      refine g_iload (pc := 68) dc_M_readByte_68 rfl ?_
      refine g_icmp_gt (pc := 70) (tgt := 112) dc_M_readByte_70 rfl (fun hc => absurd hc (by decide)) (fun _ => ?_)
      refine g_iload (pc := 73) dc_M_readByte_73 rfl ?_
      refine g_if_eq (pc := 75) (tgt := 112) dc_M_readByte_75 rfl (fun _ => ?_) (fun hc => absurd hc (by decide))
      refine g_iload (pc := 112) dc_M_readByte_112 rfl ?_
      refine g_if_eq (pc := 114) (tgt := 138) dc_M_readByte_114 rfl (fun _ => ?_) (fun hc => absurd hc (by decide))
      refine g_iload (pc := 138) dc_M_readByte_138 rfl ?_
      refine g_iconst (pc := 140) (v := 1) dc_M_readByte_140 rfl ?_
      refine g_iadd (pc := 141) (v := 10) dc_M_readByte_141 (by decide) ?_
      refine g_istore (pc := 142) dc_M_readByte_142 (by decide) ?_
      show am_G X mt_M_readByte _ 144 [some (.ref 84), some (.ref ca), some (.int (nI (s + p))), some (.int (nI (s + t))), some (.retAddr 35), some (.retAddr 36), some (.int 10), some (.int 2), some (.int 9), some (.int 0), some (.int 8)] [] _ _
      refine g_iinc (pc := 144) (v := 3) dc_M_readByte_144 rfl (by decide) (by decide) ?_
      show am_G X mt_M_readByte _ 147 [some (.ref 84), some (.ref ca), some (.int (nI (s + p))), some (.int (nI (s + t))), some (.retAddr 35), some (.retAddr 36), some (.int 10), some (.int 3), some (.int 9), some (.int 0), some (.int 8)] [] _ _
      refine g_goto (pc := 147) (tgt := 14) dc_M_readByte_147 rfl ?_
      have hk2 : mnm 2 L p t = false := decide_eq_false (fun h9 => hc96 (h9.2.1))
      refine am_wk (am_le_s (am_le_s (am_le_s (am_le_s (am_le_s (am_le_s (am_le_s (am_le_s (am_le_n (am_le_n (am_le_n am_le_0))))))))))) ?_
      exact n3_M_readByte hA hx0 hp ht h0 h1 hk2
    · refine g_iconst (pc := 99) (v := 1) dc_M_readByte_99 rfl ?_
      refine g_goto (pc := 100) (tgt := 104) dc_M_readByte_100 rfl ?_
      refine g_istore (pc := 104) dc_M_readByte_104 (by decide) ?_
      show am_G X mt_M_readByte _ 106 [some (.ref 84), some (.ref ca), some (.int (nI (s + p))), some (.int (nI (s + t))), some (.retAddr 35), some (.retAddr 36), some (.int 7), some (.int 2), some (.int 9), some (.int 1), some (.int 7)] [] _ _
      refine g_iinc (pc := 106) (v := 8) dc_M_readByte_106 rfl (by decide) (by decide) ?_
      show am_G X mt_M_readByte _ 109 [some (.ref 84), some (.ref ca), some (.int (nI (s + p))), some (.int (nI (s + t))), some (.retAddr 35), some (.retAddr 36), some (.int 7), some (.int 2), some (.int 9), some (.int 1), some (.int 8)] [] _ _
      refine g_goto (pc := 109) (tgt := 66) dc_M_readByte_109 rfl ?_
      refine g_iload (pc := 66) dc_M_readByte_66 rfl ?_
      refine g_iload (pc := 68) dc_M_readByte_68 rfl ?_
      refine g_icmp_gt (pc := 70) (tgt := 112) dc_M_readByte_70 rfl (fun hc => absurd hc (by decide)) (fun _ => ?_)
      refine g_iload (pc := 73) dc_M_readByte_73 rfl ?_
      refine g_if_eq (pc := 75) (tgt := 112) dc_M_readByte_75 rfl (fun hc => absurd hc (by decide)) (fun _ => ?_)
      refine g_aload_n (pc := 78) dc_M_readByte_78 rfl ?_
      refine g_iload_n (pc := 79) dc_M_readByte_79 rfl ?_
      refine g_iconst (pc := 80) (v := 1) dc_M_readByte_80 rfl ?_
      refine g_iadd (pc := 81) (v := (nI (s + (p + 1)))) dc_M_readByte_81 (q_as s p 1) ?_
      refine g_iload (pc := 82) dc_M_readByte_82 rfl ?_
      refine g_iadd (pc := 84) (v := (nI (s + (p + 9)))) dc_M_readByte_84 ((q_as s (p + 1) 8).trans (congrArg nI (by omega))) ?_
      refine g_iload (pc := 85) dc_M_readByte_85 rfl ?_
      refine g_isub (pc := 87) (v := (nI (s + (p + 2)))) dc_M_readByte_87 ((q_sn (s := s) (a := p + 9) (b := 7) (by omega)).trans (congrArg nI (by omega))) ?_
      refine q_tx (pc := 88) (p + 2) dc_M_readByte_88 ha hT hs (by omega) hc ?_
      refine g_xload (pc := 89) dc_M_readByte_89 rfl ?_
      refine g_iload (pc := 91) dc_M_readByte_91 rfl ?_
      refine g_x1 (pc := 93) (M' := mt_JString_charAt) dc_M_readByte_93 mo_JString_charAt im_JString_charAt se_JString_charAt (am_t8 197 rfl rfl) (by decide) (Nat.le_of_ble_eq_true rfl) (Nat.le_of_ble_eq_true rfl) (am_G.mono (c_charAt (i := 35) (k := 8) (by decide) (by decide)) ?_)
      intro r h1 hq
      rw [hq.1, hq.2]
      clear hq h1 r
      refine ⟨am_nti _, ?_⟩
      rw [show ch 35 8 = 116 from rfl]
      refine g_icmp_ne (pc := 96) (tgt := 103) dc_M_readByte_96 rfl (fun hc96z => ?_) (fun hc96z => ?_)
      · refine g_iconst (pc := 103) (v := 0) dc_M_readByte_103 rfl ?_
        refine g_istore (pc := 104) dc_M_readByte_104 (by decide) ?_
        show am_G X mt_M_readByte _ 106 [some (.ref 84), some (.ref ca), some (.int (nI (s + p))), some (.int (nI (s + t))), some (.retAddr 35), some (.retAddr 36), some (.int 7), some (.int 2), some (.int 9), some (.int 0), some (.int 8)] [] _ _
        refine g_iinc (pc := 106) (v := 9) dc_M_readByte_106 rfl (by decide) (by decide) ?_
        show am_G X mt_M_readByte _ 109 [some (.ref 84), some (.ref ca), some (.int (nI (s + p))), some (.int (nI (s + t))), some (.retAddr 35), some (.retAddr 36), some (.int 7), some (.int 2), some (.int 9), some (.int 0), some (.int 9)] [] _ _
        refine g_goto (pc := 109) (tgt := 66) dc_M_readByte_109 rfl ?_
        refine g_iload (pc := 66) dc_M_readByte_66 rfl ?_
        refine g_iload (pc := 68) dc_M_readByte_68 rfl ?_
        refine g_icmp_gt (pc := 70) (tgt := 112) dc_M_readByte_70 rfl (fun hc => absurd hc (by decide)) (fun _ => ?_)
        refine g_iload (pc := 73) dc_M_readByte_73 rfl ?_
        refine g_if_eq (pc := 75) (tgt := 112) dc_M_readByte_75 rfl (fun _ => ?_) (fun hc => absurd hc (by decide))
        refine g_iload (pc := 112) dc_M_readByte_112 rfl ?_
        refine g_if_eq (pc := 114) (tgt := 138) dc_M_readByte_114 rfl (fun _ => ?_) (fun hc => absurd hc (by decide))
        refine g_iload (pc := 138) dc_M_readByte_138 rfl ?_
        refine g_iconst (pc := 140) (v := 1) dc_M_readByte_140 rfl ?_
        refine g_iadd (pc := 141) (v := 10) dc_M_readByte_141 (by decide) ?_
        refine g_istore (pc := 142) dc_M_readByte_142 (by decide) ?_
        show am_G X mt_M_readByte _ 144 [some (.ref 84), some (.ref ca), some (.int (nI (s + p))), some (.int (nI (s + t))), some (.retAddr 35), some (.retAddr 36), some (.int 10), some (.int 2), some (.int 9), some (.int 0), some (.int 9)] [] _ _
        refine g_iinc (pc := 144) (v := 3) dc_M_readByte_144 rfl (by decide) (by decide) ?_
        show am_G X mt_M_readByte _ 147 [some (.ref 84), some (.ref ca), some (.int (nI (s + p))), some (.int (nI (s + t))), some (.retAddr 35), some (.retAddr 36), some (.int 10), some (.int 3), some (.int 9), some (.int 0), some (.int 9)] [] _ _
        refine g_goto (pc := 147) (tgt := 14) dc_M_readByte_147 rfl ?_
        have hk2 : mnm 2 L p t = false := decide_eq_false (fun h9 => hc96z (h9.2.2.1))
        refine am_wk (am_le_s (am_le_s (am_le_s (am_le_s (am_le_s (am_le_s (am_le_s (am_le_s (am_le_n (am_le_n (am_le_n am_le_0))))))))))) ?_
        exact n3_M_readByte hA hx0 hp ht h0 h1 hk2
      · refine g_iconst (pc := 99) (v := 1) dc_M_readByte_99 rfl ?_
        refine g_goto (pc := 100) (tgt := 104) dc_M_readByte_100 rfl ?_
        refine g_istore (pc := 104) dc_M_readByte_104 (by decide) ?_
        show am_G X mt_M_readByte _ 106 [some (.ref 84), some (.ref ca), some (.int (nI (s + p))), some (.int (nI (s + t))), some (.retAddr 35), some (.retAddr 36), some (.int 7), some (.int 2), some (.int 9), some (.int 1), some (.int 8)] [] _ _
        refine g_iinc (pc := 106) (v := 9) dc_M_readByte_106 rfl (by decide) (by decide) ?_
        show am_G X mt_M_readByte _ 109 [some (.ref 84), some (.ref ca), some (.int (nI (s + p))), some (.int (nI (s + t))), some (.retAddr 35), some (.retAddr 36), some (.int 7), some (.int 2), some (.int 9), some (.int 1), some (.int 9)] [] _ _
        refine g_goto (pc := 109) (tgt := 66) dc_M_readByte_109 rfl ?_
        refine g_iload (pc := 66) dc_M_readByte_66 rfl ?_
        refine g_iload (pc := 68) dc_M_readByte_68 rfl ?_
        refine g_icmp_gt (pc := 70) (tgt := 112) dc_M_readByte_70 rfl (fun hc => absurd hc (by decide)) (fun _ => ?_)
        refine g_iload (pc := 73) dc_M_readByte_73 rfl ?_
        refine g_if_eq (pc := 75) (tgt := 112) dc_M_readByte_75 rfl (fun hc => absurd hc (by decide)) (fun _ => ?_)
        refine g_aload_n (pc := 78) dc_M_readByte_78 rfl ?_
        refine g_iload_n (pc := 79) dc_M_readByte_79 rfl ?_
        refine g_iconst (pc := 80) (v := 1) dc_M_readByte_80 rfl ?_
        refine g_iadd (pc := 81) (v := (nI (s + (p + 1)))) dc_M_readByte_81 (q_as s p 1) ?_
        refine g_iload (pc := 82) dc_M_readByte_82 rfl ?_
        refine g_iadd (pc := 84) (v := (nI (s + (p + 10)))) dc_M_readByte_84 ((q_as s (p + 1) 9).trans (congrArg nI (by omega))) ?_
        refine g_iload (pc := 85) dc_M_readByte_85 rfl ?_
        refine g_isub (pc := 87) (v := (nI (s + (p + 3)))) dc_M_readByte_87 ((q_sn (s := s) (a := p + 10) (b := 7) (by omega)).trans (congrArg nI (by omega))) ?_
        refine q_tx (pc := 88) (p + 3) dc_M_readByte_88 ha hT hs (by omega) hc ?_
        refine g_xload (pc := 89) dc_M_readByte_89 rfl ?_
        refine g_iload (pc := 91) dc_M_readByte_91 rfl ?_
        refine g_x1 (pc := 93) (M' := mt_JString_charAt) dc_M_readByte_93 mo_JString_charAt im_JString_charAt se_JString_charAt (am_t8 197 rfl rfl) (by decide) (Nat.le_of_ble_eq_true rfl) (Nat.le_of_ble_eq_true rfl) (am_G.mono (c_charAt (i := 35) (k := 9) (by decide) (by decide)) ?_)
        intro r h1 hq
        rw [hq.1, hq.2]
        clear hq h1 r
        refine ⟨am_nti _, ?_⟩
        rw [show ch 35 9 = 59 from rfl]
        refine g_icmp_ne (pc := 96) (tgt := 103) dc_M_readByte_96 rfl (fun hc96zz => ?_) (fun hc96zz => ?_)
        · refine g_iconst (pc := 103) (v := 0) dc_M_readByte_103 rfl ?_
          refine g_istore (pc := 104) dc_M_readByte_104 (by decide) ?_
          show am_G X mt_M_readByte _ 106 [some (.ref 84), some (.ref ca), some (.int (nI (s + p))), some (.int (nI (s + t))), some (.retAddr 35), some (.retAddr 36), some (.int 7), some (.int 2), some (.int 9), some (.int 0), some (.int 9)] [] _ _
          refine g_iinc (pc := 106) (v := 10) dc_M_readByte_106 rfl (by decide) (by decide) ?_
          show am_G X mt_M_readByte _ 109 [some (.ref 84), some (.ref ca), some (.int (nI (s + p))), some (.int (nI (s + t))), some (.retAddr 35), some (.retAddr 36), some (.int 7), some (.int 2), some (.int 9), some (.int 0), some (.int 10)] [] _ _
          refine g_goto (pc := 109) (tgt := 66) dc_M_readByte_109 rfl ?_
          refine g_iload (pc := 66) dc_M_readByte_66 rfl ?_
          refine g_iload (pc := 68) dc_M_readByte_68 rfl ?_
          refine g_icmp_gt (pc := 70) (tgt := 112) dc_M_readByte_70 rfl (fun _ => ?_) (fun hc => absurd hc (by decide))
          refine g_iload (pc := 112) dc_M_readByte_112 rfl ?_
          refine g_if_eq (pc := 114) (tgt := 138) dc_M_readByte_114 rfl (fun _ => ?_) (fun hc => absurd hc (by decide))
          refine g_iload (pc := 138) dc_M_readByte_138 rfl ?_
          refine g_iconst (pc := 140) (v := 1) dc_M_readByte_140 rfl ?_
          refine g_iadd (pc := 141) (v := 10) dc_M_readByte_141 (by decide) ?_
          refine g_istore (pc := 142) dc_M_readByte_142 (by decide) ?_
          show am_G X mt_M_readByte _ 144 [some (.ref 84), some (.ref ca), some (.int (nI (s + p))), some (.int (nI (s + t))), some (.retAddr 35), some (.retAddr 36), some (.int 10), some (.int 2), some (.int 9), some (.int 0), some (.int 10)] [] _ _
          refine g_iinc (pc := 144) (v := 3) dc_M_readByte_144 rfl (by decide) (by decide) ?_
          show am_G X mt_M_readByte _ 147 [some (.ref 84), some (.ref ca), some (.int (nI (s + p))), some (.int (nI (s + t))), some (.retAddr 35), some (.retAddr 36), some (.int 10), some (.int 3), some (.int 9), some (.int 0), some (.int 10)] [] _ _
          refine g_goto (pc := 147) (tgt := 14) dc_M_readByte_147 rfl ?_
          have hk2 : mnm 2 L p t = false := decide_eq_false (fun h9 => hc96zz (h9.2.2.2))
          refine am_wk (am_le_s (am_le_s (am_le_s (am_le_s (am_le_s (am_le_s (am_le_s (am_le_s (am_le_n (am_le_n (am_le_n am_le_0))))))))))) ?_
          exact n3_M_readByte hA hx0 hp ht h0 h1 hk2
        · refine g_iconst (pc := 99) (v := 1) dc_M_readByte_99 rfl ?_
          refine g_goto (pc := 100) (tgt := 104) dc_M_readByte_100 rfl ?_
          refine g_istore (pc := 104) dc_M_readByte_104 (by decide) ?_
          show am_G X mt_M_readByte _ 106 [some (.ref 84), some (.ref ca), some (.int (nI (s + p))), some (.int (nI (s + t))), some (.retAddr 35), some (.retAddr 36), some (.int 7), some (.int 2), some (.int 9), some (.int 1), some (.int 9)] [] _ _
          refine g_iinc (pc := 106) (v := 10) dc_M_readByte_106 rfl (by decide) (by decide) ?_
          show am_G X mt_M_readByte _ 109 [some (.ref 84), some (.ref ca), some (.int (nI (s + p))), some (.int (nI (s + t))), some (.retAddr 35), some (.retAddr 36), some (.int 7), some (.int 2), some (.int 9), some (.int 1), some (.int 10)] [] _ _
          refine g_goto (pc := 109) (tgt := 66) dc_M_readByte_109 rfl ?_
          refine g_iload (pc := 66) dc_M_readByte_66 rfl ?_
          refine g_iload (pc := 68) dc_M_readByte_68 rfl ?_
          refine g_icmp_gt (pc := 70) (tgt := 112) dc_M_readByte_70 rfl (fun _ => ?_) (fun hc => absurd hc (by decide))
          refine g_iload (pc := 112) dc_M_readByte_112 rfl ?_
          refine g_if_eq (pc := 114) (tgt := 138) dc_M_readByte_114 rfl (fun hc => absurd hc (by decide)) (fun _ => ?_)
          refine g_aload_n (pc := 117) dc_M_readByte_117 rfl ?_
          refine g_xload (pc := 118) dc_M_readByte_118 rfl ?_
          refine g_iload (pc := 120) dc_M_readByte_120 rfl ?_
          refine g_x1 (pc := 122) (M' := mt_JString_charAt) dc_M_readByte_122 mo_JString_charAt im_JString_charAt se_JString_charAt (am_t8 197 rfl rfl) (by decide) (Nat.le_of_ble_eq_true rfl) (Nat.le_of_ble_eq_true rfl) (am_G.mono (c_charAt (i := 36) (k := 2) (by decide) (by decide)) ?_)
          intro r h1 hq
          rw [hq.1, hq.2]
          clear hq h1 r
          refine ⟨am_nti _, ?_⟩
          rw [show ch 36 2 = 62 from rfl]
          refine pf_byteValue (pc := 125) (v := 62) hA dc_M_readByte_125 fp_M_readByte_217 ?_
          refine g_iload_n (pc := 128) dc_M_readByte_128 rfl ?_
          refine g_iconst (pc := 129) (v := 2) dc_M_readByte_129 rfl ?_
          refine g_iadd (pc := 130) (v := (nI (s + (p + 2)))) dc_M_readByte_130 (q_as s p 2) ?_
          refine g_iload (pc := 131) dc_M_readByte_131 rfl ?_
          refine g_iadd (pc := 133) (v := (nI (s + (p + 11)))) dc_M_readByte_133 ((q_as s (p + 2) 9).trans (congrArg nI (by omega))) ?_
          refine g_iload (pc := 134) dc_M_readByte_134 rfl ?_
          refine g_isub (pc := 136) (v := (nI (s + (p + 4)))) dc_M_readByte_136 ((q_sn (s := s) (a := p + 11) (b := 7) (by omega)).trans (congrArg nI (by omega))) ?_
          have hm : mnm 2 L p t = true := decide_eq_true ⟨by omega, hc96, hc96z, hc96zz⟩
          have e9 : mrb L p t = some (62, p + 4) := by unfold mrb; rw [if_neg (by rw [h0]; decide), if_neg (by rw [h1]; decide), if_pos hm]
          exact g_ireturn dc_M_readByte_137 rfl ⟨by rw [e9]; rfl, by rw [e9]; rfl⟩
theorem n1_M_readByte (hA : A.length = 84) (hx : tt (mput A S B) ca s L) (hp : p < t) (ht : t ≤ L.length) (h0 : mnm 0 L p t = false) : am_G X mt_M_readByte (d + 4) 14 [some (.ref 84), some (.ref ca), some (.int (nI (s + p))), some (.int (nI (s + t))), some (.retAddr 35), some (.retAddr 36), some (.int 4), some (.int 1), none, none, none] [] (mput A S B) (fun r h1 => r = some (.int (er ((mrb L p t).map (fun q => s + q.2)))) ∧ h1 = mput A (match mrb L p t with | some q => S.s_byteValue (nI q.1) | none => S) B) := by
  have hx0 := hx
  obtain ⟨cap, g, ha, hT, hs, hc⟩ := hx
  refine g_iload (pc := 14) dc_M_readByte_14 rfl ?_
  refine g_iconst (pc := 16) (v := 5) dc_M_readByte_16 rfl ?_
  refine g_icmp_ge (pc := 17) (tgt := 150) dc_M_readByte_17 rfl (fun hc => absurd hc (by decide)) (fun _ => ?_)
  refine g_iload (pc := 20) dc_M_readByte_20 rfl ?_
  refine g_istore (pc := 22) dc_M_readByte_22 (by decide) ?_
  show am_G X mt_M_readByte _ 24 [some (.ref 84), some (.ref ca), some (.int (nI (s + p))), some (.int (nI (s + t))), some (.retAddr 35), some (.retAddr 36), some (.int 4), some (.int 1), some (.int 4), none, none] [] _ _
  refine g_xload (pc := 24) dc_M_readByte_24 rfl ?_
  refine g_iload (pc := 26) dc_M_readByte_26 rfl ?_
  refine g_x1 (pc := 28) (M' := mt_JString_charAt) dc_M_readByte_28 mo_JString_charAt im_JString_charAt se_JString_charAt (am_t8 197 rfl rfl) (by decide) (Nat.le_of_ble_eq_true rfl) (Nat.le_of_ble_eq_true rfl) (am_G.mono (c_charAt (i := 35) (k := 4) (by decide) (by decide)) ?_)
  intro r h1 hq
  rw [hq.1, hq.2]
  clear hq h1 r
  refine ⟨am_nti _, ?_⟩
  rw [show ch 35 4 = 108 from rfl]
  refine g_bipush (pc := 31) (v := 59) dc_M_readByte_31 rfl ?_
  refine g_icmp_eq (pc := 33) (tgt := 42) dc_M_readByte_33 rfl (fun hc => absurd hc (by decide)) (fun _ => ?_)
  refine g_iinc (pc := 36) (v := 5) dc_M_readByte_36 rfl (by decide) (by decide) ?_
  show am_G X mt_M_readByte _ 39 [some (.ref 84), some (.ref ca), some (.int (nI (s + p))), some (.int (nI (s + t))), some (.retAddr 35), some (.retAddr 36), some (.int 4), some (.int 1), some (.int 5), none, none] [] _ _
  refine g_goto (pc := 39) (tgt := 24) dc_M_readByte_39 rfl ?_
  refine g_xload (pc := 24) dc_M_readByte_24 rfl ?_
  refine g_iload (pc := 26) dc_M_readByte_26 rfl ?_
  refine g_x1 (pc := 28) (M' := mt_JString_charAt) dc_M_readByte_28 mo_JString_charAt im_JString_charAt se_JString_charAt (am_t8 197 rfl rfl) (by decide) (Nat.le_of_ble_eq_true rfl) (Nat.le_of_ble_eq_true rfl) (am_G.mono (c_charAt (i := 35) (k := 5) (by decide) (by decide)) ?_)
  intro r h1 hq
  rw [hq.1, hq.2]
  clear hq h1 r
  refine ⟨am_nti _, ?_⟩
  rw [show ch 35 5 = 116 from rfl]
  refine g_bipush (pc := 31) (v := 59) dc_M_readByte_31 rfl ?_
  refine g_icmp_eq (pc := 33) (tgt := 42) dc_M_readByte_33 rfl (fun hc => absurd hc (by decide)) (fun _ => ?_)
  refine g_iinc (pc := 36) (v := 6) dc_M_readByte_36 rfl (by decide) (by decide) ?_
  show am_G X mt_M_readByte _ 39 [some (.ref 84), some (.ref ca), some (.int (nI (s + p))), some (.int (nI (s + t))), some (.retAddr 35), some (.retAddr 36), some (.int 4), some (.int 1), some (.int 6), none, none] [] _ _
  refine g_goto (pc := 39) (tgt := 24) dc_M_readByte_39 rfl ?_
  refine g_xload (pc := 24) dc_M_readByte_24 rfl ?_
  refine g_iload (pc := 26) dc_M_readByte_26 rfl ?_
  refine g_x1 (pc := 28) (M' := mt_JString_charAt) dc_M_readByte_28 mo_JString_charAt im_JString_charAt se_JString_charAt (am_t8 197 rfl rfl) (by decide) (Nat.le_of_ble_eq_true rfl) (Nat.le_of_ble_eq_true rfl) (am_G.mono (c_charAt (i := 35) (k := 6) (by decide) (by decide)) ?_)
  intro r h1 hq
  rw [hq.1, hq.2]
  clear hq h1 r
  refine ⟨am_nti _, ?_⟩
  rw [show ch 35 6 = 59 from rfl]
  refine g_bipush (pc := 31) (v := 59) dc_M_readByte_31 rfl ?_
  refine g_icmp_eq (pc := 33) (tgt := 42) dc_M_readByte_33 rfl (fun _ => ?_) (fun hc => absurd hc (by decide))
  refine g_iload_n (pc := 42) dc_M_readByte_42 rfl ?_
  refine g_iconst (pc := 43) (v := 2) dc_M_readByte_43 rfl ?_
  refine g_iadd (pc := 44) (v := (nI (s + (p + 2)))) dc_M_readByte_44 (q_as s p 2) ?_
  refine g_iload (pc := 45) dc_M_readByte_45 rfl ?_
  refine g_iadd (pc := 47) (v := (nI (s + (p + 8)))) dc_M_readByte_47 ((q_as s (p + 2) 6).trans (congrArg nI (by omega))) ?_
  refine g_iload (pc := 48) dc_M_readByte_48 rfl ?_
  refine g_isub (pc := 50) (v := (nI (s + (p + 4)))) dc_M_readByte_50 ((q_sn (s := s) (a := p + 8) (b := 4) (by omega)).trans (congrArg nI (by omega))) ?_
  refine g_iload_n (pc := 51) dc_M_readByte_51 rfl ?_
  refine q_icmp_gt (pc := 52) (tgt := 59) (s + (p + 4)) (s + t) dc_M_readByte_52 (by omega) (by omega) rfl (fun hc52 => ?_) (fun hc52 => ?_)
  · refine g_iconst (pc := 59) (v := 0) dc_M_readByte_59 rfl ?_
    refine g_istore (pc := 60) dc_M_readByte_60 (by decide) ?_
    show am_G X mt_M_readByte _ 62 [some (.ref 84), some (.ref ca), some (.int (nI (s + p))), some (.int (nI (s + t))), some (.retAddr 35), some (.retAddr 36), some (.int 4), some (.int 1), some (.int 6), some (.int 0), none] [] _ _
    refine g_iload (pc := 62) dc_M_readByte_62 rfl ?_
    refine g_istore (pc := 64) dc_M_readByte_64 (by decide) ?_
    show am_G X mt_M_readByte _ 66 [some (.ref 84), some (.ref ca), some (.int (nI (s + p))), some (.int (nI (s + t))), some (.retAddr 35), some (.retAddr 36), some (.int 4), some (.int 1), some (.int 6), some (.int 0), some (.int 4)] [] _ _
    refine g_iload (pc := 66) dc_M_readByte_66 rfl ?_
    refine g_iload (pc := 68) dc_M_readByte_68 rfl ?_
    refine g_icmp_gt (pc := 70) (tgt := 112) dc_M_readByte_70 rfl (fun hc => absurd hc (by decide)) (fun _ => ?_)
    refine g_iload (pc := 73) dc_M_readByte_73 rfl ?_
    refine g_if_eq (pc := 75) (tgt := 112) dc_M_readByte_75 rfl (fun _ => ?_) (fun hc => absurd hc (by decide))
    refine g_iload (pc := 112) dc_M_readByte_112 rfl ?_
    refine g_if_eq (pc := 114) (tgt := 138) dc_M_readByte_114 rfl (fun _ => ?_) (fun hc => absurd hc (by decide))
    refine g_iload (pc := 138) dc_M_readByte_138 rfl ?_
    refine g_iconst (pc := 140) (v := 1) dc_M_readByte_140 rfl ?_
    refine g_iadd (pc := 141) (v := 7) dc_M_readByte_141 (by decide) ?_
    refine g_istore (pc := 142) dc_M_readByte_142 (by decide) ?_
    show am_G X mt_M_readByte _ 144 [some (.ref 84), some (.ref ca), some (.int (nI (s + p))), some (.int (nI (s + t))), some (.retAddr 35), some (.retAddr 36), some (.int 7), some (.int 1), some (.int 6), some (.int 0), some (.int 4)] [] _ _
    refine g_iinc (pc := 144) (v := 2) dc_M_readByte_144 rfl (by decide) (by decide) ?_
    show am_G X mt_M_readByte _ 147 [some (.ref 84), some (.ref ca), some (.int (nI (s + p))), some (.int (nI (s + t))), some (.retAddr 35), some (.retAddr 36), some (.int 7), some (.int 2), some (.int 6), some (.int 0), some (.int 4)] [] _ _
    refine g_goto (pc := 147) (tgt := 14) dc_M_readByte_147 rfl ?_
    have hk1 : mnm 1 L p t = false := decide_eq_false (fun h9 => by have h10 := h9.1; omega)
    refine am_wk (am_le_s (am_le_s (am_le_s (am_le_s (am_le_s (am_le_s (am_le_s (am_le_s (am_le_n (am_le_n (am_le_n am_le_0))))))))))) ?_
    exact n2_M_readByte hA hx0 hp ht h0 hk1
  · refine g_iconst (pc := 55) (v := 1) dc_M_readByte_55 rfl ?_
    refine g_goto (pc := 56) (tgt := 60) dc_M_readByte_56 rfl ?_
    refine g_istore (pc := 60) dc_M_readByte_60 (by decide) ?_
    show am_G X mt_M_readByte _ 62 [some (.ref 84), some (.ref ca), some (.int (nI (s + p))), some (.int (nI (s + t))), some (.retAddr 35), some (.retAddr 36), some (.int 4), some (.int 1), some (.int 6), some (.int 1), none] [] _ _
    refine g_iload (pc := 62) dc_M_readByte_62 rfl ?_
    refine g_istore (pc := 64) dc_M_readByte_64 (by decide) ?_
    show am_G X mt_M_readByte _ 66 [some (.ref 84), some (.ref ca), some (.int (nI (s + p))), some (.int (nI (s + t))), some (.retAddr 35), some (.retAddr 36), some (.int 4), some (.int 1), some (.int 6), some (.int 1), some (.int 4)] [] _ _
    refine g_iload (pc := 66) dc_M_readByte_66 rfl ?_
    refine g_iload (pc := 68) dc_M_readByte_68 rfl ?_
    refine g_icmp_gt (pc := 70) (tgt := 112) dc_M_readByte_70 rfl (fun hc => absurd hc (by decide)) (fun _ => ?_)
    refine g_iload (pc := 73) dc_M_readByte_73 rfl ?_
    refine g_if_eq (pc := 75) (tgt := 112) dc_M_readByte_75 rfl (fun hc => absurd hc (by decide)) (fun _ => ?_)
    refine g_aload_n (pc := 78) dc_M_readByte_78 rfl ?_
    refine g_iload_n (pc := 79) dc_M_readByte_79 rfl ?_
    refine g_iconst (pc := 80) (v := 1) dc_M_readByte_80 rfl ?_
    refine g_iadd (pc := 81) (v := (nI (s + (p + 1)))) dc_M_readByte_81 (q_as s p 1) ?_
    refine g_iload (pc := 82) dc_M_readByte_82 rfl ?_
    refine g_iadd (pc := 84) (v := (nI (s + (p + 5)))) dc_M_readByte_84 ((q_as s (p + 1) 4).trans (congrArg nI (by omega))) ?_
    refine g_iload (pc := 85) dc_M_readByte_85 rfl ?_
    refine g_isub (pc := 87) (v := (nI (s + (p + 1)))) dc_M_readByte_87 ((q_sn (s := s) (a := p + 5) (b := 4) (by omega)).trans (congrArg nI (by omega))) ?_
    refine q_tx (pc := 88) (p + 1) dc_M_readByte_88 ha hT hs (by omega) hc ?_
    refine g_xload (pc := 89) dc_M_readByte_89 rfl ?_
    refine g_iload (pc := 91) dc_M_readByte_91 rfl ?_
    refine g_x1 (pc := 93) (M' := mt_JString_charAt) dc_M_readByte_93 mo_JString_charAt im_JString_charAt se_JString_charAt (am_t8 197 rfl rfl) (by decide) (Nat.le_of_ble_eq_true rfl) (Nat.le_of_ble_eq_true rfl) (am_G.mono (c_charAt (i := 35) (k := 4) (by decide) (by decide)) ?_)
    intro r h1 hq
    rw [hq.1, hq.2]
    clear hq h1 r
    refine ⟨am_nti _, ?_⟩
    rw [show ch 35 4 = 108 from rfl]
    refine g_icmp_ne (pc := 96) (tgt := 103) dc_M_readByte_96 rfl (fun hc96 => ?_) (fun hc96 => ?_)
    · refine g_iconst (pc := 103) (v := 0) dc_M_readByte_103 rfl ?_
      refine g_istore (pc := 104) dc_M_readByte_104 (by decide) ?_
      show am_G X mt_M_readByte _ 106 [some (.ref 84), some (.ref ca), some (.int (nI (s + p))), some (.int (nI (s + t))), some (.retAddr 35), some (.retAddr 36), some (.int 4), some (.int 1), some (.int 6), some (.int 0), some (.int 4)] [] _ _
      refine g_iinc (pc := 106) (v := 5) dc_M_readByte_106 rfl (by decide) (by decide) ?_
      show am_G X mt_M_readByte _ 109 [some (.ref 84), some (.ref ca), some (.int (nI (s + p))), some (.int (nI (s + t))), some (.retAddr 35), some (.retAddr 36), some (.int 4), some (.int 1), some (.int 6), some (.int 0), some (.int 5)] [] _ _
      refine g_goto (pc := 109) (tgt := 66) dc_M_readByte_109 rfl ?_
      refine g_iload (pc := 66) dc_M_readByte_66 rfl ?_
      refine g_iload (pc := 68) dc_M_readByte_68 rfl ?_
      refine g_icmp_gt (pc := 70) (tgt := 112) dc_M_readByte_70 rfl (fun hc => absurd hc (by decide)) (fun _ => ?_)
      refine g_iload (pc := 73) dc_M_readByte_73 rfl ?_
      refine g_if_eq (pc := 75) (tgt := 112) dc_M_readByte_75 rfl (fun _ => ?_) (fun hc => absurd hc (by decide))
      refine g_iload (pc := 112) dc_M_readByte_112 rfl ?_
      refine g_if_eq (pc := 114) (tgt := 138) dc_M_readByte_114 rfl (fun _ => ?_) (fun hc => absurd hc (by decide))
      refine g_iload (pc := 138) dc_M_readByte_138 rfl ?_
      refine g_iconst (pc := 140) (v := 1) dc_M_readByte_140 rfl ?_
      refine g_iadd (pc := 141) (v := 7) dc_M_readByte_141 (by decide) ?_
      refine g_istore (pc := 142) dc_M_readByte_142 (by decide) ?_
      show am_G X mt_M_readByte _ 144 [some (.ref 84), some (.ref ca), some (.int (nI (s + p))), some (.int (nI (s + t))), some (.retAddr 35), some (.retAddr 36), some (.int 7), some (.int 1), some (.int 6), some (.int 0), some (.int 5)] [] _ _
      refine g_iinc (pc := 144) (v := 2) dc_M_readByte_144 rfl (by decide) (by decide) ?_
      show am_G X mt_M_readByte _ 147 [some (.ref 84), some (.ref ca), some (.int (nI (s + p))), some (.int (nI (s + t))), some (.retAddr 35), some (.retAddr 36), some (.int 7), some (.int 2), some (.int 6), some (.int 0), some (.int 5)] [] _ _
      refine g_goto (pc := 147) (tgt := 14) dc_M_readByte_147 rfl ?_
      have hk1 : mnm 1 L p t = false := decide_eq_false (fun h9 => hc96 (h9.2.1))
      refine am_wk (am_le_s (am_le_s (am_le_s (am_le_s (am_le_s (am_le_s (am_le_s (am_le_s (am_le_n (am_le_n (am_le_n am_le_0))))))))))) ?_
      exact n2_M_readByte hA hx0 hp ht h0 hk1
    · refine g_iconst (pc := 99) (v := 1) dc_M_readByte_99 rfl ?_
      refine g_goto (pc := 100) (tgt := 104) dc_M_readByte_100 rfl ?_
      refine g_istore (pc := 104) dc_M_readByte_104 (by decide) ?_
      show am_G X mt_M_readByte _ 106 [some (.ref 84), some (.ref ca), some (.int (nI (s + p))), some (.int (nI (s + t))), some (.retAddr 35), some (.retAddr 36), some (.int 4), some (.int 1), some (.int 6), some (.int 1), some (.int 4)] [] _ _
      refine g_iinc (pc := 106) (v := 5) dc_M_readByte_106 rfl (by decide) (by decide) ?_
      show am_G X mt_M_readByte _ 109 [some (.ref 84), some (.ref ca), some (.int (nI (s + p))), some (.int (nI (s + t))), some (.retAddr 35), some (.retAddr 36), some (.int 4), some (.int 1), some (.int 6), some (.int 1), some (.int 5)] [] _ _
      refine g_goto (pc := 109) (tgt := 66) dc_M_readByte_109 rfl ?_
      refine g_iload (pc := 66) dc_M_readByte_66 rfl ?_
      refine g_iload (pc := 68) dc_M_readByte_68 rfl ?_
      refine g_icmp_gt (pc := 70) (tgt := 112) dc_M_readByte_70 rfl (fun hc => absurd hc (by decide)) (fun _ => ?_)
      refine g_iload (pc := 73) dc_M_readByte_73 rfl ?_
      refine g_if_eq (pc := 75) (tgt := 112) dc_M_readByte_75 rfl (fun hc => absurd hc (by decide)) (fun _ => ?_)
      refine g_aload_n (pc := 78) dc_M_readByte_78 rfl ?_
      refine g_iload_n (pc := 79) dc_M_readByte_79 rfl ?_
      refine g_iconst (pc := 80) (v := 1) dc_M_readByte_80 rfl ?_
      refine g_iadd (pc := 81) (v := (nI (s + (p + 1)))) dc_M_readByte_81 (q_as s p 1) ?_
      refine g_iload (pc := 82) dc_M_readByte_82 rfl ?_
      refine g_iadd (pc := 84) (v := (nI (s + (p + 6)))) dc_M_readByte_84 ((q_as s (p + 1) 5).trans (congrArg nI (by omega))) ?_
      refine g_iload (pc := 85) dc_M_readByte_85 rfl ?_
      refine g_isub (pc := 87) (v := (nI (s + (p + 2)))) dc_M_readByte_87 ((q_sn (s := s) (a := p + 6) (b := 4) (by omega)).trans (congrArg nI (by omega))) ?_
      refine q_tx (pc := 88) (p + 2) dc_M_readByte_88 ha hT hs (by omega) hc ?_
      refine g_xload (pc := 89) dc_M_readByte_89 rfl ?_
      refine g_iload (pc := 91) dc_M_readByte_91 rfl ?_
      refine g_x1 (pc := 93) (M' := mt_JString_charAt) dc_M_readByte_93 mo_JString_charAt im_JString_charAt se_JString_charAt (am_t8 197 rfl rfl) (by decide) (Nat.le_of_ble_eq_true rfl) (Nat.le_of_ble_eq_true rfl) (am_G.mono (c_charAt (i := 35) (k := 5) (by decide) (by decide)) ?_)
      intro r h1 hq
      rw [hq.1, hq.2]
      clear hq h1 r
      refine ⟨am_nti _, ?_⟩
      rw [show ch 35 5 = 116 from rfl]
      refine g_icmp_ne (pc := 96) (tgt := 103) dc_M_readByte_96 rfl (fun hc96z => ?_) (fun hc96z => ?_)
      · refine g_iconst (pc := 103) (v := 0) dc_M_readByte_103 rfl ?_
        refine g_istore (pc := 104) dc_M_readByte_104 (by decide) ?_
        show am_G X mt_M_readByte _ 106 [some (.ref 84), some (.ref ca), some (.int (nI (s + p))), some (.int (nI (s + t))), some (.retAddr 35), some (.retAddr 36), some (.int 4), some (.int 1), some (.int 6), some (.int 0), some (.int 5)] [] _ _
        refine g_iinc (pc := 106) (v := 6) dc_M_readByte_106 rfl (by decide) (by decide) ?_
        show am_G X mt_M_readByte _ 109 [some (.ref 84), some (.ref ca), some (.int (nI (s + p))), some (.int (nI (s + t))), some (.retAddr 35), some (.retAddr 36), some (.int 4), some (.int 1), some (.int 6), some (.int 0), some (.int 6)] [] _ _
        refine g_goto (pc := 109) (tgt := 66) dc_M_readByte_109 rfl ?_
        refine g_iload (pc := 66) dc_M_readByte_66 rfl ?_
        refine g_iload (pc := 68) dc_M_readByte_68 rfl ?_
        refine g_icmp_gt (pc := 70) (tgt := 112) dc_M_readByte_70 rfl (fun hc => absurd hc (by decide)) (fun _ => ?_)
        refine g_iload (pc := 73) dc_M_readByte_73 rfl ?_
        refine g_if_eq (pc := 75) (tgt := 112) dc_M_readByte_75 rfl (fun _ => ?_) (fun hc => absurd hc (by decide))
        refine g_iload (pc := 112) dc_M_readByte_112 rfl ?_
        refine g_if_eq (pc := 114) (tgt := 138) dc_M_readByte_114 rfl (fun _ => ?_) (fun hc => absurd hc (by decide))
        refine g_iload (pc := 138) dc_M_readByte_138 rfl ?_
        refine g_iconst (pc := 140) (v := 1) dc_M_readByte_140 rfl ?_
        refine g_iadd (pc := 141) (v := 7) dc_M_readByte_141 (by decide) ?_
        refine g_istore (pc := 142) dc_M_readByte_142 (by decide) ?_
        show am_G X mt_M_readByte _ 144 [some (.ref 84), some (.ref ca), some (.int (nI (s + p))), some (.int (nI (s + t))), some (.retAddr 35), some (.retAddr 36), some (.int 7), some (.int 1), some (.int 6), some (.int 0), some (.int 6)] [] _ _
        refine g_iinc (pc := 144) (v := 2) dc_M_readByte_144 rfl (by decide) (by decide) ?_
        show am_G X mt_M_readByte _ 147 [some (.ref 84), some (.ref ca), some (.int (nI (s + p))), some (.int (nI (s + t))), some (.retAddr 35), some (.retAddr 36), some (.int 7), some (.int 2), some (.int 6), some (.int 0), some (.int 6)] [] _ _
        refine g_goto (pc := 147) (tgt := 14) dc_M_readByte_147 rfl ?_
        have hk1 : mnm 1 L p t = false := decide_eq_false (fun h9 => hc96z (h9.2.2.1))
        refine am_wk (am_le_s (am_le_s (am_le_s (am_le_s (am_le_s (am_le_s (am_le_s (am_le_s (am_le_n (am_le_n (am_le_n am_le_0))))))))))) ?_
        exact n2_M_readByte hA hx0 hp ht h0 hk1
      · refine g_iconst (pc := 99) (v := 1) dc_M_readByte_99 rfl ?_
        refine g_goto (pc := 100) (tgt := 104) dc_M_readByte_100 rfl ?_
        refine g_istore (pc := 104) dc_M_readByte_104 (by decide) ?_
        show am_G X mt_M_readByte _ 106 [some (.ref 84), some (.ref ca), some (.int (nI (s + p))), some (.int (nI (s + t))), some (.retAddr 35), some (.retAddr 36), some (.int 4), some (.int 1), some (.int 6), some (.int 1), some (.int 5)] [] _ _
        refine g_iinc (pc := 106) (v := 6) dc_M_readByte_106 rfl (by decide) (by decide) ?_
        show am_G X mt_M_readByte _ 109 [some (.ref 84), some (.ref ca), some (.int (nI (s + p))), some (.int (nI (s + t))), some (.retAddr 35), some (.retAddr 36), some (.int 4), some (.int 1), some (.int 6), some (.int 1), some (.int 6)] [] _ _
        refine g_goto (pc := 109) (tgt := 66) dc_M_readByte_109 rfl ?_
        refine g_iload (pc := 66) dc_M_readByte_66 rfl ?_
        refine g_iload (pc := 68) dc_M_readByte_68 rfl ?_
        refine g_icmp_gt (pc := 70) (tgt := 112) dc_M_readByte_70 rfl (fun hc => absurd hc (by decide)) (fun _ => ?_)
        refine g_iload (pc := 73) dc_M_readByte_73 rfl ?_
        refine g_if_eq (pc := 75) (tgt := 112) dc_M_readByte_75 rfl (fun hc => absurd hc (by decide)) (fun _ => ?_)
        refine g_aload_n (pc := 78) dc_M_readByte_78 rfl ?_
        refine g_iload_n (pc := 79) dc_M_readByte_79 rfl ?_
        refine g_iconst (pc := 80) (v := 1) dc_M_readByte_80 rfl ?_
        refine g_iadd (pc := 81) (v := (nI (s + (p + 1)))) dc_M_readByte_81 (q_as s p 1) ?_
        refine g_iload (pc := 82) dc_M_readByte_82 rfl ?_
        refine g_iadd (pc := 84) (v := (nI (s + (p + 7)))) dc_M_readByte_84 ((q_as s (p + 1) 6).trans (congrArg nI (by omega))) ?_
        refine g_iload (pc := 85) dc_M_readByte_85 rfl ?_
        refine g_isub (pc := 87) (v := (nI (s + (p + 3)))) dc_M_readByte_87 ((q_sn (s := s) (a := p + 7) (b := 4) (by omega)).trans (congrArg nI (by omega))) ?_
        refine q_tx (pc := 88) (p + 3) dc_M_readByte_88 ha hT hs (by omega) hc ?_
        refine g_xload (pc := 89) dc_M_readByte_89 rfl ?_
        refine g_iload (pc := 91) dc_M_readByte_91 rfl ?_
        refine g_x1 (pc := 93) (M' := mt_JString_charAt) dc_M_readByte_93 mo_JString_charAt im_JString_charAt se_JString_charAt (am_t8 197 rfl rfl) (by decide) (Nat.le_of_ble_eq_true rfl) (Nat.le_of_ble_eq_true rfl) (am_G.mono (c_charAt (i := 35) (k := 6) (by decide) (by decide)) ?_)
        intro r h1 hq
        rw [hq.1, hq.2]
        clear hq h1 r
        refine ⟨am_nti _, ?_⟩
        rw [show ch 35 6 = 59 from rfl]
        refine g_icmp_ne (pc := 96) (tgt := 103) dc_M_readByte_96 rfl (fun hc96zz => ?_) (fun hc96zz => ?_)
        · refine g_iconst (pc := 103) (v := 0) dc_M_readByte_103 rfl ?_
          refine g_istore (pc := 104) dc_M_readByte_104 (by decide) ?_
          show am_G X mt_M_readByte _ 106 [some (.ref 84), some (.ref ca), some (.int (nI (s + p))), some (.int (nI (s + t))), some (.retAddr 35), some (.retAddr 36), some (.int 4), some (.int 1), some (.int 6), some (.int 0), some (.int 6)] [] _ _
          refine g_iinc (pc := 106) (v := 7) dc_M_readByte_106 rfl (by decide) (by decide) ?_
          show am_G X mt_M_readByte _ 109 [some (.ref 84), some (.ref ca), some (.int (nI (s + p))), some (.int (nI (s + t))), some (.retAddr 35), some (.retAddr 36), some (.int 4), some (.int 1), some (.int 6), some (.int 0), some (.int 7)] [] _ _
          refine g_goto (pc := 109) (tgt := 66) dc_M_readByte_109 rfl ?_
          refine g_iload (pc := 66) dc_M_readByte_66 rfl ?_
          refine g_iload (pc := 68) dc_M_readByte_68 rfl ?_
          refine g_icmp_gt (pc := 70) (tgt := 112) dc_M_readByte_70 rfl (fun _ => ?_) (fun hc => absurd hc (by decide))
          refine g_iload (pc := 112) dc_M_readByte_112 rfl ?_
          refine g_if_eq (pc := 114) (tgt := 138) dc_M_readByte_114 rfl (fun _ => ?_) (fun hc => absurd hc (by decide))
          refine g_iload (pc := 138) dc_M_readByte_138 rfl ?_
          refine g_iconst (pc := 140) (v := 1) dc_M_readByte_140 rfl ?_
          refine g_iadd (pc := 141) (v := 7) dc_M_readByte_141 (by decide) ?_
          refine g_istore (pc := 142) dc_M_readByte_142 (by decide) ?_
          show am_G X mt_M_readByte _ 144 [some (.ref 84), some (.ref ca), some (.int (nI (s + p))), some (.int (nI (s + t))), some (.retAddr 35), some (.retAddr 36), some (.int 7), some (.int 1), some (.int 6), some (.int 0), some (.int 7)] [] _ _
          refine g_iinc (pc := 144) (v := 2) dc_M_readByte_144 rfl (by decide) (by decide) ?_
          show am_G X mt_M_readByte _ 147 [some (.ref 84), some (.ref ca), some (.int (nI (s + p))), some (.int (nI (s + t))), some (.retAddr 35), some (.retAddr 36), some (.int 7), some (.int 2), some (.int 6), some (.int 0), some (.int 7)] [] _ _
          refine g_goto (pc := 147) (tgt := 14) dc_M_readByte_147 rfl ?_
          have hk1 : mnm 1 L p t = false := decide_eq_false (fun h9 => hc96zz (h9.2.2.2))
          refine am_wk (am_le_s (am_le_s (am_le_s (am_le_s (am_le_s (am_le_s (am_le_s (am_le_s (am_le_n (am_le_n (am_le_n am_le_0))))))))))) ?_
          exact n2_M_readByte hA hx0 hp ht h0 hk1
        · refine g_iconst (pc := 99) (v := 1) dc_M_readByte_99 rfl ?_
          refine g_goto (pc := 100) (tgt := 104) dc_M_readByte_100 rfl ?_
          refine g_istore (pc := 104) dc_M_readByte_104 (by decide) ?_
          show am_G X mt_M_readByte _ 106 [some (.ref 84), some (.ref ca), some (.int (nI (s + p))), some (.int (nI (s + t))), some (.retAddr 35), some (.retAddr 36), some (.int 4), some (.int 1), some (.int 6), some (.int 1), some (.int 6)] [] _ _
          refine g_iinc (pc := 106) (v := 7) dc_M_readByte_106 rfl (by decide) (by decide) ?_
          show am_G X mt_M_readByte _ 109 [some (.ref 84), some (.ref ca), some (.int (nI (s + p))), some (.int (nI (s + t))), some (.retAddr 35), some (.retAddr 36), some (.int 4), some (.int 1), some (.int 6), some (.int 1), some (.int 7)] [] _ _
          refine g_goto (pc := 109) (tgt := 66) dc_M_readByte_109 rfl ?_
          refine g_iload (pc := 66) dc_M_readByte_66 rfl ?_
          refine g_iload (pc := 68) dc_M_readByte_68 rfl ?_
          refine g_icmp_gt (pc := 70) (tgt := 112) dc_M_readByte_70 rfl (fun _ => ?_) (fun hc => absurd hc (by decide))
          refine g_iload (pc := 112) dc_M_readByte_112 rfl ?_
          refine g_if_eq (pc := 114) (tgt := 138) dc_M_readByte_114 rfl (fun hc => absurd hc (by decide)) (fun _ => ?_)
          refine g_aload_n (pc := 117) dc_M_readByte_117 rfl ?_
          refine g_xload (pc := 118) dc_M_readByte_118 rfl ?_
          refine g_iload (pc := 120) dc_M_readByte_120 rfl ?_
          refine g_x1 (pc := 122) (M' := mt_JString_charAt) dc_M_readByte_122 mo_JString_charAt im_JString_charAt se_JString_charAt (am_t8 197 rfl rfl) (by decide) (Nat.le_of_ble_eq_true rfl) (Nat.le_of_ble_eq_true rfl) (am_G.mono (c_charAt (i := 36) (k := 1) (by decide) (by decide)) ?_)
          intro r h1 hq
          rw [hq.1, hq.2]
          clear hq h1 r
          refine ⟨am_nti _, ?_⟩
          rw [show ch 36 1 = 60 from rfl]
          refine pf_byteValue (pc := 125) (v := 60) hA dc_M_readByte_125 fp_M_readByte_217 ?_
          refine g_iload_n (pc := 128) dc_M_readByte_128 rfl ?_
          refine g_iconst (pc := 129) (v := 2) dc_M_readByte_129 rfl ?_
          refine g_iadd (pc := 130) (v := (nI (s + (p + 2)))) dc_M_readByte_130 (q_as s p 2) ?_
          refine g_iload (pc := 131) dc_M_readByte_131 rfl ?_
          refine g_iadd (pc := 133) (v := (nI (s + (p + 8)))) dc_M_readByte_133 ((q_as s (p + 2) 6).trans (congrArg nI (by omega))) ?_
          refine g_iload (pc := 134) dc_M_readByte_134 rfl ?_
          refine g_isub (pc := 136) (v := (nI (s + (p + 4)))) dc_M_readByte_136 ((q_sn (s := s) (a := p + 8) (b := 4) (by omega)).trans (congrArg nI (by omega))) ?_
          have hm : mnm 1 L p t = true := decide_eq_true ⟨by omega, hc96, hc96z, hc96zz⟩
          have e9 : mrb L p t = some (60, p + 4) := by unfold mrb; rw [if_neg (by rw [h0]; decide), if_pos hm]
          exact g_ireturn dc_M_readByte_137 rfl ⟨by rw [e9]; rfl, by rw [e9]; rfl⟩
theorem n0_M_readByte (hA : A.length = 84) (hx : tt (mput A S B) ca s L) (hp : p < t) (ht : t ≤ L.length)  : am_G X mt_M_readByte (d + 4) 14 [some (.ref 84), some (.ref ca), some (.int (nI (s + p))), some (.int (nI (s + t))), some (.retAddr 35), some (.retAddr 36), some (.int 0), some (.int 0), none, none, none] [] (mput A S B) (fun r h1 => r = some (.int (er ((mrb L p t).map (fun q => s + q.2)))) ∧ h1 = mput A (match mrb L p t with | some q => S.s_byteValue (nI q.1) | none => S) B) := by
  have hx0 := hx
  obtain ⟨cap, g, ha, hT, hs, hc⟩ := hx
  refine g_iload (pc := 14) dc_M_readByte_14 rfl ?_
  refine g_iconst (pc := 16) (v := 5) dc_M_readByte_16 rfl ?_
  refine g_icmp_ge (pc := 17) (tgt := 150) dc_M_readByte_17 rfl (fun hc => absurd hc (by decide)) (fun _ => ?_)
  refine g_iload (pc := 20) dc_M_readByte_20 rfl ?_
  refine g_istore (pc := 22) dc_M_readByte_22 (by decide) ?_
  show am_G X mt_M_readByte _ 24 [some (.ref 84), some (.ref ca), some (.int (nI (s + p))), some (.int (nI (s + t))), some (.retAddr 35), some (.retAddr 36), some (.int 0), some (.int 0), some (.int 0), none, none] [] _ _
  refine g_xload (pc := 24) dc_M_readByte_24 rfl ?_
  refine g_iload (pc := 26) dc_M_readByte_26 rfl ?_
  refine g_x1 (pc := 28) (M' := mt_JString_charAt) dc_M_readByte_28 mo_JString_charAt im_JString_charAt se_JString_charAt (am_t8 197 rfl rfl) (by decide) (Nat.le_of_ble_eq_true rfl) (Nat.le_of_ble_eq_true rfl) (am_G.mono (c_charAt (i := 35) (k := 0) (by decide) (by decide)) ?_)
  intro r h1 hq
  rw [hq.1, hq.2]
  clear hq h1 r
  refine ⟨am_nti _, ?_⟩
  rw [show ch 35 0 = 97 from rfl]
  refine g_bipush (pc := 31) (v := 59) dc_M_readByte_31 rfl ?_
  refine g_icmp_eq (pc := 33) (tgt := 42) dc_M_readByte_33 rfl (fun hc => absurd hc (by decide)) (fun _ => ?_)
  refine g_iinc (pc := 36) (v := 1) dc_M_readByte_36 rfl (by decide) (by decide) ?_
  show am_G X mt_M_readByte _ 39 [some (.ref 84), some (.ref ca), some (.int (nI (s + p))), some (.int (nI (s + t))), some (.retAddr 35), some (.retAddr 36), some (.int 0), some (.int 0), some (.int 1), none, none] [] _ _
  refine g_goto (pc := 39) (tgt := 24) dc_M_readByte_39 rfl ?_
  refine g_xload (pc := 24) dc_M_readByte_24 rfl ?_
  refine g_iload (pc := 26) dc_M_readByte_26 rfl ?_
  refine g_x1 (pc := 28) (M' := mt_JString_charAt) dc_M_readByte_28 mo_JString_charAt im_JString_charAt se_JString_charAt (am_t8 197 rfl rfl) (by decide) (Nat.le_of_ble_eq_true rfl) (Nat.le_of_ble_eq_true rfl) (am_G.mono (c_charAt (i := 35) (k := 1) (by decide) (by decide)) ?_)
  intro r h1 hq
  rw [hq.1, hq.2]
  clear hq h1 r
  refine ⟨am_nti _, ?_⟩
  rw [show ch 35 1 = 109 from rfl]
  refine g_bipush (pc := 31) (v := 59) dc_M_readByte_31 rfl ?_
  refine g_icmp_eq (pc := 33) (tgt := 42) dc_M_readByte_33 rfl (fun hc => absurd hc (by decide)) (fun _ => ?_)
  refine g_iinc (pc := 36) (v := 2) dc_M_readByte_36 rfl (by decide) (by decide) ?_
  show am_G X mt_M_readByte _ 39 [some (.ref 84), some (.ref ca), some (.int (nI (s + p))), some (.int (nI (s + t))), some (.retAddr 35), some (.retAddr 36), some (.int 0), some (.int 0), some (.int 2), none, none] [] _ _
  refine g_goto (pc := 39) (tgt := 24) dc_M_readByte_39 rfl ?_
  refine g_xload (pc := 24) dc_M_readByte_24 rfl ?_
  refine g_iload (pc := 26) dc_M_readByte_26 rfl ?_
  refine g_x1 (pc := 28) (M' := mt_JString_charAt) dc_M_readByte_28 mo_JString_charAt im_JString_charAt se_JString_charAt (am_t8 197 rfl rfl) (by decide) (Nat.le_of_ble_eq_true rfl) (Nat.le_of_ble_eq_true rfl) (am_G.mono (c_charAt (i := 35) (k := 2) (by decide) (by decide)) ?_)
  intro r h1 hq
  rw [hq.1, hq.2]
  clear hq h1 r
  refine ⟨am_nti _, ?_⟩
  rw [show ch 35 2 = 112 from rfl]
  refine g_bipush (pc := 31) (v := 59) dc_M_readByte_31 rfl ?_
  refine g_icmp_eq (pc := 33) (tgt := 42) dc_M_readByte_33 rfl (fun hc => absurd hc (by decide)) (fun _ => ?_)
  refine g_iinc (pc := 36) (v := 3) dc_M_readByte_36 rfl (by decide) (by decide) ?_
  show am_G X mt_M_readByte _ 39 [some (.ref 84), some (.ref ca), some (.int (nI (s + p))), some (.int (nI (s + t))), some (.retAddr 35), some (.retAddr 36), some (.int 0), some (.int 0), some (.int 3), none, none] [] _ _
  refine g_goto (pc := 39) (tgt := 24) dc_M_readByte_39 rfl ?_
  refine g_xload (pc := 24) dc_M_readByte_24 rfl ?_
  refine g_iload (pc := 26) dc_M_readByte_26 rfl ?_
  refine g_x1 (pc := 28) (M' := mt_JString_charAt) dc_M_readByte_28 mo_JString_charAt im_JString_charAt se_JString_charAt (am_t8 197 rfl rfl) (by decide) (Nat.le_of_ble_eq_true rfl) (Nat.le_of_ble_eq_true rfl) (am_G.mono (c_charAt (i := 35) (k := 3) (by decide) (by decide)) ?_)
  intro r h1 hq
  rw [hq.1, hq.2]
  clear hq h1 r
  refine ⟨am_nti _, ?_⟩
  rw [show ch 35 3 = 59 from rfl]
  refine g_bipush (pc := 31) (v := 59) dc_M_readByte_31 rfl ?_
  refine g_icmp_eq (pc := 33) (tgt := 42) dc_M_readByte_33 rfl (fun _ => ?_) (fun hc => absurd hc (by decide))
  refine g_iload_n (pc := 42) dc_M_readByte_42 rfl ?_
  refine g_iconst (pc := 43) (v := 2) dc_M_readByte_43 rfl ?_
  refine g_iadd (pc := 44) (v := (nI (s + (p + 2)))) dc_M_readByte_44 (q_as s p 2) ?_
  refine g_iload (pc := 45) dc_M_readByte_45 rfl ?_
  refine g_iadd (pc := 47) (v := (nI (s + (p + 5)))) dc_M_readByte_47 ((q_as s (p + 2) 3).trans (congrArg nI (by omega))) ?_
  refine g_iload (pc := 48) dc_M_readByte_48 rfl ?_
  refine g_isub (pc := 50) (v := (nI (s + (p + 5)))) dc_M_readByte_50 ((q_sn (s := s) (a := p + 5) (b := 0) (by omega)).trans (congrArg nI (by omega))) ?_
  refine g_iload_n (pc := 51) dc_M_readByte_51 rfl ?_
  refine q_icmp_gt (pc := 52) (tgt := 59) (s + (p + 5)) (s + t) dc_M_readByte_52 (by omega) (by omega) rfl (fun hc52 => ?_) (fun hc52 => ?_)
  · refine g_iconst (pc := 59) (v := 0) dc_M_readByte_59 rfl ?_
    refine g_istore (pc := 60) dc_M_readByte_60 (by decide) ?_
    show am_G X mt_M_readByte _ 62 [some (.ref 84), some (.ref ca), some (.int (nI (s + p))), some (.int (nI (s + t))), some (.retAddr 35), some (.retAddr 36), some (.int 0), some (.int 0), some (.int 3), some (.int 0), none] [] _ _
    refine g_iload (pc := 62) dc_M_readByte_62 rfl ?_
    refine g_istore (pc := 64) dc_M_readByte_64 (by decide) ?_
    show am_G X mt_M_readByte _ 66 [some (.ref 84), some (.ref ca), some (.int (nI (s + p))), some (.int (nI (s + t))), some (.retAddr 35), some (.retAddr 36), some (.int 0), some (.int 0), some (.int 3), some (.int 0), some (.int 0)] [] _ _
    refine g_iload (pc := 66) dc_M_readByte_66 rfl ?_
    refine g_iload (pc := 68) dc_M_readByte_68 rfl ?_
    refine g_icmp_gt (pc := 70) (tgt := 112) dc_M_readByte_70 rfl (fun hc => absurd hc (by decide)) (fun _ => ?_)
    refine g_iload (pc := 73) dc_M_readByte_73 rfl ?_
    refine g_if_eq (pc := 75) (tgt := 112) dc_M_readByte_75 rfl (fun _ => ?_) (fun hc => absurd hc (by decide))
    refine g_iload (pc := 112) dc_M_readByte_112 rfl ?_
    refine g_if_eq (pc := 114) (tgt := 138) dc_M_readByte_114 rfl (fun _ => ?_) (fun hc => absurd hc (by decide))
    refine g_iload (pc := 138) dc_M_readByte_138 rfl ?_
    refine g_iconst (pc := 140) (v := 1) dc_M_readByte_140 rfl ?_
    refine g_iadd (pc := 141) (v := 4) dc_M_readByte_141 (by decide) ?_
    refine g_istore (pc := 142) dc_M_readByte_142 (by decide) ?_
    show am_G X mt_M_readByte _ 144 [some (.ref 84), some (.ref ca), some (.int (nI (s + p))), some (.int (nI (s + t))), some (.retAddr 35), some (.retAddr 36), some (.int 4), some (.int 0), some (.int 3), some (.int 0), some (.int 0)] [] _ _
    refine g_iinc (pc := 144) (v := 1) dc_M_readByte_144 rfl (by decide) (by decide) ?_
    show am_G X mt_M_readByte _ 147 [some (.ref 84), some (.ref ca), some (.int (nI (s + p))), some (.int (nI (s + t))), some (.retAddr 35), some (.retAddr 36), some (.int 4), some (.int 1), some (.int 3), some (.int 0), some (.int 0)] [] _ _
    refine g_goto (pc := 147) (tgt := 14) dc_M_readByte_147 rfl ?_
    have hk0 : mnm 0 L p t = false := decide_eq_false (fun h9 => by have h10 := h9.1; omega)
    refine am_wk (am_le_s (am_le_s (am_le_s (am_le_s (am_le_s (am_le_s (am_le_s (am_le_s (am_le_n (am_le_n (am_le_n am_le_0))))))))))) ?_
    exact n1_M_readByte hA hx0 hp ht hk0
  · refine g_iconst (pc := 55) (v := 1) dc_M_readByte_55 rfl ?_
    refine g_goto (pc := 56) (tgt := 60) dc_M_readByte_56 rfl ?_
    refine g_istore (pc := 60) dc_M_readByte_60 (by decide) ?_
    show am_G X mt_M_readByte _ 62 [some (.ref 84), some (.ref ca), some (.int (nI (s + p))), some (.int (nI (s + t))), some (.retAddr 35), some (.retAddr 36), some (.int 0), some (.int 0), some (.int 3), some (.int 1), none] [] _ _
    refine g_iload (pc := 62) dc_M_readByte_62 rfl ?_
    refine g_istore (pc := 64) dc_M_readByte_64 (by decide) ?_
    show am_G X mt_M_readByte _ 66 [some (.ref 84), some (.ref ca), some (.int (nI (s + p))), some (.int (nI (s + t))), some (.retAddr 35), some (.retAddr 36), some (.int 0), some (.int 0), some (.int 3), some (.int 1), some (.int 0)] [] _ _
    refine g_iload (pc := 66) dc_M_readByte_66 rfl ?_
    refine g_iload (pc := 68) dc_M_readByte_68 rfl ?_
    refine g_icmp_gt (pc := 70) (tgt := 112) dc_M_readByte_70 rfl (fun hc => absurd hc (by decide)) (fun _ => ?_)
    refine g_iload (pc := 73) dc_M_readByte_73 rfl ?_
    refine g_if_eq (pc := 75) (tgt := 112) dc_M_readByte_75 rfl (fun hc => absurd hc (by decide)) (fun _ => ?_)
    refine g_aload_n (pc := 78) dc_M_readByte_78 rfl ?_
    refine g_iload_n (pc := 79) dc_M_readByte_79 rfl ?_
    refine g_iconst (pc := 80) (v := 1) dc_M_readByte_80 rfl ?_
    refine g_iadd (pc := 81) (v := (nI (s + (p + 1)))) dc_M_readByte_81 (q_as s p 1) ?_
    refine g_iload (pc := 82) dc_M_readByte_82 rfl ?_
    refine g_iadd (pc := 84) (v := (nI (s + (p + 1)))) dc_M_readByte_84 ((q_as s (p + 1) 0).trans (congrArg nI (by omega))) ?_
    refine g_iload (pc := 85) dc_M_readByte_85 rfl ?_
    refine g_isub (pc := 87) (v := (nI (s + (p + 1)))) dc_M_readByte_87 ((q_sn (s := s) (a := p + 1) (b := 0) (by omega)).trans (congrArg nI (by omega))) ?_
    refine q_tx (pc := 88) (p + 1) dc_M_readByte_88 ha hT hs (by omega) hc ?_
    refine g_xload (pc := 89) dc_M_readByte_89 rfl ?_
    refine g_iload (pc := 91) dc_M_readByte_91 rfl ?_
    refine g_x1 (pc := 93) (M' := mt_JString_charAt) dc_M_readByte_93 mo_JString_charAt im_JString_charAt se_JString_charAt (am_t8 197 rfl rfl) (by decide) (Nat.le_of_ble_eq_true rfl) (Nat.le_of_ble_eq_true rfl) (am_G.mono (c_charAt (i := 35) (k := 0) (by decide) (by decide)) ?_)
    intro r h1 hq
    rw [hq.1, hq.2]
    clear hq h1 r
    refine ⟨am_nti _, ?_⟩
    rw [show ch 35 0 = 97 from rfl]
    refine g_icmp_ne (pc := 96) (tgt := 103) dc_M_readByte_96 rfl (fun hc96 => ?_) (fun hc96 => ?_)
    · refine g_iconst (pc := 103) (v := 0) dc_M_readByte_103 rfl ?_
      refine g_istore (pc := 104) dc_M_readByte_104 (by decide) ?_
      show am_G X mt_M_readByte _ 106 [some (.ref 84), some (.ref ca), some (.int (nI (s + p))), some (.int (nI (s + t))), some (.retAddr 35), some (.retAddr 36), some (.int 0), some (.int 0), some (.int 3), some (.int 0), some (.int 0)] [] _ _
      refine g_iinc (pc := 106) (v := 1) dc_M_readByte_106 rfl (by decide) (by decide) ?_
      show am_G X mt_M_readByte _ 109 [some (.ref 84), some (.ref ca), some (.int (nI (s + p))), some (.int (nI (s + t))), some (.retAddr 35), some (.retAddr 36), some (.int 0), some (.int 0), some (.int 3), some (.int 0), some (.int 1)] [] _ _
      refine g_goto (pc := 109) (tgt := 66) dc_M_readByte_109 rfl ?_
      refine g_iload (pc := 66) dc_M_readByte_66 rfl ?_
      refine g_iload (pc := 68) dc_M_readByte_68 rfl ?_
      refine g_icmp_gt (pc := 70) (tgt := 112) dc_M_readByte_70 rfl (fun hc => absurd hc (by decide)) (fun _ => ?_)
      refine g_iload (pc := 73) dc_M_readByte_73 rfl ?_
      refine g_if_eq (pc := 75) (tgt := 112) dc_M_readByte_75 rfl (fun _ => ?_) (fun hc => absurd hc (by decide))
      refine g_iload (pc := 112) dc_M_readByte_112 rfl ?_
      refine g_if_eq (pc := 114) (tgt := 138) dc_M_readByte_114 rfl (fun _ => ?_) (fun hc => absurd hc (by decide))
      refine g_iload (pc := 138) dc_M_readByte_138 rfl ?_
      refine g_iconst (pc := 140) (v := 1) dc_M_readByte_140 rfl ?_
      refine g_iadd (pc := 141) (v := 4) dc_M_readByte_141 (by decide) ?_
      refine g_istore (pc := 142) dc_M_readByte_142 (by decide) ?_
      show am_G X mt_M_readByte _ 144 [some (.ref 84), some (.ref ca), some (.int (nI (s + p))), some (.int (nI (s + t))), some (.retAddr 35), some (.retAddr 36), some (.int 4), some (.int 0), some (.int 3), some (.int 0), some (.int 1)] [] _ _
      refine g_iinc (pc := 144) (v := 1) dc_M_readByte_144 rfl (by decide) (by decide) ?_
      show am_G X mt_M_readByte _ 147 [some (.ref 84), some (.ref ca), some (.int (nI (s + p))), some (.int (nI (s + t))), some (.retAddr 35), some (.retAddr 36), some (.int 4), some (.int 1), some (.int 3), some (.int 0), some (.int 1)] [] _ _
      refine g_goto (pc := 147) (tgt := 14) dc_M_readByte_147 rfl ?_
      have hk0 : mnm 0 L p t = false := decide_eq_false (fun h9 => hc96 (h9.2.1))
      refine am_wk (am_le_s (am_le_s (am_le_s (am_le_s (am_le_s (am_le_s (am_le_s (am_le_s (am_le_n (am_le_n (am_le_n am_le_0))))))))))) ?_
      exact n1_M_readByte hA hx0 hp ht hk0
    · refine g_iconst (pc := 99) (v := 1) dc_M_readByte_99 rfl ?_
      refine g_goto (pc := 100) (tgt := 104) dc_M_readByte_100 rfl ?_
      refine g_istore (pc := 104) dc_M_readByte_104 (by decide) ?_
      show am_G X mt_M_readByte _ 106 [some (.ref 84), some (.ref ca), some (.int (nI (s + p))), some (.int (nI (s + t))), some (.retAddr 35), some (.retAddr 36), some (.int 0), some (.int 0), some (.int 3), some (.int 1), some (.int 0)] [] _ _
      refine g_iinc (pc := 106) (v := 1) dc_M_readByte_106 rfl (by decide) (by decide) ?_
      show am_G X mt_M_readByte _ 109 [some (.ref 84), some (.ref ca), some (.int (nI (s + p))), some (.int (nI (s + t))), some (.retAddr 35), some (.retAddr 36), some (.int 0), some (.int 0), some (.int 3), some (.int 1), some (.int 1)] [] _ _
      refine g_goto (pc := 109) (tgt := 66) dc_M_readByte_109 rfl ?_
      refine g_iload (pc := 66) dc_M_readByte_66 rfl ?_
      refine g_iload (pc := 68) dc_M_readByte_68 rfl ?_
      refine g_icmp_gt (pc := 70) (tgt := 112) dc_M_readByte_70 rfl (fun hc => absurd hc (by decide)) (fun _ => ?_)
      refine g_iload (pc := 73) dc_M_readByte_73 rfl ?_
      refine g_if_eq (pc := 75) (tgt := 112) dc_M_readByte_75 rfl (fun hc => absurd hc (by decide)) (fun _ => ?_)
      refine g_aload_n (pc := 78) dc_M_readByte_78 rfl ?_
      refine g_iload_n (pc := 79) dc_M_readByte_79 rfl ?_
      refine g_iconst (pc := 80) (v := 1) dc_M_readByte_80 rfl ?_
      refine g_iadd (pc := 81) (v := (nI (s + (p + 1)))) dc_M_readByte_81 (q_as s p 1) ?_
      refine g_iload (pc := 82) dc_M_readByte_82 rfl ?_
      refine g_iadd (pc := 84) (v := (nI (s + (p + 2)))) dc_M_readByte_84 ((q_as s (p + 1) 1).trans (congrArg nI (by omega))) ?_
      refine g_iload (pc := 85) dc_M_readByte_85 rfl ?_
      refine g_isub (pc := 87) (v := (nI (s + (p + 2)))) dc_M_readByte_87 ((q_sn (s := s) (a := p + 2) (b := 0) (by omega)).trans (congrArg nI (by omega))) ?_
      refine q_tx (pc := 88) (p + 2) dc_M_readByte_88 ha hT hs (by omega) hc ?_
      refine g_xload (pc := 89) dc_M_readByte_89 rfl ?_
      refine g_iload (pc := 91) dc_M_readByte_91 rfl ?_
      refine g_x1 (pc := 93) (M' := mt_JString_charAt) dc_M_readByte_93 mo_JString_charAt im_JString_charAt se_JString_charAt (am_t8 197 rfl rfl) (by decide) (Nat.le_of_ble_eq_true rfl) (Nat.le_of_ble_eq_true rfl) (am_G.mono (c_charAt (i := 35) (k := 1) (by decide) (by decide)) ?_)
      intro r h1 hq
      rw [hq.1, hq.2]
      clear hq h1 r
      refine ⟨am_nti _, ?_⟩
      rw [show ch 35 1 = 109 from rfl]
      refine g_icmp_ne (pc := 96) (tgt := 103) dc_M_readByte_96 rfl (fun hc96z => ?_) (fun hc96z => ?_)
      · refine g_iconst (pc := 103) (v := 0) dc_M_readByte_103 rfl ?_
        refine g_istore (pc := 104) dc_M_readByte_104 (by decide) ?_
        show am_G X mt_M_readByte _ 106 [some (.ref 84), some (.ref ca), some (.int (nI (s + p))), some (.int (nI (s + t))), some (.retAddr 35), some (.retAddr 36), some (.int 0), some (.int 0), some (.int 3), some (.int 0), some (.int 1)] [] _ _
        refine g_iinc (pc := 106) (v := 2) dc_M_readByte_106 rfl (by decide) (by decide) ?_
        show am_G X mt_M_readByte _ 109 [some (.ref 84), some (.ref ca), some (.int (nI (s + p))), some (.int (nI (s + t))), some (.retAddr 35), some (.retAddr 36), some (.int 0), some (.int 0), some (.int 3), some (.int 0), some (.int 2)] [] _ _
        refine g_goto (pc := 109) (tgt := 66) dc_M_readByte_109 rfl ?_
        refine g_iload (pc := 66) dc_M_readByte_66 rfl ?_
        refine g_iload (pc := 68) dc_M_readByte_68 rfl ?_
        refine g_icmp_gt (pc := 70) (tgt := 112) dc_M_readByte_70 rfl (fun hc => absurd hc (by decide)) (fun _ => ?_)
        refine g_iload (pc := 73) dc_M_readByte_73 rfl ?_
        refine g_if_eq (pc := 75) (tgt := 112) dc_M_readByte_75 rfl (fun _ => ?_) (fun hc => absurd hc (by decide))
        refine g_iload (pc := 112) dc_M_readByte_112 rfl ?_
        refine g_if_eq (pc := 114) (tgt := 138) dc_M_readByte_114 rfl (fun _ => ?_) (fun hc => absurd hc (by decide))
        refine g_iload (pc := 138) dc_M_readByte_138 rfl ?_
        refine g_iconst (pc := 140) (v := 1) dc_M_readByte_140 rfl ?_
        refine g_iadd (pc := 141) (v := 4) dc_M_readByte_141 (by decide) ?_
        refine g_istore (pc := 142) dc_M_readByte_142 (by decide) ?_
        show am_G X mt_M_readByte _ 144 [some (.ref 84), some (.ref ca), some (.int (nI (s + p))), some (.int (nI (s + t))), some (.retAddr 35), some (.retAddr 36), some (.int 4), some (.int 0), some (.int 3), some (.int 0), some (.int 2)] [] _ _
        refine g_iinc (pc := 144) (v := 1) dc_M_readByte_144 rfl (by decide) (by decide) ?_
        show am_G X mt_M_readByte _ 147 [some (.ref 84), some (.ref ca), some (.int (nI (s + p))), some (.int (nI (s + t))), some (.retAddr 35), some (.retAddr 36), some (.int 4), some (.int 1), some (.int 3), some (.int 0), some (.int 2)] [] _ _
        refine g_goto (pc := 147) (tgt := 14) dc_M_readByte_147 rfl ?_
        have hk0 : mnm 0 L p t = false := decide_eq_false (fun h9 => hc96z (h9.2.2.1))
        refine am_wk (am_le_s (am_le_s (am_le_s (am_le_s (am_le_s (am_le_s (am_le_s (am_le_s (am_le_n (am_le_n (am_le_n am_le_0))))))))))) ?_
        exact n1_M_readByte hA hx0 hp ht hk0
      · refine g_iconst (pc := 99) (v := 1) dc_M_readByte_99 rfl ?_
        refine g_goto (pc := 100) (tgt := 104) dc_M_readByte_100 rfl ?_
        refine g_istore (pc := 104) dc_M_readByte_104 (by decide) ?_
        show am_G X mt_M_readByte _ 106 [some (.ref 84), some (.ref ca), some (.int (nI (s + p))), some (.int (nI (s + t))), some (.retAddr 35), some (.retAddr 36), some (.int 0), some (.int 0), some (.int 3), some (.int 1), some (.int 1)] [] _ _
        refine g_iinc (pc := 106) (v := 2) dc_M_readByte_106 rfl (by decide) (by decide) ?_
        show am_G X mt_M_readByte _ 109 [some (.ref 84), some (.ref ca), some (.int (nI (s + p))), some (.int (nI (s + t))), some (.retAddr 35), some (.retAddr 36), some (.int 0), some (.int 0), some (.int 3), some (.int 1), some (.int 2)] [] _ _
        refine g_goto (pc := 109) (tgt := 66) dc_M_readByte_109 rfl ?_
        refine g_iload (pc := 66) dc_M_readByte_66 rfl ?_
        refine g_iload (pc := 68) dc_M_readByte_68 rfl ?_
        refine g_icmp_gt (pc := 70) (tgt := 112) dc_M_readByte_70 rfl (fun hc => absurd hc (by decide)) (fun _ => ?_)
        refine g_iload (pc := 73) dc_M_readByte_73 rfl ?_
        refine g_if_eq (pc := 75) (tgt := 112) dc_M_readByte_75 rfl (fun hc => absurd hc (by decide)) (fun _ => ?_)
        refine g_aload_n (pc := 78) dc_M_readByte_78 rfl ?_
        refine g_iload_n (pc := 79) dc_M_readByte_79 rfl ?_
        refine g_iconst (pc := 80) (v := 1) dc_M_readByte_80 rfl ?_
        refine g_iadd (pc := 81) (v := (nI (s + (p + 1)))) dc_M_readByte_81 (q_as s p 1) ?_
        refine g_iload (pc := 82) dc_M_readByte_82 rfl ?_
        refine g_iadd (pc := 84) (v := (nI (s + (p + 3)))) dc_M_readByte_84 ((q_as s (p + 1) 2).trans (congrArg nI (by omega))) ?_
        refine g_iload (pc := 85) dc_M_readByte_85 rfl ?_
        refine g_isub (pc := 87) (v := (nI (s + (p + 3)))) dc_M_readByte_87 ((q_sn (s := s) (a := p + 3) (b := 0) (by omega)).trans (congrArg nI (by omega))) ?_
        refine q_tx (pc := 88) (p + 3) dc_M_readByte_88 ha hT hs (by omega) hc ?_
        refine g_xload (pc := 89) dc_M_readByte_89 rfl ?_
        refine g_iload (pc := 91) dc_M_readByte_91 rfl ?_
        refine g_x1 (pc := 93) (M' := mt_JString_charAt) dc_M_readByte_93 mo_JString_charAt im_JString_charAt se_JString_charAt (am_t8 197 rfl rfl) (by decide) (Nat.le_of_ble_eq_true rfl) (Nat.le_of_ble_eq_true rfl) (am_G.mono (c_charAt (i := 35) (k := 2) (by decide) (by decide)) ?_)
        intro r h1 hq
        rw [hq.1, hq.2]
        clear hq h1 r
        refine ⟨am_nti _, ?_⟩
        rw [show ch 35 2 = 112 from rfl]
        refine g_icmp_ne (pc := 96) (tgt := 103) dc_M_readByte_96 rfl (fun hc96zz => ?_) (fun hc96zz => ?_)
        · refine g_iconst (pc := 103) (v := 0) dc_M_readByte_103 rfl ?_
          refine g_istore (pc := 104) dc_M_readByte_104 (by decide) ?_
          show am_G X mt_M_readByte _ 106 [some (.ref 84), some (.ref ca), some (.int (nI (s + p))), some (.int (nI (s + t))), some (.retAddr 35), some (.retAddr 36), some (.int 0), some (.int 0), some (.int 3), some (.int 0), some (.int 2)] [] _ _
          refine g_iinc (pc := 106) (v := 3) dc_M_readByte_106 rfl (by decide) (by decide) ?_
          show am_G X mt_M_readByte _ 109 [some (.ref 84), some (.ref ca), some (.int (nI (s + p))), some (.int (nI (s + t))), some (.retAddr 35), some (.retAddr 36), some (.int 0), some (.int 0), some (.int 3), some (.int 0), some (.int 3)] [] _ _
          refine g_goto (pc := 109) (tgt := 66) dc_M_readByte_109 rfl ?_
          refine g_iload (pc := 66) dc_M_readByte_66 rfl ?_
          refine g_iload (pc := 68) dc_M_readByte_68 rfl ?_
          refine g_icmp_gt (pc := 70) (tgt := 112) dc_M_readByte_70 rfl (fun hc => absurd hc (by decide)) (fun _ => ?_)
          refine g_iload (pc := 73) dc_M_readByte_73 rfl ?_
          refine g_if_eq (pc := 75) (tgt := 112) dc_M_readByte_75 rfl (fun _ => ?_) (fun hc => absurd hc (by decide))
          refine g_iload (pc := 112) dc_M_readByte_112 rfl ?_
          refine g_if_eq (pc := 114) (tgt := 138) dc_M_readByte_114 rfl (fun _ => ?_) (fun hc => absurd hc (by decide))
          refine g_iload (pc := 138) dc_M_readByte_138 rfl ?_
          refine g_iconst (pc := 140) (v := 1) dc_M_readByte_140 rfl ?_
          refine g_iadd (pc := 141) (v := 4) dc_M_readByte_141 (by decide) ?_
          refine g_istore (pc := 142) dc_M_readByte_142 (by decide) ?_
          show am_G X mt_M_readByte _ 144 [some (.ref 84), some (.ref ca), some (.int (nI (s + p))), some (.int (nI (s + t))), some (.retAddr 35), some (.retAddr 36), some (.int 4), some (.int 0), some (.int 3), some (.int 0), some (.int 3)] [] _ _
          refine g_iinc (pc := 144) (v := 1) dc_M_readByte_144 rfl (by decide) (by decide) ?_
          show am_G X mt_M_readByte _ 147 [some (.ref 84), some (.ref ca), some (.int (nI (s + p))), some (.int (nI (s + t))), some (.retAddr 35), some (.retAddr 36), some (.int 4), some (.int 1), some (.int 3), some (.int 0), some (.int 3)] [] _ _
          refine g_goto (pc := 147) (tgt := 14) dc_M_readByte_147 rfl ?_
          have hk0 : mnm 0 L p t = false := decide_eq_false (fun h9 => hc96zz (h9.2.2.2.1))
          refine am_wk (am_le_s (am_le_s (am_le_s (am_le_s (am_le_s (am_le_s (am_le_s (am_le_s (am_le_n (am_le_n (am_le_n am_le_0))))))))))) ?_
          exact n1_M_readByte hA hx0 hp ht hk0
        · refine g_iconst (pc := 99) (v := 1) dc_M_readByte_99 rfl ?_
          refine g_goto (pc := 100) (tgt := 104) dc_M_readByte_100 rfl ?_
          refine g_istore (pc := 104) dc_M_readByte_104 (by decide) ?_
          show am_G X mt_M_readByte _ 106 [some (.ref 84), some (.ref ca), some (.int (nI (s + p))), some (.int (nI (s + t))), some (.retAddr 35), some (.retAddr 36), some (.int 0), some (.int 0), some (.int 3), some (.int 1), some (.int 2)] [] _ _
          refine g_iinc (pc := 106) (v := 3) dc_M_readByte_106 rfl (by decide) (by decide) ?_
          show am_G X mt_M_readByte _ 109 [some (.ref 84), some (.ref ca), some (.int (nI (s + p))), some (.int (nI (s + t))), some (.retAddr 35), some (.retAddr 36), some (.int 0), some (.int 0), some (.int 3), some (.int 1), some (.int 3)] [] _ _
          refine g_goto (pc := 109) (tgt := 66) dc_M_readByte_109 rfl ?_
          refine g_iload (pc := 66) dc_M_readByte_66 rfl ?_
          refine g_iload (pc := 68) dc_M_readByte_68 rfl ?_
          refine g_icmp_gt (pc := 70) (tgt := 112) dc_M_readByte_70 rfl (fun hc => absurd hc (by decide)) (fun _ => ?_)
          refine g_iload (pc := 73) dc_M_readByte_73 rfl ?_
          refine g_if_eq (pc := 75) (tgt := 112) dc_M_readByte_75 rfl (fun hc => absurd hc (by decide)) (fun _ => ?_)
          refine g_aload_n (pc := 78) dc_M_readByte_78 rfl ?_
          refine g_iload_n (pc := 79) dc_M_readByte_79 rfl ?_
          refine g_iconst (pc := 80) (v := 1) dc_M_readByte_80 rfl ?_
          refine g_iadd (pc := 81) (v := (nI (s + (p + 1)))) dc_M_readByte_81 (q_as s p 1) ?_
          refine g_iload (pc := 82) dc_M_readByte_82 rfl ?_
          refine g_iadd (pc := 84) (v := (nI (s + (p + 4)))) dc_M_readByte_84 ((q_as s (p + 1) 3).trans (congrArg nI (by omega))) ?_
          refine g_iload (pc := 85) dc_M_readByte_85 rfl ?_
          refine g_isub (pc := 87) (v := (nI (s + (p + 4)))) dc_M_readByte_87 ((q_sn (s := s) (a := p + 4) (b := 0) (by omega)).trans (congrArg nI (by omega))) ?_
          refine q_tx (pc := 88) (p + 4) dc_M_readByte_88 ha hT hs (by omega) hc ?_
          refine g_xload (pc := 89) dc_M_readByte_89 rfl ?_
          refine g_iload (pc := 91) dc_M_readByte_91 rfl ?_
          refine g_x1 (pc := 93) (M' := mt_JString_charAt) dc_M_readByte_93 mo_JString_charAt im_JString_charAt se_JString_charAt (am_t8 197 rfl rfl) (by decide) (Nat.le_of_ble_eq_true rfl) (Nat.le_of_ble_eq_true rfl) (am_G.mono (c_charAt (i := 35) (k := 3) (by decide) (by decide)) ?_)
          intro r h1 hq
          rw [hq.1, hq.2]
          clear hq h1 r
          refine ⟨am_nti _, ?_⟩
          rw [show ch 35 3 = 59 from rfl]
          refine g_icmp_ne (pc := 96) (tgt := 103) dc_M_readByte_96 rfl (fun hc96zzz => ?_) (fun hc96zzz => ?_)
          · refine g_iconst (pc := 103) (v := 0) dc_M_readByte_103 rfl ?_
            refine g_istore (pc := 104) dc_M_readByte_104 (by decide) ?_
            show am_G X mt_M_readByte _ 106 [some (.ref 84), some (.ref ca), some (.int (nI (s + p))), some (.int (nI (s + t))), some (.retAddr 35), some (.retAddr 36), some (.int 0), some (.int 0), some (.int 3), some (.int 0), some (.int 3)] [] _ _
            refine g_iinc (pc := 106) (v := 4) dc_M_readByte_106 rfl (by decide) (by decide) ?_
            show am_G X mt_M_readByte _ 109 [some (.ref 84), some (.ref ca), some (.int (nI (s + p))), some (.int (nI (s + t))), some (.retAddr 35), some (.retAddr 36), some (.int 0), some (.int 0), some (.int 3), some (.int 0), some (.int 4)] [] _ _
            refine g_goto (pc := 109) (tgt := 66) dc_M_readByte_109 rfl ?_
            refine g_iload (pc := 66) dc_M_readByte_66 rfl ?_
            refine g_iload (pc := 68) dc_M_readByte_68 rfl ?_
            refine g_icmp_gt (pc := 70) (tgt := 112) dc_M_readByte_70 rfl (fun _ => ?_) (fun hc => absurd hc (by decide))
            refine g_iload (pc := 112) dc_M_readByte_112 rfl ?_
            refine g_if_eq (pc := 114) (tgt := 138) dc_M_readByte_114 rfl (fun _ => ?_) (fun hc => absurd hc (by decide))
            refine g_iload (pc := 138) dc_M_readByte_138 rfl ?_
            refine g_iconst (pc := 140) (v := 1) dc_M_readByte_140 rfl ?_
            refine g_iadd (pc := 141) (v := 4) dc_M_readByte_141 (by decide) ?_
            refine g_istore (pc := 142) dc_M_readByte_142 (by decide) ?_
            show am_G X mt_M_readByte _ 144 [some (.ref 84), some (.ref ca), some (.int (nI (s + p))), some (.int (nI (s + t))), some (.retAddr 35), some (.retAddr 36), some (.int 4), some (.int 0), some (.int 3), some (.int 0), some (.int 4)] [] _ _
            refine g_iinc (pc := 144) (v := 1) dc_M_readByte_144 rfl (by decide) (by decide) ?_
            show am_G X mt_M_readByte _ 147 [some (.ref 84), some (.ref ca), some (.int (nI (s + p))), some (.int (nI (s + t))), some (.retAddr 35), some (.retAddr 36), some (.int 4), some (.int 1), some (.int 3), some (.int 0), some (.int 4)] [] _ _
            refine g_goto (pc := 147) (tgt := 14) dc_M_readByte_147 rfl ?_
            have hk0 : mnm 0 L p t = false := decide_eq_false (fun h9 => hc96zzz (h9.2.2.2.2))
            refine am_wk (am_le_s (am_le_s (am_le_s (am_le_s (am_le_s (am_le_s (am_le_s (am_le_s (am_le_n (am_le_n (am_le_n am_le_0))))))))))) ?_
            exact n1_M_readByte hA hx0 hp ht hk0
          · refine g_iconst (pc := 99) (v := 1) dc_M_readByte_99 rfl ?_
            refine g_goto (pc := 100) (tgt := 104) dc_M_readByte_100 rfl ?_
            refine g_istore (pc := 104) dc_M_readByte_104 (by decide) ?_
            show am_G X mt_M_readByte _ 106 [some (.ref 84), some (.ref ca), some (.int (nI (s + p))), some (.int (nI (s + t))), some (.retAddr 35), some (.retAddr 36), some (.int 0), some (.int 0), some (.int 3), some (.int 1), some (.int 3)] [] _ _
            refine g_iinc (pc := 106) (v := 4) dc_M_readByte_106 rfl (by decide) (by decide) ?_
            show am_G X mt_M_readByte _ 109 [some (.ref 84), some (.ref ca), some (.int (nI (s + p))), some (.int (nI (s + t))), some (.retAddr 35), some (.retAddr 36), some (.int 0), some (.int 0), some (.int 3), some (.int 1), some (.int 4)] [] _ _
            refine g_goto (pc := 109) (tgt := 66) dc_M_readByte_109 rfl ?_
            refine g_iload (pc := 66) dc_M_readByte_66 rfl ?_
            refine g_iload (pc := 68) dc_M_readByte_68 rfl ?_
            refine g_icmp_gt (pc := 70) (tgt := 112) dc_M_readByte_70 rfl (fun _ => ?_) (fun hc => absurd hc (by decide))
            refine g_iload (pc := 112) dc_M_readByte_112 rfl ?_
            refine g_if_eq (pc := 114) (tgt := 138) dc_M_readByte_114 rfl (fun hc => absurd hc (by decide)) (fun _ => ?_)
            refine g_aload_n (pc := 117) dc_M_readByte_117 rfl ?_
            refine g_xload (pc := 118) dc_M_readByte_118 rfl ?_
            refine g_iload (pc := 120) dc_M_readByte_120 rfl ?_
            refine g_x1 (pc := 122) (M' := mt_JString_charAt) dc_M_readByte_122 mo_JString_charAt im_JString_charAt se_JString_charAt (am_t8 197 rfl rfl) (by decide) (Nat.le_of_ble_eq_true rfl) (Nat.le_of_ble_eq_true rfl) (am_G.mono (c_charAt (i := 36) (k := 0) (by decide) (by decide)) ?_)
            intro r h1 hq
            rw [hq.1, hq.2]
            clear hq h1 r
            refine ⟨am_nti _, ?_⟩
            rw [show ch 36 0 = 38 from rfl]
            refine pf_byteValue (pc := 125) (v := 38) hA dc_M_readByte_125 fp_M_readByte_217 ?_
            refine g_iload_n (pc := 128) dc_M_readByte_128 rfl ?_
            refine g_iconst (pc := 129) (v := 2) dc_M_readByte_129 rfl ?_
            refine g_iadd (pc := 130) (v := (nI (s + (p + 2)))) dc_M_readByte_130 (q_as s p 2) ?_
            refine g_iload (pc := 131) dc_M_readByte_131 rfl ?_
            refine g_iadd (pc := 133) (v := (nI (s + (p + 5)))) dc_M_readByte_133 ((q_as s (p + 2) 3).trans (congrArg nI (by omega))) ?_
            refine g_iload (pc := 134) dc_M_readByte_134 rfl ?_
            refine g_isub (pc := 136) (v := (nI (s + (p + 5)))) dc_M_readByte_136 ((q_sn (s := s) (a := p + 5) (b := 0) (by omega)).trans (congrArg nI (by omega))) ?_
            have hm : mnm 0 L p t = true := decide_eq_true ⟨by omega, hc96, hc96z, hc96zz, hc96zzz⟩
            have e9 : mrb L p t = some (38, p + 5) := by unfold mrb; rw [if_pos hm]
            exact g_ireturn dc_M_readByte_137 rfl ⟨by rw [e9]; rfl, by rw [e9]; rfl⟩
theorem c_M_readByte (hA : A.length = 84) (hx : tt (mput A S B) ca s L) (hp : p < t) (ht : t ≤ L.length) : am_C X mt_M_readByte (d + 4) [.ref 84, .ref ca, .int (nI (s + p)), .int (nI (s + t))] (mput A S B) (fun r h1 => r = some (.int (er ((mrb L p t).map (fun q => s + q.2)))) ∧ h1 = mput A (match mrb L p t with | some q => S.s_byteValue (nI q.1) | none => S) B) := by
  show am_G X mt_M_readByte (d + 4) 0 [some (.ref 84), some (.ref ca), some (.int (nI (s + p))), some (.int (nI (s + t))), none, none, none, none, none, none, none] [] (mput A S B) _
  refine g_ldcS (pc := 0) 35 dc_M_readByte_0 (by decide) rfl rfl ?_
  refine g_xstore (pc := 2) dc_M_readByte_2 (by decide) ?_
  show am_G X mt_M_readByte _ 4 [some (.ref 84), some (.ref ca), some (.int (nI (s + p))), some (.int (nI (s + t))), some (.retAddr 35), none, none, none, none, none, none] [] _ _
  refine g_ldcS (pc := 4) 36 dc_M_readByte_4 (by decide) rfl rfl ?_
  refine g_xstore (pc := 6) dc_M_readByte_6 (by decide) ?_
  show am_G X mt_M_readByte _ 8 [some (.ref 84), some (.ref ca), some (.int (nI (s + p))), some (.int (nI (s + t))), some (.retAddr 35), some (.retAddr 36), none, none, none, none, none] [] _ _
  refine g_iconst (pc := 8) (v := 0) dc_M_readByte_8 rfl ?_
  refine g_istore (pc := 9) dc_M_readByte_9 (by decide) ?_
  show am_G X mt_M_readByte _ 11 [some (.ref 84), some (.ref ca), some (.int (nI (s + p))), some (.int (nI (s + t))), some (.retAddr 35), some (.retAddr 36), some (.int 0), none, none, none, none] [] _ _
  refine g_iconst (pc := 11) (v := 0) dc_M_readByte_11 rfl ?_
  refine g_istore (pc := 12) dc_M_readByte_12 (by decide) ?_
  show am_G X mt_M_readByte _ 14 [some (.ref 84), some (.ref ca), some (.int (nI (s + p))), some (.int (nI (s + t))), some (.retAddr 35), some (.retAddr 36), some (.int 0), some (.int 0), none, none, none] [] _ _
  exact n0_M_readByte hA hx hp ht
end MRB
