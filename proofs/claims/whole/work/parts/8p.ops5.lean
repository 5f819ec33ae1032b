/-! ===== the model: seed, read, set, end, feed ===== -/
theorem tx_sn {g : Nat → Int32} {L : List Int32} {v : Int32} {n : Nat} (h : tx g 0 L) (hn : n = L.length) : tx (upd g n v) 0 (L ++ [v]) := fun j hj => by
  subst hn
  rw [List.length_append] at hj
  have hj2 : j < L.length + 1 := hj
  rw [Nat.zero_add]
  by_cases e : j = L.length
  · rw [e, upd_s, gx_app_r (Nat.le_refl _), Nat.sub_self]; rfl
  · rw [upd_n e, gx_app_l (by omega)]
    have := h j (by omega)
    rw [Nat.zero_add] at this
    exact this
theorem tx_up4 {g : Nat → Int32} {L : List Int32} {v : Int32} {n : Nat} (h : tx g 0 L) (hn : n = L.length) : tx (up4 g n v) 0 (L ++ by4 v) := by
  have e9 : L ++ by4 v = (((L ++ [by8 (v >>> 24)]) ++ [by8 (v >>> 16)]) ++ [by8 (v >>> 8)]) ++ [by8 v] := by simp [by4]
  rw [e9]
  unfold up4
  refine tx_sn (tx_sn (tx_sn (tx_sn h hn) ?_) ?_) ?_ <;> simp <;> omega
def by20 (a b c d e : Int32) : List Int32 := by4 a ++ (by4 b ++ (by4 c ++ (by4 d ++ by4 e)))
theorem tx_up20 {g : Nat → Int32} {L : List Int32} {a b c d e : Int32} {n : Nat} (h : tx g 0 L) (hn : n = L.length) : tx (up20 g n a b c d e) 0 (L ++ by20 a b c d e) := by
  unfold by20 up20
  rw [← List.append_assoc, ← List.append_assoc, ← List.append_assoc, ← List.append_assoc]
  refine tx_up4 (tx_up4 (tx_up4 (tx_up4 (tx_up4 h hn) ?_) ?_) ?_) ?_ <;> simp [by4] <;> omega
theorem by8_bt8 (v : Int32) : bt (by8 v) := by
  rw [by8_eq]
  exact bt_iff.mpr (by have h1 := Int8.le_toInt v.toInt8; have h2 := Int8.toInt_lt v.toInt8; rw [Int8.toInt_toInt32]; omega)
theorem btg_by4 (v : Int32) : btg (by4 v) := btg_cons (by8_bt8 _) (btg_cons (by8_bt8 _) (btg_cons (by8_bt8 _) (btg_cons (by8_bt8 _) btg_nil)))
theorem btg_by20 {a b c d e : Int32} : btg (by20 a b c d e) := btg_app (btg_by4 a) (btg_app (btg_by4 b) (btg_app (btg_by4 c) (btg_app (btg_by4 d) (btg_by4 e))))
theorem by20_len {a b c d e : Int32} : (by20 a b c d e).length = 20 := rfl
/-- seed() -/
def sde (L : List Int32) (Sd : List (List Int32)) : Option (List (List Int32)) := match rfa L with
  | none => none
  | some D => if Sd.length = 20 then none else some (Sd ++ [D])
section OP5
variable {X : am_X} {d k ka j i : Nat} {A B h : List va_E} {S : MS} {T Y U Ls Rs Rt Sd : List (List Int32)} {K V : Kn} {lim sett : Nat → Nat} {c : Cw} {P : List Pg} {D L E : List Int32} {q : Cr} {p w a1 a2 a3 a4 a5 : Int32}
theorem c_M_seed (hA : A.length = 84) (hM : tbM S T Y U) (hUl : U.length < 3500) (hL : tpM S L) (hp : sdM S T Sd) (hU : ∀ D, rfa L = some D → D ∈ U) : am_C X mt_M_seed (d + 7) [.ref 84] (mput A S B) (fun r h1 => match sde L Sd with | none => r = some (.int (-1)) ∧ ∃ S1 T1, h1 = mput A S1 B ∧ mA XSe S S1 ∧ tbM S1 T1 Y U ∧ T <+: T1 ∧ tpM S1 [] ∧ sdM S1 T1 Sd | some Z1 => r = some (.int (nI Z1.length)) ∧ ∃ S1 T1, h1 = mput A S1 B ∧ mA XSe S S1 ∧ tbM S1 T1 Y U ∧ T <+: T1 ∧ tpM S1 [] ∧ sdM S1 T1 Z1) := by
  show am_G X mt_M_seed (d + 7) 0 [some (.ref 84), none] [] (mput A S B) _
  have hL8 := hL.2.2.1
  have hbL := hL.2.2.2
  have h20 := hp.2.1
  refine g_aload_n (pc := 0) dc_M_seed_0 rfl ?_
  refine g_v0 (pc := 1) (M' := mt_M_use) dc_M_seed_1 mo_M_use im_M_use se_M_use ln_M_505 (mp_o hA) rfl rfl (Nat.le_of_ble_eq_true rfl) (Nat.le_of_ble_eq_true rfl) (am_G.mono (c_M_use (d := d + 6) hA hL) ?_)
  intro r h9 hz
  obtain ⟨q1, S1, q2, q3, q4, q5⟩ := hz
  rw [q1, q2]
  clear q1 q2 h9 r
  have hM1 : tbM S1 T Y U := ⟨hM.1.m q3 (by decide) (by decide) (by decide) (by decide), hM.2.1, hM.2.2.1, hM.2.2.2.m q3 (by decide) (by decide) (by decide) (by decide) (by decide)⟩
  refine ⟨am_nti _, ?_⟩
  refine g_istore_n (pc := 4) dc_M_seed_4 (by decide) ?_
  show am_G X mt_M_seed _ 5 [some (.ref 84), some (.int (nI L.length))] [] _ _
  refine g_aload_n (pc := 5) dc_M_seed_5 rfl ?_
  refine g_aload_n (pc := 6) dc_M_seed_6 rfl ?_
  refine g_getfield (pc := 7) dc_M_seed_7 fl_M_143 (mp_o hA) rfl ?_
  refine g_iconst (pc := 10) (v := 0) dc_M_seed_10 rfl ?_
  refine g_iload_n (pc := 11) dc_M_seed_11 rfl ?_
  rw [show nI L.length = nI (0 + L.length) from congrArg nI (Nat.zero_add _).symm]
  refine g_iconst (pc := 12) (v := (-1)) dc_M_seed_12 rfl ?_
  refine g_v4 (pc := 13) (M' := mt_M_readReference) dc_M_seed_13 mo_M_readReference im_M_readReference se_M_readReference ln_M_297 (mp_o hA) rfl rfl (Nat.le_of_ble_eq_true rfl) (Nat.le_of_ble_eq_true rfl) (am_G.mono (c_M_readReference (d := d + 1) (s := 0) (L := L) (f0 := 0) (t0 := L.length) (bo := none) (ca := 85) hA hM1.1 (okT_of hM1.2.1) (txO_coming hA q4 (by omega)) (by decide) hbL (by omega) (by omega) (by omega) (fun q hq => by cases hq)) ?_)
  intro r h9 hz
  obtain ⟨S2, hz2, hz3, hz4⟩ := hz
  rw [hz2]
  clear hz2 h9
  have hM2 := hM1.sc hz3
  have hm2 : mA XP S S2 := (q3.mo (by decide)).tr (hz3.m.mo (by decide))
  have hx2 : tx S2.coming 0 L := by rw [hz3.m.coming (by decide)]; exact q4
  have ht2 : tpM S2 [] := q5.m hz3.m (by decide) (by decide)
  have hpS : mA XR S S2 := (q3.mo (by decide)).tr (hz3.m.mo (by decide))
  rw [show Option.map (gT T) (none : Option Nat) = none from rfl, show mrr L 0 L.length none = rfa L from rfl] at hz4
  cases hm : rfa L with
  | none =>
    rw [hm] at hz4
    rw [hz4]
    refine ⟨am_nti _, ?_⟩
    have e5 : sde L Sd = none := by unfold sde; rw [hm]
    rw [e5]
    refine g_if_eq (pc := 16) (tgt := 28) dc_M_seed_16 rfl (fun _ => ?_) (fun hc => absurd hc (by decide))
    refine g_iconst (pc := 28) (v := (-1)) dc_M_seed_28 rfl ?_
    exact g_ireturn dc_M_seed_29 rfl ⟨rfl, S2, T, rfl, hpS.mo (by decide), hM2, List.prefix_refl T, ht2, hp.m hpS (by decide) (by decide)⟩
  | some D =>
    rw [hm] at hz4
    rw [hz4.1]
    refine ⟨am_nti _, ?_⟩
    have hoD := rfa_ok hbL hm
    have huD := hU D hm
    have hp2 : sdM S2 T Sd := hp.m hpS (by decide) (by decide)
    refine g_if_eq (pc := 16) (tgt := 28) dc_M_seed_16 rfl (fun hc => absurd hc (by decide)) (fun _ => ?_)
    refine g_aload_n (pc := 19) dc_M_seed_19 rfl ?_
    refine g_getfield (pc := 20) (v := .int (nI Sd.length)) dc_M_seed_20 fl_M_517 (mp_o hA) (congrArg (fun z => some (Value.int (nI z))) hp2.1) ?_
    refine g_bipush (pc := 23) (v := 20) dc_M_seed_23 rfl ?_
    refine q_icmp_ne (pc := 25) (tgt := 30) Sd.length 20 dc_M_seed_25 (by omega) (by omega) rfl (fun hc25 => ?_) (fun hc25 => ?_)
    · refine g_aload_n (pc := 30) dc_M_seed_30 rfl ?_
      refine g_getfield (pc := 31) dc_M_seed_31 fl_M_353 (mp_o hA) rfl ?_
      refine g_aload_n (pc := 34) dc_M_seed_34 rfl ?_
      refine g_getfield (pc := 35) (v := .int (nI Sd.length)) dc_M_seed_35 fl_M_517 (mp_o hA) (congrArg (fun z => some (Value.int (nI z))) hp2.1) ?_
      refine g_aload_n (pc := 38) dc_M_seed_38 rfl ?_
      refine g_v0 (pc := 39) (M' := mt_M_keep) dc_M_seed_39 mo_M_keep im_M_keep se_M_keep ln_M_300 (mp_o hA) rfl rfl (Nat.le_of_ble_eq_true rfl) (Nat.le_of_ble_eq_true rfl) (am_G.mono (c_M_keep (d := d + 5) (D := D) hA hM2.1 hz4.2 (Or.inr (tb_lt hM2 hUl))) ?_)
      intro r h9 hy9
      obtain ⟨S3, T1, kb, w1, w2, w3⟩ := hy9
      rw [w1, w2]
      clear w1 w2 h9
      have hM3 := hM2.kp w3 hoD huD
      have hm3 : mA XP S S3 := hm2.tr (w3.m.mo (by decide))
      have hpS3 : mA XR S S3 := hpS.tr (w3.m.mo (by decide))
      have hx3 : tx S3.coming 0 L := by rw [w3.m.coming (by decide)]; exact hx2
      have ht3 : tpM S3 [] := ht2.m w3.m (by decide) (by decide)
      have hkb : kb < T1.length ∧ gT T1 kb = D := ⟨w3.2.2.1, w3.2.2.2.1⟩
      have hp3 : sdM S3 T1 Sd := (hp2.m w3.m (by decide) (by decide)).pre w3.pre
      refine ⟨am_nti _, ?_⟩
      refine as_seeds (pc := 42) Sd.length hA dc_M_seed_42 (by omega) ?_
      refine g_aload_n (pc := 43) dc_M_seed_43 rfl ?_
      refine g_dup (pc := 44) dc_M_seed_44 rfl ?_
      refine g_getfield (pc := 45) (v := .int (nI Sd.length)) dc_M_seed_45 fl_M_517 (mp_o hA) (congrArg (fun z => some (Value.int (nI z))) hp3.1) ?_
      refine g_iconst (pc := 48) (v := 1) dc_M_seed_48 rfl ?_
      refine g_iadd (pc := 49) (v := (nI (Sd.length + 1))) dc_M_seed_49 (nI_add Sd.length 1) ?_
      refine pf_seedCount (pc := 50) (v := Sd.length + 1) hA dc_M_seed_50 fp_M_seed_517 ?_
      refine g_aload_n (pc := 53) dc_M_seed_53 rfl ?_
      refine g_getfield (pc := 54) dc_M_seed_54 fl_M_517 (mp_o hA) rfl ?_
      have hm5 : mA [59, 60] S3 ((S3.s_seeds (upd S3.seeds Sd.length (nI kb))).s_seedCount (Sd.length + 1)) := ((mA.rf S3).a_seeds _ (by decide)).a_seedCount _ (by decide)
      have hf5 : ((S3.s_seeds (upd S3.seeds Sd.length (nI kb))).s_seedCount (Sd.length + 1)).seeds = upd S3.seeds Sd.length (nI kb) ∧ ((S3.s_seeds (upd S3.seeds Sd.length (nI kb))).s_seedCount (Sd.length + 1)).seedCount = Sd.length + 1 := ⟨rfl, rfl⟩
      generalize ((S3.s_seeds (upd S3.seeds Sd.length (nI kb))).s_seedCount (Sd.length + 1)) = S5 at hm5 hf5 ⊢
      have hlen : (Sd ++ [D]).length = Sd.length + 1 := by rw [List.length_append]; rfl
      have hp5 : sdM S5 T1 (Sd ++ [D]) := ⟨by rw [hlen]; exact hf5.2, by omega, fun i hi => by
        rw [hf5.1]
        by_cases e9 : i = Sd.length
        · rw [e9, upd_s, gT_new]; exact ⟨kb, hkb.1, rfl, hkb.2⟩
        · rw [upd_n e9, gT_app (by omega)]; exact hp3.2.2 i (by omega)⟩
      have e5 : sde L Sd = some (Sd ++ [D]) := by unfold sde; rw [hm]; dsimp only; rw [if_neg hc25]
      rw [e5]
      exact g_ireturn dc_M_seed_57 rfl ⟨by rw [hlen, hf5.2], S5, T1, rfl, (hpS3.mo (by decide)).tr (hm5.mo (by decide)), ⟨hM3.1.m hm5 (by decide) (by decide) (by decide) (by decide), hM3.2.1, hM3.2.2.1, hM3.2.2.2.m hm5 (by decide) (by decide) (by decide) (by decide) (by decide)⟩, w3.pre, ht3.m hm5 (by decide) (by decide), hp5⟩
    · refine g_iconst (pc := 28) (v := (-1)) dc_M_seed_28 rfl ?_
      have e5 : sde L Sd = none := by unfold sde; rw [hm]; dsimp only; rw [if_pos hc25]
      rw [e5]
      exact g_ireturn dc_M_seed_29 rfl ⟨rfl, S2, T, rfl, hpS.mo (by decide), hM2, List.prefix_refl T, ht2, hp2⟩
theorem c_M_read (hA : A.length = 84) (hM : tbM S T Y U) (hUl : U.length < 3500) (hL : tpM S L) (hU : ∀ D, fsa L = some D → D ∈ U) : am_C X mt_M_read (d + 7) [.ref 84] (mput A S B) (fun r h1 => r = some (.int (nI (rdA L).length)) ∧ ∃ S1 T1, h1 = mput A S1 B ∧ mA XRd S S1 ∧ tbM S1 T1 Y U ∧ T <+: T1 ∧ tpM S1 [] ∧ prM S1 (rdA L)) := by
  show am_G X mt_M_read (d + 7) 0 [some (.ref 84), none, none] [] (mput A S B) _
  have hL8 := hL.2.2.1
  have hbL := hL.2.2.2
  have hbh := bhf_bd L
  refine g_aload_n (pc := 0) dc_M_read_0 rfl ?_
  refine g_v0 (pc := 1) (M' := mt_M_use) dc_M_read_1 mo_M_use im_M_use se_M_use ln_M_505 (mp_o hA) rfl rfl (Nat.le_of_ble_eq_true rfl) (Nat.le_of_ble_eq_true rfl) (am_G.mono (c_M_use (d := d + 6) hA hL) ?_)
  intro r h9 hz
  obtain ⟨q1, S1, q2, q3, q4, q5⟩ := hz
  rw [q1, q2]
  clear q1 q2 h9 r
  have hM1 : tbM S1 T Y U := ⟨hM.1.m q3 (by decide) (by decide) (by decide) (by decide), hM.2.1, hM.2.2.1, hM.2.2.2.m q3 (by decide) (by decide) (by decide) (by decide) (by decide)⟩
  refine ⟨am_nti _, ?_⟩
  refine g_istore_n (pc := 4) dc_M_read_4 (by decide) ?_
  show am_G X mt_M_read _ 5 [some (.ref 84), some (.int (nI L.length)), none] [] _ _
  refine g_aload_n (pc := 5) dc_M_read_5 rfl ?_
  refine g_iload_n (pc := 6) dc_M_read_6 rfl ?_
  refine g_v1 (pc := 7) (M' := mt_M_readFirst) dc_M_read_7 mo_M_readFirst im_M_readFirst se_M_readFirst ln_M_508 (mp_o hA) rfl rfl (Nat.le_of_ble_eq_true rfl) (Nat.le_of_ble_eq_true rfl) (am_G.mono (c_M_readFirst (d := d) hA hM1.1 hM1.2.1 q4 hL8 hbL) ?_)
  intro r h9 hz
  obtain ⟨S2, hz2, hz3, hz4⟩ := hz
  rw [hz2]
  clear hz2 h9
  have hM2 := hM1.sc hz3
  have hm2 : mA XP S S2 := (q3.mo (by decide)).tr (hz3.m.mo (by decide))
  have hx2 : tx S2.coming 0 L := by rw [hz3.m.coming (by decide)]; exact q4
  have ht2 : tpM S2 [] := q5.m hz3.m (by decide) (by decide)
  have hpS : mA XR S S2 := (q3.mo (by decide)).tr (hz3.m.mo (by decide))
  cases hm : fsa L with
  | none =>
    rw [hm] at hz4
    rw [hz4]
    refine ⟨am_nti _, ?_⟩
    refine g_if_eq (pc := 10) (tgt := 20) dc_M_read_10 rfl (fun _ => ?_) (fun hc => absurd hc (by decide))
    refine g_iconst (pc := 20) (v := (-1)) dc_M_read_20 rfl ?_
    refine g_istore_n (pc := 21) dc_M_read_21 (by decide) ?_
    show am_G X mt_M_read _ 22 [some (.ref 84), some (.int (nI L.length)), some (.int (-1))] [] _ _
    refine g_aload_n (pc := 22) dc_M_read_22 rfl ?_
    refine g_aload_n (pc := 23) dc_M_read_23 rfl ?_
    refine g_getfield (pc := 24) dc_M_read_24 fl_M_143 (mp_o hA) rfl ?_
    refine g_aload_n (pc := 27) dc_M_read_27 rfl ?_
    refine g_iload_n (pc := 28) dc_M_read_28 rfl ?_
    refine g_v1 (pc := 29) (M' := mt_M_behindFirst) dc_M_read_29 mo_M_behindFirst im_M_behindFirst se_M_behindFirst ln_M_511 (mp_o hA) rfl rfl (Nat.le_of_ble_eq_true rfl) (Nat.le_of_ble_eq_true rfl) (am_G.mono (c_M_behindFirst (d := d + 5) (S := S2) hA hx2 hL8) ?_)
    intro r h1 hq
    rw [hq.1, hq.2]
    clear hq h1 r
    refine ⟨am_nti _, ?_⟩
    rw [show nI (bhf L) = nI (0 + bhf L) from congrArg nI (Nat.zero_add _).symm]
    refine g_iload_n (pc := 32) dc_M_read_32 rfl ?_
    rw [show nI L.length = nI (0 + L.length) from congrArg nI (Nat.zero_add _).symm]
    refine g_iload_n (pc := 33) dc_M_read_33 rfl ?_
    refine g_v4 (pc := 34) (M' := mt_M_readReference) dc_M_read_34 mo_M_readReference im_M_readReference se_M_readReference ln_M_297 (mp_o hA) rfl rfl (Nat.le_of_ble_eq_true rfl) (Nat.le_of_ble_eq_true rfl) (am_G.mono (c_M_readReference (d := d + 1) (S := S2) (s := 0) (L := L) (f0 := bhf L) (t0 := L.length) (bo := none) (ca := 85) hA hM2.1 (okT_of hM2.2.1) (txO_coming hA hx2 (by omega)) (by decide) hbL (by omega) (by omega) (by omega) (fun q hq => by cases hq)) ?_)
    intro r h9 hy9
    obtain ⟨S6, u2, u3, u4⟩ := hy9
    rw [u2]
    clear u2 h9
    have er : mrr L (bhf L) L.length (Option.map (gT T) (none : Option Nat)) = mrr L (bhf L) L.length (none) := rfl
    rw [er] at u4
    have hM6 := hM2.sc u3
    have hm6 : mA XRd S S6 := (hpS.mo (by decide)).tr (u3.m.mo (by decide))
    have ht6 := ht2.m u3.m (by decide) (by decide)
    cases hm2r : mrr L (bhf L) L.length (none) with
    | none =>
      rw [hm2r] at u4
      rw [u4]
      refine ⟨am_nti _, ?_⟩
      have ea : rdA L = [] := by unfold rdA; rw [hm, hm2r]; rfl
      rw [ea]
      refine g_if_eq (pc := 37) (tgt := 56) dc_M_read_37 rfl (fun _ => ?_) (fun hc => absurd hc (by decide))
      refine g_aload_n (pc := 56) dc_M_read_56 rfl ?_
      refine g_aload_n (pc := 57) dc_M_read_57 rfl ?_
      refine g_getfield (pc := 58) dc_M_read_58 fl_M_45 (mp_o hA) rfl ?_
      refine g_iconst (pc := 61) (v := 0) dc_M_read_61 rfl ?_
      refine g_iconst (pc := 62) (v := 0) dc_M_read_62 rfl ?_
      refine g_v3 (pc := 63) (M' := mt_M_show) dc_M_read_63 mo_M_show im_M_show se_M_show ln_M_502 (mp_o hA) rfl rfl (Nat.le_of_ble_eq_true rfl) (Nat.le_of_ble_eq_true rfl) (am_G.mono (c_M_show_made (d := d + 6) (S := S6) (D := ([] : List Int32)) hA (fun j hj => absurd hj (Nat.not_lt_zero j)) (Nat.zero_le _) (fun j => bt_0) (Nat.zero_le _)) ?_)
      intro r h1 hq
      rw [hq.1, hq.2]
      clear hq h1 r
      refine ⟨am_nti _, ?_⟩
      have hmp : mA [3, 4] S6 ((S6.s_productSize (([] : List Int32)).length).s_product (wrt S6.product 0 (([] : List Int32)))) := ((mA.rf S6).a_productSize _ (by decide)).a_product _ (by decide)
      exact g_ireturn dc_M_read_66 rfl ⟨rfl, _, T, rfl, (hm6.a_productSize _ (by decide)).a_product _ (by decide), ⟨hM6.1.m hmp (by decide) (by decide) (by decide) (by decide), hM6.2.1, hM6.2.2.1, hM6.2.2.2.m hmp (by decide) (by decide) (by decide) (by decide) (by decide)⟩, List.prefix_refl T, ht6.m hmp (by decide) (by decide), fun j hj => absurd hj (Nat.not_lt_zero j), rfl, by exact Nat.zero_le _⟩
    | some E =>
      rw [hm2r] at u4
      rw [u4.1]
      refine ⟨am_nti _, ?_⟩
      have ea : rdA L = E := by unfold rdA; rw [hm, hm2r]; rfl
      rw [ea]
      have hE := u4.2
      have hE2 := hE.2.2.1
      refine g_if_eq (pc := 37) (tgt := 56) dc_M_read_37 rfl (fun hc => absurd hc (by decide)) (fun _ => ?_)
      refine g_aload_n (pc := 40) dc_M_read_40 rfl ?_
      refine g_aload_n (pc := 41) dc_M_read_41 rfl ?_
      refine g_getfield (pc := 42) dc_M_read_42 fl_M_45 (mp_o hA) rfl ?_
      refine g_iconst (pc := 45) (v := 0) dc_M_read_45 rfl ?_
      refine g_aload_n (pc := 46) dc_M_read_46 rfl ?_
      refine g_getfield (pc := 47) (v := .int (nI E.length)) dc_M_read_47 fl_M_38 (mp_o hA) (congrArg (fun z => some (Value.int (nI z))) hE.1) ?_
      refine g_v3 (pc := 50) (M' := mt_M_show) dc_M_read_50 mo_M_show im_M_show se_M_show ln_M_502 (mp_o hA) rfl rfl (Nat.le_of_ble_eq_true rfl) (Nat.le_of_ble_eq_true rfl) (am_G.mono (c_M_show_made (d := d + 6) (S := S6) (D := E) hA hE.2.1 (by omega) hE.2.2.2 (by omega)) ?_)
      intro r h1 hq
      rw [hq.1, hq.2]
      clear hq h1 r
      refine ⟨am_nti _, ?_⟩
      refine g_goto (pc := 53) (tgt := 66) dc_M_read_53 rfl ?_
      have hmp : mA [3, 4] S6 ((S6.s_productSize (E).length).s_product (wrt S6.product 0 (E))) := ((mA.rf S6).a_productSize _ (by decide)).a_product _ (by decide)
      exact g_ireturn dc_M_read_66 rfl ⟨rfl, _, T, rfl, (hm6.a_productSize _ (by decide)).a_product _ (by decide), ⟨hM6.1.m hmp (by decide) (by decide) (by decide) (by decide), hM6.2.1, hM6.2.2.1, hM6.2.2.2.m hmp (by decide) (by decide) (by decide) (by decide) (by decide)⟩, List.prefix_refl T, ht6.m hmp (by decide) (by decide), wrt_tx _ _ _, rfl, by omega⟩
  | some D =>
    rw [hm] at hz4
    rw [hz4.1]
    refine ⟨am_nti _, ?_⟩
    have hoD := fsa_ok hbL hm
    have huD := hU D hm
    refine g_if_eq (pc := 10) (tgt := 20) dc_M_read_10 rfl (fun hc => absurd hc (by decide)) (fun _ => ?_)
    refine g_aload_n (pc := 13) dc_M_read_13 rfl ?_
    refine g_v0 (pc := 14) (M' := mt_M_keep) dc_M_read_14 mo_M_keep im_M_keep se_M_keep ln_M_300 (mp_o hA) rfl rfl (Nat.le_of_ble_eq_true rfl) (Nat.le_of_ble_eq_true rfl) (am_G.mono (c_M_keep (d := d + 5) (D := D) hA hM2.1 hz4.2 (Or.inr (tb_lt hM2 hUl))) ?_)
    intro r h9 hy9
    obtain ⟨S3, T1, kb, w1, w2, w3⟩ := hy9
    rw [w1, w2]
    clear w1 w2 h9
    have hM3 := hM2.kp w3 hoD huD
    have hm3 : mA XP S S3 := hm2.tr (w3.m.mo (by decide))
    have hpS3 : mA XR S S3 := hpS.tr (w3.m.mo (by decide))
    have hx3 : tx S3.coming 0 L := by rw [w3.m.coming (by decide)]; exact hx2
    have ht3 : tpM S3 [] := ht2.m w3.m (by decide) (by decide)
    have hkb : kb < T1.length ∧ gT T1 kb = D := ⟨w3.2.2.1, w3.2.2.2.1⟩
    refine ⟨am_nti _, ?_⟩
    refine g_goto (pc := 17) (tgt := 21) dc_M_read_17 rfl ?_
    refine g_istore_n (pc := 21) dc_M_read_21 (by decide) ?_
    show am_G X mt_M_read _ 22 [some (.ref 84), some (.int (nI L.length)), some (.int (nI kb))] [] _ _
    refine g_aload_n (pc := 22) dc_M_read_22 rfl ?_
    refine g_aload_n (pc := 23) dc_M_read_23 rfl ?_
    refine g_getfield (pc := 24) dc_M_read_24 fl_M_143 (mp_o hA) rfl ?_
    refine g_aload_n (pc := 27) dc_M_read_27 rfl ?_
    refine g_iload_n (pc := 28) dc_M_read_28 rfl ?_
    refine g_v1 (pc := 29) (M' := mt_M_behindFirst) dc_M_read_29 mo_M_behindFirst im_M_behindFirst se_M_behindFirst ln_M_511 (mp_o hA) rfl rfl (Nat.le_of_ble_eq_true rfl) (Nat.le_of_ble_eq_true rfl) (am_G.mono (c_M_behindFirst (d := d + 5) (S := S3) hA hx3 hL8) ?_)
    intro r h1 hq
    rw [hq.1, hq.2]
    clear hq h1 r
    refine ⟨am_nti _, ?_⟩
    rw [show nI (bhf L) = nI (0 + bhf L) from congrArg nI (Nat.zero_add _).symm]
    refine g_iload_n (pc := 32) dc_M_read_32 rfl ?_
    rw [show nI L.length = nI (0 + L.length) from congrArg nI (Nat.zero_add _).symm]
    refine g_iload_n (pc := 33) dc_M_read_33 rfl ?_
    refine g_v4 (pc := 34) (M' := mt_M_readReference) dc_M_read_34 mo_M_readReference im_M_readReference se_M_readReference ln_M_297 (mp_o hA) rfl rfl (Nat.le_of_ble_eq_true rfl) (Nat.le_of_ble_eq_true rfl) (am_G.mono (c_M_readReference (d := d + 1) (S := S3) (s := 0) (L := L) (f0 := bhf L) (t0 := L.length) (bo := some kb) (ca := 85) hA hM3.1 (okT_of hM3.2.1) (txO_coming hA hx3 (by omega)) (by decide) hbL (by omega) (by omega) (by omega) (fun q hq => by cases hq; exact hkb.1)) ?_)
    intro r h9 hy9
    obtain ⟨S6, u2, u3, u4⟩ := hy9
    rw [u2]
    clear u2 h9
    have er : mrr L (bhf L) L.length (Option.map (gT T1) (some kb)) = mrr L (bhf L) L.length (some D) := congrArg (fun z => mrr L (bhf L) L.length (some z)) hkb.2
    rw [er] at u4
    have hM6 := hM3.sc u3
    have hm6 : mA XRd S S6 := (hpS3.mo (by decide)).tr (u3.m.mo (by decide))
    have ht6 := ht3.m u3.m (by decide) (by decide)
    cases hm2r : mrr L (bhf L) L.length (some D) with
    | none =>
      rw [hm2r] at u4
      rw [u4]
      refine ⟨am_nti _, ?_⟩
      have ea : rdA L = [] := by unfold rdA; rw [hm, hm2r]; rfl
      rw [ea]
      refine g_if_eq (pc := 37) (tgt := 56) dc_M_read_37 rfl (fun _ => ?_) (fun hc => absurd hc (by decide))
      refine g_aload_n (pc := 56) dc_M_read_56 rfl ?_
      refine g_aload_n (pc := 57) dc_M_read_57 rfl ?_
      refine g_getfield (pc := 58) dc_M_read_58 fl_M_45 (mp_o hA) rfl ?_
      refine g_iconst (pc := 61) (v := 0) dc_M_read_61 rfl ?_
      refine g_iconst (pc := 62) (v := 0) dc_M_read_62 rfl ?_
      refine g_v3 (pc := 63) (M' := mt_M_show) dc_M_read_63 mo_M_show im_M_show se_M_show ln_M_502 (mp_o hA) rfl rfl (Nat.le_of_ble_eq_true rfl) (Nat.le_of_ble_eq_true rfl) (am_G.mono (c_M_show_made (d := d + 6) (S := S6) (D := ([] : List Int32)) hA (fun j hj => absurd hj (Nat.not_lt_zero j)) (Nat.zero_le _) (fun j => bt_0) (Nat.zero_le _)) ?_)
      intro r h1 hq
      rw [hq.1, hq.2]
      clear hq h1 r
      refine ⟨am_nti _, ?_⟩
      have hmp : mA [3, 4] S6 ((S6.s_productSize (([] : List Int32)).length).s_product (wrt S6.product 0 (([] : List Int32)))) := ((mA.rf S6).a_productSize _ (by decide)).a_product _ (by decide)
      exact g_ireturn dc_M_read_66 rfl ⟨rfl, _, T1, rfl, (hm6.a_productSize _ (by decide)).a_product _ (by decide), ⟨hM6.1.m hmp (by decide) (by decide) (by decide) (by decide), hM6.2.1, hM6.2.2.1, hM6.2.2.2.m hmp (by decide) (by decide) (by decide) (by decide) (by decide)⟩, w3.pre, ht6.m hmp (by decide) (by decide), fun j hj => absurd hj (Nat.not_lt_zero j), rfl, by exact Nat.zero_le _⟩
    | some E =>
      rw [hm2r] at u4
      rw [u4.1]
      refine ⟨am_nti _, ?_⟩
      have ea : rdA L = E := by unfold rdA; rw [hm, hm2r]; rfl
      rw [ea]
      have hE := u4.2
      have hE2 := hE.2.2.1
      refine g_if_eq (pc := 37) (tgt := 56) dc_M_read_37 rfl (fun hc => absurd hc (by decide)) (fun _ => ?_)
      refine g_aload_n (pc := 40) dc_M_read_40 rfl ?_
      refine g_aload_n (pc := 41) dc_M_read_41 rfl ?_
      refine g_getfield (pc := 42) dc_M_read_42 fl_M_45 (mp_o hA) rfl ?_
      refine g_iconst (pc := 45) (v := 0) dc_M_read_45 rfl ?_
      refine g_aload_n (pc := 46) dc_M_read_46 rfl ?_
      refine g_getfield (pc := 47) (v := .int (nI E.length)) dc_M_read_47 fl_M_38 (mp_o hA) (congrArg (fun z => some (Value.int (nI z))) hE.1) ?_
      refine g_v3 (pc := 50) (M' := mt_M_show) dc_M_read_50 mo_M_show im_M_show se_M_show ln_M_502 (mp_o hA) rfl rfl (Nat.le_of_ble_eq_true rfl) (Nat.le_of_ble_eq_true rfl) (am_G.mono (c_M_show_made (d := d + 6) (S := S6) (D := E) hA hE.2.1 (by omega) hE.2.2.2 (by omega)) ?_)
      intro r h1 hq
      rw [hq.1, hq.2]
      clear hq h1 r
      refine ⟨am_nti _, ?_⟩
      refine g_goto (pc := 53) (tgt := 66) dc_M_read_53 rfl ?_
      have hmp : mA [3, 4] S6 ((S6.s_productSize (E).length).s_product (wrt S6.product 0 (E))) := ((mA.rf S6).a_productSize _ (by decide)).a_product _ (by decide)
      exact g_ireturn dc_M_read_66 rfl ⟨rfl, _, T1, rfl, (hm6.a_productSize _ (by decide)).a_product _ (by decide), ⟨hM6.1.m hmp (by decide) (by decide) (by decide) (by decide), hM6.2.1, hM6.2.2.1, hM6.2.2.2.m hmp (by decide) (by decide) (by decide) (by decide) (by decide)⟩, w3.pre, ht6.m hmp (by decide) (by decide), wrt_tx _ _ _, rfl, by omega⟩
end OP5
