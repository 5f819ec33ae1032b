/-! ===== the model's decode ===== -/
theorem tt_txt {A B : List va_E} {S : MS} {s : Nat} {L : List Int32} (hA : A.length = 84) (hX : tx S.texts s L) (hs : s + L.length ≤ 24000) : tt (mput A S B) 96 s L := ⟨24000, S.texts, mp_a hA 12 rfl, hX, hs, by omega⟩
section MDC
variable {X : am_X} {d f s t p0 : Nat} {A B : List va_E} {L : List Int32}
theorem l_M_decode_decoded (hA : A.length = 84) (hbt : ∀ j, bt (gx L j)) (ht : t ≤ L.length) (hs : s + L.length ≤ 24000) : ∀ (m i n : Nat) (S : MS), t - i ≤ m → i ≤ t → tx S.texts s L → n + (t - i) ≤ 8000 → am_G X mt_M_decode (d + 5) 7 [some (.ref 84), some (.ref 96), some (.int (nI (s + f))), some (.int (nI (s + t))), some (.ref 103), some (.int (nI p0)), some (.int (nI n)), some (.int (nI (s + i))), none] [] (mput A S B) (fun r h1 => ∃ v, r = some (.int (nI (n + (dcd L i t).length))) ∧ h1 = mput A ((S.s_byteValue v).s_decoded (wrt S.decoded n (dcd L i t))) B)
  | 0, i, n, S, hm, hi, hX, hn => by
    obtain rfl : i = t := by omega
    rw [dcd_nil (Nat.le_refl i), wrt_nil]
    refine g_iload (pc := 7) dc_M_decode_7 rfl ?_
    refine g_iload_n (pc := 9) dc_M_decode_9 rfl ?_
    refine q_icmp_ge (pc := 10) (tgt := 80) (s + i) (s + i) dc_M_decode_10 (by omega) (by omega) rfl (fun hc10 => ?_) (fun hc => absurd hc (by omega))
    refine g_iload (pc := 80) dc_M_decode_80 rfl ?_
    exact g_ireturn dc_M_decode_82 rfl ⟨S.byteValue, rfl, rfl⟩
  | m + 1, i, n, S, hm, hi, hX, hn => by
    by_cases hit : i < t
    · have hul := dcd_len (L := L) (t := t) (t - i) i (Nat.le_refl _)
      have hst := dcd_step (L := L) hit
      refine g_iload (pc := 7) dc_M_decode_7 rfl ?_
      refine g_iload_n (pc := 9) dc_M_decode_9 rfl ?_
      refine q_icmp_ge (pc := 10) (tgt := 80) (s + i) (s + t) dc_M_decode_10 (by omega) (by omega) rfl (fun hc => absurd hc (by omega)) (fun hc10 => ?_)
      refine g_aload_n (pc := 13) dc_M_decode_13 rfl ?_
      refine g_iload (pc := 14) dc_M_decode_14 rfl ?_
      refine q_tx (pc := 16) i dc_M_decode_16 (mp_a hA 12 rfl) hX hs (by omega) (by omega) ?_
      refine g_bipush (pc := 17) (v := 38) dc_M_decode_17 rfl ?_
      refine g_icmp_ne (pc := 19) (tgt := 33) dc_M_decode_19 rfl (fun hc19 => ?_) (fun hc19 => ?_)
      · refine g_iconst (pc := 33) (v := (-1)) dc_M_decode_33 rfl ?_
        have e9 : rfb L i t = none := rfb_n1 hc19
        refine g_istore (pc := 34) dc_M_decode_34 (by decide) ?_
        show am_G X mt_M_decode _ 36 [some (.ref 84), some (.ref 96), some (.int (nI (s + f))), some (.int (nI (s + t))), some (.ref 103), some (.int (nI p0)), some (.int (nI n)), some (.int (nI (s + i))), some (.int (-1))] [] _ _
        refine g_aload (pc := 36) dc_M_decode_36 rfl ?_
        refine g_iload (pc := 38) dc_M_decode_38 rfl ?_
        refine g_iload (pc := 40) dc_M_decode_40 rfl ?_
        refine g_if_ge (pc := 42) (tgt := 52) dc_M_decode_42 rfl (fun hc => absurd hc (by decide)) (fun _ => ?_)
        refine g_aload_n (pc := 45) dc_M_decode_45 rfl ?_
        refine g_iload (pc := 46) dc_M_decode_46 rfl ?_
        refine q_tx (pc := 48) i dc_M_decode_48 (mp_a hA 12 rfl) hX hs (by omega) (by omega) ?_
        refine g_goto (pc := 49) (tgt := 57) dc_M_decode_49 rfl ?_
        refine asE_decoded (pc := 57) n (g := upd S.decoded n (gx L i)) hA dc_M_decode_57 (by omega) (congrArg (upd S.decoded n) (nar_bt (hbt i))) ?_
        refine g_iinc (pc := 58) (v := (nI (n + 1))) dc_M_decode_58 rfl (nI_add n 1) (by decide) ?_
        show am_G X mt_M_decode _ 61 [some (.ref 84), some (.ref 96), some (.int (nI (s + f))), some (.int (nI (s + t))), some (.ref 103), some (.int (nI p0)), some (.int (nI (n + 1))), some (.int (nI (s + i))), some (.int (-1))] [] _ _
        refine g_iload (pc := 61) dc_M_decode_61 rfl ?_
        refine g_if_ge (pc := 63) (tgt := 73) dc_M_decode_63 rfl (fun hc => absurd hc (by decide)) (fun _ => ?_)
        refine g_iload (pc := 66) dc_M_decode_66 rfl ?_
        refine g_iconst (pc := 68) (v := 1) dc_M_decode_68 rfl ?_
        refine g_iadd (pc := 69) (v := (nI (s + (i + 1)))) dc_M_decode_69 (q_as s i 1) ?_
        refine g_goto (pc := 70) (tgt := 75) dc_M_decode_70 rfl ?_
        refine g_istore (pc := 75) dc_M_decode_75 (by decide) ?_
        show am_G X mt_M_decode _ 77 [some (.ref 84), some (.ref 96), some (.int (nI (s + f))), some (.int (nI (s + t))), some (.ref 103), some (.int (nI p0)), some (.int (nI (n + 1))), some (.int (nI (s + (i + 1)))), some (.int (-1))] [] _ _
        refine g_goto (pc := 77) (tgt := 7) dc_M_decode_77 rfl ?_
        rw [db_n e9, da_n e9] at hst
        refine am_wk (am_le_s (am_le_s (am_le_s (am_le_s (am_le_s (am_le_s (am_le_s (am_le_s (am_le_n am_le_0))))))))) ?_
        refine am_G.mono (l_M_decode_decoded hA hbt ht hs m (i + 1) (n + 1) (S.s_decoded (upd S.decoded n (gx L i))) (by omega) (by omega) hX (by omega)) (fun r h1 hq => ?_)
        obtain ⟨v, hq1, hq2⟩ := hq
        refine ⟨v, ?_, ?_⟩
        · rw [hq1, hst]; exact congrArg (fun z => some (Value.int (nI z))) (by rw [List.length_append]; show n + 1 + (dcd L (i + 1) t).length = n + (1 + (dcd L (i + 1) t).length); omega)
        · rw [hq2, hst]; show mput A (((S.s_decoded (upd S.decoded n (gx L i))).s_byteValue v).s_decoded (wrt (upd S.decoded n (gx L i)) (n + 1) (dcd L (i + 1) t))) B = _; rw [wrt_cons]; rfl
      · refine g_aload_n (pc := 22) dc_M_decode_22 rfl ?_
        refine g_aload_n (pc := 23) dc_M_decode_23 rfl ?_
        refine g_iload (pc := 24) dc_M_decode_24 rfl ?_
        refine g_iload_n (pc := 26) dc_M_decode_26 rfl ?_
        refine g_v3 (pc := 27) (M' := mt_M_readByte) dc_M_decode_27 mo_M_readByte im_M_readByte se_M_readByte ln_M_220 (mp_o hA) rfl rfl (Nat.le_of_ble_eq_true rfl) (Nat.le_of_ble_eq_true rfl) (am_G.mono (c_M_readByte (d := d) (ca := 96) (s := s) (p := i) (t := t) hA (tt_txt hA hX hs) hit ht) ?_)
        intro r h1 hq
        rw [hq.1, hq.2, mrb_eq hc19 hit]
        clear hq h1 r
        refine ⟨am_nti _, ?_⟩
        refine g_goto (pc := 30) (tgt := 34) dc_M_decode_30 rfl ?_
        cases e9 : rfb L i t with
        | none =>
          show am_G X mt_M_decode (d + 5) 34 [some (.ref 84), some (.ref 96), some (.int (nI (s + f))), some (.int (nI (s + t))), some (.ref 103), some (.int (nI p0)), some (.int (nI n)), some (.int (nI (s + i))), none] [.int (-1)] (mput A S B) _
          refine g_istore (pc := 34) dc_M_decode_34 (by decide) ?_
          show am_G X mt_M_decode _ 36 [some (.ref 84), some (.ref 96), some (.int (nI (s + f))), some (.int (nI (s + t))), some (.ref 103), some (.int (nI p0)), some (.int (nI n)), some (.int (nI (s + i))), some (.int (-1))] [] _ _
          refine g_aload (pc := 36) dc_M_decode_36 rfl ?_
          refine g_iload (pc := 38) dc_M_decode_38 rfl ?_
          refine g_iload (pc := 40) dc_M_decode_40 rfl ?_
          refine g_if_ge (pc := 42) (tgt := 52) dc_M_decode_42 rfl (fun hc => absurd hc (by decide)) (fun _ => ?_)
          refine g_aload_n (pc := 45) dc_M_decode_45 rfl ?_
          refine g_iload (pc := 46) dc_M_decode_46 rfl ?_
          refine q_tx (pc := 48) i dc_M_decode_48 (mp_a hA 12 rfl) hX hs (by omega) (by omega) ?_
          refine g_goto (pc := 49) (tgt := 57) dc_M_decode_49 rfl ?_
          refine asE_decoded (pc := 57) n (g := upd S.decoded n (gx L i)) hA dc_M_decode_57 (by omega) (congrArg (upd S.decoded n) (nar_bt (hbt i))) ?_
          refine g_iinc (pc := 58) (v := (nI (n + 1))) dc_M_decode_58 rfl (nI_add n 1) (by decide) ?_
          show am_G X mt_M_decode _ 61 [some (.ref 84), some (.ref 96), some (.int (nI (s + f))), some (.int (nI (s + t))), some (.ref 103), some (.int (nI p0)), some (.int (nI (n + 1))), some (.int (nI (s + i))), some (.int (-1))] [] _ _
          refine g_iload (pc := 61) dc_M_decode_61 rfl ?_
          refine g_if_ge (pc := 63) (tgt := 73) dc_M_decode_63 rfl (fun hc => absurd hc (by decide)) (fun _ => ?_)
          refine g_iload (pc := 66) dc_M_decode_66 rfl ?_
          refine g_iconst (pc := 68) (v := 1) dc_M_decode_68 rfl ?_
          refine g_iadd (pc := 69) (v := (nI (s + (i + 1)))) dc_M_decode_69 (q_as s i 1) ?_
          refine g_goto (pc := 70) (tgt := 75) dc_M_decode_70 rfl ?_
          refine g_istore (pc := 75) dc_M_decode_75 (by decide) ?_
          show am_G X mt_M_decode _ 77 [some (.ref 84), some (.ref 96), some (.int (nI (s + f))), some (.int (nI (s + t))), some (.ref 103), some (.int (nI p0)), some (.int (nI (n + 1))), some (.int (nI (s + (i + 1)))), some (.int (-1))] [] _ _
          refine g_goto (pc := 77) (tgt := 7) dc_M_decode_77 rfl ?_
          rw [db_n e9, da_n e9] at hst
          refine am_wk (am_le_s (am_le_s (am_le_s (am_le_s (am_le_s (am_le_s (am_le_s (am_le_s (am_le_n am_le_0))))))))) ?_
          refine am_G.mono (l_M_decode_decoded hA hbt ht hs m (i + 1) (n + 1) (S.s_decoded (upd S.decoded n (gx L i))) (by omega) (by omega) hX (by omega)) (fun r h1 hq => ?_)
          obtain ⟨v, hq1, hq2⟩ := hq
          refine ⟨v, ?_, ?_⟩
          · rw [hq1, hst]; exact congrArg (fun z => some (Value.int (nI z))) (by rw [List.length_append]; show n + 1 + (dcd L (i + 1) t).length = n + (1 + (dcd L (i + 1) t).length); omega)
          · rw [hq2, hst]; show mput A (((S.s_decoded (upd S.decoded n (gx L i))).s_byteValue v).s_decoded (wrt (upd S.decoded n (gx L i)) (n + 1) (dcd L (i + 1) t))) B = _; rw [wrt_cons]; rfl
        | some q =>
          have hri := rfb_i hit e9
          show am_G X mt_M_decode (d + 5) 34 [some (.ref 84), some (.ref 96), some (.int (nI (s + f))), some (.int (nI (s + t))), some (.ref 103), some (.int (nI p0)), some (.int (nI n)), some (.int (nI (s + i))), none] [.int (nI (s + q.2))] (mput A (S.s_byteValue (nI q.1)) B) _
          refine g_istore (pc := 34) dc_M_decode_34 (by decide) ?_
          show am_G X mt_M_decode _ 36 [some (.ref 84), some (.ref 96), some (.int (nI (s + f))), some (.int (nI (s + t))), some (.ref 103), some (.int (nI p0)), some (.int (nI n)), some (.int (nI (s + i))), some (.int (nI (s + q.2)))] [] _ _
          refine g_aload (pc := 36) dc_M_decode_36 rfl ?_
          refine g_iload (pc := 38) dc_M_decode_38 rfl ?_
          refine g_iload (pc := 40) dc_M_decode_40 rfl ?_
          refine q_if_ge (pc := 42) (tgt := 52) (s + q.2) dc_M_decode_42 (by omega) rfl ?_
          refine g_aload_n (pc := 52) dc_M_decode_52 rfl ?_
          refine g_getfield (pc := 53) dc_M_decode_53 fl_M_217 (mp_o hA) rfl ?_
          refine g_i2b (pc := 56) dc_M_decode_56 (i8_bt (bt_nI (show q.1 < 128 by omega))) ?_
          refine asE_decoded (pc := 57) n (g := upd S.decoded n (nI q.1)) hA dc_M_decode_57 (by omega) (congrArg (upd S.decoded n) (nar_bt (bt_nI (show q.1 < 128 by omega)))) ?_
          refine g_iinc (pc := 58) (v := (nI (n + 1))) dc_M_decode_58 rfl (nI_add n 1) (by decide) ?_
          show am_G X mt_M_decode _ 61 [some (.ref 84), some (.ref 96), some (.int (nI (s + f))), some (.int (nI (s + t))), some (.ref 103), some (.int (nI p0)), some (.int (nI (n + 1))), some (.int (nI (s + i))), some (.int (nI (s + q.2)))] [] _ _
          refine g_iload (pc := 61) dc_M_decode_61 rfl ?_
          refine q_if_ge (pc := 63) (tgt := 73) (s + q.2) dc_M_decode_63 (by omega) rfl ?_
          refine g_iload (pc := 73) dc_M_decode_73 rfl ?_
          refine g_istore (pc := 75) dc_M_decode_75 (by decide) ?_
          show am_G X mt_M_decode _ 77 [some (.ref 84), some (.ref 96), some (.int (nI (s + f))), some (.int (nI (s + t))), some (.ref 103), some (.int (nI p0)), some (.int (nI (n + 1))), some (.int (nI (s + q.2))), some (.int (nI (s + q.2)))] [] _ _
          refine g_goto (pc := 77) (tgt := 7) dc_M_decode_77 rfl ?_
          rw [db_s e9, da_s e9, show i + (q.2 - i) = q.2 by omega] at hst
          refine am_wk (am_le_s (am_le_s (am_le_s (am_le_s (am_le_s (am_le_s (am_le_s (am_le_s (am_le_n am_le_0))))))))) ?_
          refine am_G.mono (l_M_decode_decoded hA hbt ht hs m (q.2) (n + 1) ((S.s_byteValue (nI q.1)).s_decoded (upd S.decoded n (nI q.1))) (by omega) (by omega) hX (by omega)) (fun r h1 hq => ?_)
          obtain ⟨v, hq1, hq2⟩ := hq
          refine ⟨v, ?_, ?_⟩
          · rw [hq1, hst]; exact congrArg (fun z => some (Value.int (nI z))) (by rw [List.length_append]; show n + 1 + (dcd L (q.2) t).length = n + (1 + (dcd L (q.2) t).length); omega)
          · rw [hq2, hst]; show mput A ((((S.s_byteValue (nI q.1)).s_decoded (upd S.decoded n (nI q.1))).s_byteValue v).s_decoded (wrt (upd S.decoded n (nI q.1)) (n + 1) (dcd L (q.2) t))) B = _; rw [wrt_cons]; rfl
    · obtain rfl : i = t := by omega
      rw [dcd_nil (Nat.le_refl i), wrt_nil]
      refine g_iload (pc := 7) dc_M_decode_7 rfl ?_
      refine g_iload_n (pc := 9) dc_M_decode_9 rfl ?_
      refine q_icmp_ge (pc := 10) (tgt := 80) (s + i) (s + i) dc_M_decode_10 (by omega) (by omega) rfl (fun hc10 => ?_) (fun hc => absurd hc (by omega))
      refine g_iload (pc := 80) dc_M_decode_80 rfl ?_
      exact g_ireturn dc_M_decode_82 rfl ⟨S.byteValue, rfl, rfl⟩
theorem c_M_decode_decoded {n : Nat} {S : MS} (hA : A.length = 84) (hbt : ∀ j, bt (gx L j)) (ht : t ≤ L.length) (hs : s + L.length ≤ 24000) (hft : f ≤ t) (hX : tx S.texts s L) (hn : n + (t - f) ≤ 8000) : am_C X mt_M_decode (d + 5) [.ref 84, .ref 96, .int (nI (s + f)), .int (nI (s + t)), .ref 103, .int (nI n)] (mput A S B) (fun r h1 => ∃ v, r = some (.int (nI (n + (dcd L f t).length))) ∧ h1 = mput A ((S.s_byteValue v).s_decoded (wrt S.decoded n (dcd L f t))) B) := by
  show am_G X mt_M_decode (d + 5) 0 [some (.ref 84), some (.ref 96), some (.int (nI (s + f))), some (.int (nI (s + t))), some (.ref 103), some (.int (nI n)), none, none, none] [] (mput A S B) _
  refine g_iload (pc := 0) dc_M_decode_0 rfl ?_
  refine g_istore (pc := 2) dc_M_decode_2 (by decide) ?_
  show am_G X mt_M_decode _ 4 [some (.ref 84), some (.ref 96), some (.int (nI (s + f))), some (.int (nI (s + t))), some (.ref 103), some (.int (nI n)), some (.int (nI n)), none, none] [] _ _
  refine g_iload_n (pc := 4) dc_M_decode_4 rfl ?_
  refine g_istore (pc := 5) dc_M_decode_5 (by decide) ?_
  show am_G X mt_M_decode _ 7 [some (.ref 84), some (.ref 96), some (.int (nI (s + f))), some (.int (nI (s + t))), some (.ref 103), some (.int (nI n)), some (.int (nI n)), some (.int (nI (s + f))), none] [] _ _
  exact l_M_decode_decoded hA hbt ht hs (t - f) f n S (Nat.le_refl _) hft hX hn
theorem l_M_decode_values (hA : A.length = 84) (hbt : ∀ j, bt (gx L j)) (ht : t ≤ L.length) (hs : s + L.length ≤ 24000) : ∀ (m i n : Nat) (S : MS), t - i ≤ m → i ≤ t → tx S.texts s L → n + (t - i) ≤ 8000 → am_G X mt_M_decode (d + 5) 7 [some (.ref 84), some (.ref 96), some (.int (nI (s + f))), some (.int (nI (s + t))), some (.ref 107), some (.int (nI p0)), some (.int (nI n)), some (.int (nI (s + i))), none] [] (mput A S B) (fun r h1 => ∃ v, r = some (.int (nI (n + (dcd L i t).length))) ∧ h1 = mput A ((S.s_byteValue v).s_values (wrt S.values n (dcd L i t))) B)
  | 0, i, n, S, hm, hi, hX, hn => by
    obtain rfl : i = t := by omega
    rw [dcd_nil (Nat.le_refl i), wrt_nil]
    refine g_iload (pc := 7) dc_M_decode_7 rfl ?_
    refine g_iload_n (pc := 9) dc_M_decode_9 rfl ?_
    refine q_icmp_ge (pc := 10) (tgt := 80) (s + i) (s + i) dc_M_decode_10 (by omega) (by omega) rfl (fun hc10 => ?_) (fun hc => absurd hc (by omega))
    refine g_iload (pc := 80) dc_M_decode_80 rfl ?_
    exact g_ireturn dc_M_decode_82 rfl ⟨S.byteValue, rfl, rfl⟩
  | m + 1, i, n, S, hm, hi, hX, hn => by
    by_cases hit : i < t
    · have hul := dcd_len (L := L) (t := t) (t - i) i (Nat.le_refl _)
      have hst := dcd_step (L := L) hit
      refine g_iload (pc := 7) dc_M_decode_7 rfl ?_
      refine g_iload_n (pc := 9) dc_M_decode_9 rfl ?_
      refine q_icmp_ge (pc := 10) (tgt := 80) (s + i) (s + t) dc_M_decode_10 (by omega) (by omega) rfl (fun hc => absurd hc (by omega)) (fun hc10 => ?_)
      refine g_aload_n (pc := 13) dc_M_decode_13 rfl ?_
      refine g_iload (pc := 14) dc_M_decode_14 rfl ?_
      refine q_tx (pc := 16) i dc_M_decode_16 (mp_a hA 12 rfl) hX hs (by omega) (by omega) ?_
      refine g_bipush (pc := 17) (v := 38) dc_M_decode_17 rfl ?_
      refine g_icmp_ne (pc := 19) (tgt := 33) dc_M_decode_19 rfl (fun hc19 => ?_) (fun hc19 => ?_)
      · refine g_iconst (pc := 33) (v := (-1)) dc_M_decode_33 rfl ?_
        have e9 : rfb L i t = none := rfb_n1 hc19
        refine g_istore (pc := 34) dc_M_decode_34 (by decide) ?_
        show am_G X mt_M_decode _ 36 [some (.ref 84), some (.ref 96), some (.int (nI (s + f))), some (.int (nI (s + t))), some (.ref 107), some (.int (nI p0)), some (.int (nI n)), some (.int (nI (s + i))), some (.int (-1))] [] _ _
        refine g_aload (pc := 36) dc_M_decode_36 rfl ?_
        refine g_iload (pc := 38) dc_M_decode_38 rfl ?_
        refine g_iload (pc := 40) dc_M_decode_40 rfl ?_
        refine g_if_ge (pc := 42) (tgt := 52) dc_M_decode_42 rfl (fun hc => absurd hc (by decide)) (fun _ => ?_)
        refine g_aload_n (pc := 45) dc_M_decode_45 rfl ?_
        refine g_iload (pc := 46) dc_M_decode_46 rfl ?_
        refine q_tx (pc := 48) i dc_M_decode_48 (mp_a hA 12 rfl) hX hs (by omega) (by omega) ?_
        refine g_goto (pc := 49) (tgt := 57) dc_M_decode_49 rfl ?_
        refine asE_values (pc := 57) n (g := upd S.values n (gx L i)) hA dc_M_decode_57 (by omega) (congrArg (upd S.values n) (nar_bt (hbt i))) ?_
        refine g_iinc (pc := 58) (v := (nI (n + 1))) dc_M_decode_58 rfl (nI_add n 1) (by decide) ?_
        show am_G X mt_M_decode _ 61 [some (.ref 84), some (.ref 96), some (.int (nI (s + f))), some (.int (nI (s + t))), some (.ref 107), some (.int (nI p0)), some (.int (nI (n + 1))), some (.int (nI (s + i))), some (.int (-1))] [] _ _
        refine g_iload (pc := 61) dc_M_decode_61 rfl ?_
        refine g_if_ge (pc := 63) (tgt := 73) dc_M_decode_63 rfl (fun hc => absurd hc (by decide)) (fun _ => ?_)
        refine g_iload (pc := 66) dc_M_decode_66 rfl ?_
        refine g_iconst (pc := 68) (v := 1) dc_M_decode_68 rfl ?_
        refine g_iadd (pc := 69) (v := (nI (s + (i + 1)))) dc_M_decode_69 (q_as s i 1) ?_
        refine g_goto (pc := 70) (tgt := 75) dc_M_decode_70 rfl ?_
        refine g_istore (pc := 75) dc_M_decode_75 (by decide) ?_
        show am_G X mt_M_decode _ 77 [some (.ref 84), some (.ref 96), some (.int (nI (s + f))), some (.int (nI (s + t))), some (.ref 107), some (.int (nI p0)), some (.int (nI (n + 1))), some (.int (nI (s + (i + 1)))), some (.int (-1))] [] _ _
        refine g_goto (pc := 77) (tgt := 7) dc_M_decode_77 rfl ?_
        rw [db_n e9, da_n e9] at hst
        refine am_wk (am_le_s (am_le_s (am_le_s (am_le_s (am_le_s (am_le_s (am_le_s (am_le_s (am_le_n am_le_0))))))))) ?_
        refine am_G.mono (l_M_decode_values hA hbt ht hs m (i + 1) (n + 1) (S.s_values (upd S.values n (gx L i))) (by omega) (by omega) hX (by omega)) (fun r h1 hq => ?_)
        obtain ⟨v, hq1, hq2⟩ := hq
        refine ⟨v, ?_, ?_⟩
        · rw [hq1, hst]; exact congrArg (fun z => some (Value.int (nI z))) (by rw [List.length_append]; show n + 1 + (dcd L (i + 1) t).length = n + (1 + (dcd L (i + 1) t).length); omega)
        · rw [hq2, hst]; show mput A (((S.s_values (upd S.values n (gx L i))).s_byteValue v).s_values (wrt (upd S.values n (gx L i)) (n + 1) (dcd L (i + 1) t))) B = _; rw [wrt_cons]; rfl
      · refine g_aload_n (pc := 22) dc_M_decode_22 rfl ?_
        refine g_aload_n (pc := 23) dc_M_decode_23 rfl ?_
        refine g_iload (pc := 24) dc_M_decode_24 rfl ?_
        refine g_iload_n (pc := 26) dc_M_decode_26 rfl ?_
        refine g_v3 (pc := 27) (M' := mt_M_readByte) dc_M_decode_27 mo_M_readByte im_M_readByte se_M_readByte ln_M_220 (mp_o hA) rfl rfl (Nat.le_of_ble_eq_true rfl) (Nat.le_of_ble_eq_true rfl) (am_G.mono (c_M_readByte (d := d) (ca := 96) (s := s) (p := i) (t := t) hA (tt_txt hA hX hs) hit ht) ?_)
        intro r h1 hq
        rw [hq.1, hq.2, mrb_eq hc19 hit]
        clear hq h1 r
        refine ⟨am_nti _, ?_⟩
        refine g_goto (pc := 30) (tgt := 34) dc_M_decode_30 rfl ?_
        cases e9 : rfb L i t with
        | none =>
          show am_G X mt_M_decode (d + 5) 34 [some (.ref 84), some (.ref 96), some (.int (nI (s + f))), some (.int (nI (s + t))), some (.ref 107), some (.int (nI p0)), some (.int (nI n)), some (.int (nI (s + i))), none] [.int (-1)] (mput A S B) _
          refine g_istore (pc := 34) dc_M_decode_34 (by decide) ?_
          show am_G X mt_M_decode _ 36 [some (.ref 84), some (.ref 96), some (.int (nI (s + f))), some (.int (nI (s + t))), some (.ref 107), some (.int (nI p0)), some (.int (nI n)), some (.int (nI (s + i))), some (.int (-1))] [] _ _
          refine g_aload (pc := 36) dc_M_decode_36 rfl ?_
          refine g_iload (pc := 38) dc_M_decode_38 rfl ?_
          refine g_iload (pc := 40) dc_M_decode_40 rfl ?_
          refine g_if_ge (pc := 42) (tgt := 52) dc_M_decode_42 rfl (fun hc => absurd hc (by decide)) (fun _ => ?_)
          refine g_aload_n (pc := 45) dc_M_decode_45 rfl ?_
          refine g_iload (pc := 46) dc_M_decode_46 rfl ?_
          refine q_tx (pc := 48) i dc_M_decode_48 (mp_a hA 12 rfl) hX hs (by omega) (by omega) ?_
          refine g_goto (pc := 49) (tgt := 57) dc_M_decode_49 rfl ?_
          refine asE_values (pc := 57) n (g := upd S.values n (gx L i)) hA dc_M_decode_57 (by omega) (congrArg (upd S.values n) (nar_bt (hbt i))) ?_
          refine g_iinc (pc := 58) (v := (nI (n + 1))) dc_M_decode_58 rfl (nI_add n 1) (by decide) ?_
          show am_G X mt_M_decode _ 61 [some (.ref 84), some (.ref 96), some (.int (nI (s + f))), some (.int (nI (s + t))), some (.ref 107), some (.int (nI p0)), some (.int (nI (n + 1))), some (.int (nI (s + i))), some (.int (-1))] [] _ _
          refine g_iload (pc := 61) dc_M_decode_61 rfl ?_
          refine g_if_ge (pc := 63) (tgt := 73) dc_M_decode_63 rfl (fun hc => absurd hc (by decide)) (fun _ => ?_)
          refine g_iload (pc := 66) dc_M_decode_66 rfl ?_
          refine g_iconst (pc := 68) (v := 1) dc_M_decode_68 rfl ?_
          refine g_iadd (pc := 69) (v := (nI (s + (i + 1)))) dc_M_decode_69 (q_as s i 1) ?_
          refine g_goto (pc := 70) (tgt := 75) dc_M_decode_70 rfl ?_
          refine g_istore (pc := 75) dc_M_decode_75 (by decide) ?_
          show am_G X mt_M_decode _ 77 [some (.ref 84), some (.ref 96), some (.int (nI (s + f))), some (.int (nI (s + t))), some (.ref 107), some (.int (nI p0)), some (.int (nI (n + 1))), some (.int (nI (s + (i + 1)))), some (.int (-1))] [] _ _
          refine g_goto (pc := 77) (tgt := 7) dc_M_decode_77 rfl ?_
          rw [db_n e9, da_n e9] at hst
          refine am_wk (am_le_s (am_le_s (am_le_s (am_le_s (am_le_s (am_le_s (am_le_s (am_le_s (am_le_n am_le_0))))))))) ?_
          refine am_G.mono (l_M_decode_values hA hbt ht hs m (i + 1) (n + 1) (S.s_values (upd S.values n (gx L i))) (by omega) (by omega) hX (by omega)) (fun r h1 hq => ?_)
          obtain ⟨v, hq1, hq2⟩ := hq
          refine ⟨v, ?_, ?_⟩
          · rw [hq1, hst]; exact congrArg (fun z => some (Value.int (nI z))) (by rw [List.length_append]; show n + 1 + (dcd L (i + 1) t).length = n + (1 + (dcd L (i + 1) t).length); omega)
          · rw [hq2, hst]; show mput A (((S.s_values (upd S.values n (gx L i))).s_byteValue v).s_values (wrt (upd S.values n (gx L i)) (n + 1) (dcd L (i + 1) t))) B = _; rw [wrt_cons]; rfl
        | some q =>
          have hri := rfb_i hit e9
          show am_G X mt_M_decode (d + 5) 34 [some (.ref 84), some (.ref 96), some (.int (nI (s + f))), some (.int (nI (s + t))), some (.ref 107), some (.int (nI p0)), some (.int (nI n)), some (.int (nI (s + i))), none] [.int (nI (s + q.2))] (mput A (S.s_byteValue (nI q.1)) B) _
          refine g_istore (pc := 34) dc_M_decode_34 (by decide) ?_
          show am_G X mt_M_decode _ 36 [some (.ref 84), some (.ref 96), some (.int (nI (s + f))), some (.int (nI (s + t))), some (.ref 107), some (.int (nI p0)), some (.int (nI n)), some (.int (nI (s + i))), some (.int (nI (s + q.2)))] [] _ _
          refine g_aload (pc := 36) dc_M_decode_36 rfl ?_
          refine g_iload (pc := 38) dc_M_decode_38 rfl ?_
          refine g_iload (pc := 40) dc_M_decode_40 rfl ?_
          refine q_if_ge (pc := 42) (tgt := 52) (s + q.2) dc_M_decode_42 (by omega) rfl ?_
          refine g_aload_n (pc := 52) dc_M_decode_52 rfl ?_
          refine g_getfield (pc := 53) dc_M_decode_53 fl_M_217 (mp_o hA) rfl ?_
          refine g_i2b (pc := 56) dc_M_decode_56 (i8_bt (bt_nI (show q.1 < 128 by omega))) ?_
          refine asE_values (pc := 57) n (g := upd S.values n (nI q.1)) hA dc_M_decode_57 (by omega) (congrArg (upd S.values n) (nar_bt (bt_nI (show q.1 < 128 by omega)))) ?_
          refine g_iinc (pc := 58) (v := (nI (n + 1))) dc_M_decode_58 rfl (nI_add n 1) (by decide) ?_
          show am_G X mt_M_decode _ 61 [some (.ref 84), some (.ref 96), some (.int (nI (s + f))), some (.int (nI (s + t))), some (.ref 107), some (.int (nI p0)), some (.int (nI (n + 1))), some (.int (nI (s + i))), some (.int (nI (s + q.2)))] [] _ _
          refine g_iload (pc := 61) dc_M_decode_61 rfl ?_
          refine q_if_ge (pc := 63) (tgt := 73) (s + q.2) dc_M_decode_63 (by omega) rfl ?_
          refine g_iload (pc := 73) dc_M_decode_73 rfl ?_
          refine g_istore (pc := 75) dc_M_decode_75 (by decide) ?_
          show am_G X mt_M_decode _ 77 [some (.ref 84), some (.ref 96), some (.int (nI (s + f))), some (.int (nI (s + t))), some (.ref 107), some (.int (nI p0)), some (.int (nI (n + 1))), some (.int (nI (s + q.2))), some (.int (nI (s + q.2)))] [] _ _
          refine g_goto (pc := 77) (tgt := 7) dc_M_decode_77 rfl ?_
          rw [db_s e9, da_s e9, show i + (q.2 - i) = q.2 by omega] at hst
          refine am_wk (am_le_s (am_le_s (am_le_s (am_le_s (am_le_s (am_le_s (am_le_s (am_le_s (am_le_n am_le_0))))))))) ?_
          refine am_G.mono (l_M_decode_values hA hbt ht hs m (q.2) (n + 1) ((S.s_byteValue (nI q.1)).s_values (upd S.values n (nI q.1))) (by omega) (by omega) hX (by omega)) (fun r h1 hq => ?_)
          obtain ⟨v, hq1, hq2⟩ := hq
          refine ⟨v, ?_, ?_⟩
          · rw [hq1, hst]; exact congrArg (fun z => some (Value.int (nI z))) (by rw [List.length_append]; show n + 1 + (dcd L (q.2) t).length = n + (1 + (dcd L (q.2) t).length); omega)
          · rw [hq2, hst]; show mput A ((((S.s_byteValue (nI q.1)).s_values (upd S.values n (nI q.1))).s_byteValue v).s_values (wrt (upd S.values n (nI q.1)) (n + 1) (dcd L (q.2) t))) B = _; rw [wrt_cons]; rfl
    · obtain rfl : i = t := by omega
      rw [dcd_nil (Nat.le_refl i), wrt_nil]
      refine g_iload (pc := 7) dc_M_decode_7 rfl ?_
      refine g_iload_n (pc := 9) dc_M_decode_9 rfl ?_
      refine q_icmp_ge (pc := 10) (tgt := 80) (s + i) (s + i) dc_M_decode_10 (by omega) (by omega) rfl (fun hc10 => ?_) (fun hc => absurd hc (by omega))
      refine g_iload (pc := 80) dc_M_decode_80 rfl ?_
      exact g_ireturn dc_M_decode_82 rfl ⟨S.byteValue, rfl, rfl⟩
theorem c_M_decode_values {n : Nat} {S : MS} (hA : A.length = 84) (hbt : ∀ j, bt (gx L j)) (ht : t ≤ L.length) (hs : s + L.length ≤ 24000) (hft : f ≤ t) (hX : tx S.texts s L) (hn : n + (t - f) ≤ 8000) : am_C X mt_M_decode (d + 5) [.ref 84, .ref 96, .int (nI (s + f)), .int (nI (s + t)), .ref 107, .int (nI n)] (mput A S B) (fun r h1 => ∃ v, r = some (.int (nI (n + (dcd L f t).length))) ∧ h1 = mput A ((S.s_byteValue v).s_values (wrt S.values n (dcd L f t))) B) := by
  show am_G X mt_M_decode (d + 5) 0 [some (.ref 84), some (.ref 96), some (.int (nI (s + f))), some (.int (nI (s + t))), some (.ref 107), some (.int (nI n)), none, none, none] [] (mput A S B) _
  refine g_iload (pc := 0) dc_M_decode_0 rfl ?_
  refine g_istore (pc := 2) dc_M_decode_2 (by decide) ?_
  show am_G X mt_M_decode _ 4 [some (.ref 84), some (.ref 96), some (.int (nI (s + f))), some (.int (nI (s + t))), some (.ref 107), some (.int (nI n)), some (.int (nI n)), none, none] [] _ _
  refine g_iload_n (pc := 4) dc_M_decode_4 rfl ?_
  refine g_istore (pc := 5) dc_M_decode_5 (by decide) ?_
  show am_G X mt_M_decode _ 7 [some (.ref 84), some (.ref 96), some (.int (nI (s + f))), some (.int (nI (s + t))), some (.ref 107), some (.int (nI n)), some (.int (nI n)), some (.int (nI (s + f))), none] [] _ _
  exact l_M_decode_values hA hbt ht hs (t - f) f n S (Nat.le_refl _) hft hX hn
end MDC
