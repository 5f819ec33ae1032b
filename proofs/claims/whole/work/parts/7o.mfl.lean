/-! ===== the model's flush and markupEnd ===== -/
theorem toLo_k {x : Int32} {k : Int32} (hk : ¬ (65 ≤ k.toInt ∧ k.toInt ≤ 90)) (hk2 : ¬ (97 ≤ k.toInt ∧ k.toInt ≤ 122)) : toLo x = k ↔ x = k := by
  by_cases hu : 65 ≤ x.toInt ∧ x.toInt ≤ 90
  · have h1 := (toLo_i x).1 hu
    constructor
    · intro h
      rw [h] at h1
      exact absurd (⟨by omega, by omega⟩ : 97 ≤ k.toInt ∧ k.toInt ≤ 122) hk2
    · intro h
      rw [h] at hu
      exact absurd hu hk
  · rw [(toLo_i x).2 hu]
theorem bgw_rm {L : List Int32} {p : Nat} : bgw 21 L p L.length = true ↔ p + 3 < L.length ∧ gx L p = 60 ∧ gx L (p + 1) = 33 ∧ gx L (p + 2) = 45 ∧ gx L (p + 3) = 45 := by
  unfold bgw isw
  rw [Bool.and_eq_true, decide_eq_true_eq, decide_eq_true_eq, show cln 21 = 4 from rfl]
  have k0 : toLo (gx L (p + 0)) = ch 21 0 ↔ gx L p = 60 := toLo_k (k := 60) (by decide) (by decide)
  have k1 : toLo (gx L (p + 1)) = ch 21 1 ↔ gx L (p + 1) = 33 := toLo_k (k := 33) (by decide) (by decide)
  have k2 : toLo (gx L (p + 2)) = ch 21 2 ↔ gx L (p + 2) = 45 := toLo_k (k := 45) (by decide) (by decide)
  have k3 : toLo (gx L (p + 3)) = ch 21 3 ↔ gx L (p + 3) = 45 := toLo_k (k := 45) (by decide) (by decide)
  constructor
  · rintro ⟨a, b, c⟩
    exact ⟨by omega, k0.mp (c 0 (by omega)), k1.mp (c 1 (by omega)), k2.mp (c 2 (by omega)), k3.mp (c 3 (by omega))⟩
  · rintro ⟨a, b0, b1, b2, b3⟩
    refine ⟨by omega, by omega, fun j hj => ?_⟩
    match j, hj with
    | 0, _ => exact k0.mpr b0
    | 1, _ => exact k1.mpr b1
    | 2, _ => exact k2.mpr b2
    | 3, _ => exact k3.mpr b3
    | j + 4, hj => exact absurd hj (by omega)
section MFL
variable {X : am_X} {d s p f t pl ka : Nat} {A B : List va_E} {L D : List Int32} {T V Wd : List (List Int32)} {bo : Option (List Int32)} {w6 : Int32}
theorem c_M_flush {S : MS} (hA : A.length = 84) (hbL : btg L) (hL8 : L.length ≤ 7999) (hs : s + L.length ≤ 24000) (hX : tx S.texts s L) (hR : rdS S T V Wd D bo) (hft : f ≤ t) (ht : t ≤ L.length) (hc : Wd.length ≤ Wd.flatten.length) (hB : Wd.flatten.length + Wd.length + (t - f) ≤ 8000) : am_C X mt_M_flush (d + 6) [.ref 84, .int (nI (s + f)), .int (nI (s + t))] (mput A S B) (fun r h1 => r = none ∧ ∃ S1, h1 = mput A S1 B ∧ pgA S S1 ∧ rdS S1 T V (Wd ++ spl (dcd L f t) 0) D bo) := by
  have hdl := dcd_len (L := L) (t := t) (t - f) f (Nat.le_refl _)
  show am_G X mt_M_flush (d + 6) 0 [some (.ref 84), some (.int (nI (s + f))), some (.int (nI (s + t)))] [] (mput A S B) _
  refine g_aload_n (pc := 0) dc_M_flush_0 rfl ?_
  refine g_aload_n (pc := 1) dc_M_flush_1 rfl ?_
  refine g_aload_n (pc := 2) dc_M_flush_2 rfl ?_
  refine g_getfield (pc := 3) dc_M_flush_3 fl_M_140 (mp_o hA) rfl ?_
  refine g_iload_n (pc := 6) dc_M_flush_6 rfl ?_
  refine g_iload_n (pc := 7) dc_M_flush_7 rfl ?_
  refine g_aload_n (pc := 8) dc_M_flush_8 rfl ?_
  refine g_getfield (pc := 9) dc_M_flush_9 fl_M_235 (mp_o hA) rfl ?_
  refine g_iconst (pc := 12) (v := 0) dc_M_flush_12 rfl ?_
  refine g_v5 (pc := 13) (M' := mt_M_decode) dc_M_flush_13 mo_M_decode im_M_decode se_M_decode ln_M_238 (mp_o hA) rfl rfl (Nat.le_of_ble_eq_true rfl) (Nat.le_of_ble_eq_true rfl) (am_G.mono (c_M_decode_decoded (d := d) (f := f) (t := t) (n := 0) hA hbL (by omega) hs (by omega) hX (by omega)) ?_)
  intro r h1 hz
  obtain ⟨v, hz1, hz2⟩ := hz
  rw [hz1, hz2, Nat.zero_add]
  clear hz1 hz2 h1 r
  refine ⟨am_nti _, ?_⟩
  refine pf_decodedLength (pc := 16) (v := (dcd L f t).length) hA dc_M_flush_16 fp_M_flush_241 ?_
  refine g_aload_n (pc := 19) dc_M_flush_19 rfl ?_
  refine g_aload_n (pc := 20) dc_M_flush_20 rfl ?_
  refine g_getfield (pc := 21) dc_M_flush_21 fl_M_235 (mp_o hA) rfl ?_
  refine g_iconst (pc := 24) (v := 0) dc_M_flush_24 rfl ?_
  refine g_aload_n (pc := 25) dc_M_flush_25 rfl ?_
  refine g_getfield (pc := 26) dc_M_flush_26 fl_M_241 (mp_o hA) rfl ?_
  have hrk5 : rkA S (((S.s_byteValue v).s_decoded (wrt S.decoded 0 (dcd L f t))).s_decodedLength (dcd L f t).length) := ((rkA.s_byteValue _ _).tr (rkA.s_decoded _ _)).tr (rkA.s_decodedLength _ _)
  refine g_v3 (pc := 29) (M' := mt_M_split) dc_M_flush_29 mo_M_split im_M_split se_M_split ln_M_244 (mp_o hA) rfl rfl (Nat.le_of_ble_eq_true rfl) (Nat.le_of_ble_eq_true rfl) (am_G.mono (c_M_split (d := d + 4) (S := (((S.s_byteValue v).s_decoded (wrt S.decoded 0 (dcd L f t))).s_decodedLength (dcd L f t).length)) (ca := 103) (M := (dcd L f t)) (Wd := Wd) hA (btg_dcd hbL (t - f) f (Nat.le_refl _)) (by omega) (fun S1 a1 a2 a3 a4 a5 => ⟨8000, S1.decoded, mp_a hA 19 rfl, by rw [a5]; exact wrt_tx _ _ _, by omega, by omega⟩) (hR.rk hrk5).2.2.2.1 hc (by omega)) ?_)
  intro r h1 hz
  obtain ⟨hz1, S9, hz2, hw9, hz3⟩ := hz
  rw [hz1, hz2]
  clear hz1 hz2 h1 r
  refine ⟨am_nt0, ?_⟩
  exact g_return dc_M_flush_32 rfl ⟨rfl, S9, rfl, pgA.tr hrk5.pg hw9.pg, (hR.rk hrk5).wk hw9 hz3⟩
theorem o_M_markupEnd {S : MS} (hA : A.length = 84) (hbL : btg L) (hL8 : L.length ≤ 7999) (hs : s + L.length ≤ 24000) (hX : tx S.texts s L) (hR : rdS S T V Wd D bo) (hka : ka < T.length ∧ gT T ka = D) (hV : ∀ q, nxW 28 L p = some q → V.flatten.length + (q.2 - q.1) ≤ 8000 ∧ V.length < 1000) (hr : ∀ E, bo = none → bsO L D bo p = some E → E ∈ T ∨ T.length < 3500) (hp : pl ≤ p) (hp2 : p < L.length) (hc : Wd.length ≤ Wd.flatten.length) (hB : Wd.flatten.length + Wd.length + (p - pl) ≤ 8000) (hk : kdA L p = 2) (hn : ¬ gx L (p + 1) = 47) : am_G X mt_M_markupEnd (d + 7) 104 [some (.ref 84), some (.int (nI (s + p))), some (.int (nI (s + L.length))), some (.int (nI ka)), some (.int (nI (s + pl))), none, none, some (.int 1), none, none] [] (mput A S B) (fun r h1 => r = some (.int (nI (s + nxT L p))) ∧ ∃ S1 T1, h1 = mput A S1 B ∧ pgA S S1 ∧ rdS S1 T1 (V ++ pvl L p) (Wd ++ spl (dcd L pl p) 0) D (bsO L D bo p) ∧ T <+: T1 ∧ ∀ x, x ∈ T1 → x ∈ T ∨ (bo = none ∧ bsO L D bo p = some x)) := by
  have hF : tgF L p = p + 1 := if_neg hn
  have hC : tgC L p = false := decide_eq_false hn
  have ht := fun S2 (hX2 : tx (MS.texts S2) s L) (hz4 : rdS S2 T V (Wd ++ spl (dcd L pl p) 0) D bo) => c_M_tagEnd (X := X) (d := d) (S := S2) (p := p) (A := A) (B := B) hA hbL hL8 hs hk hX2 hz4 hka hV hr
  rw [hF, hC] at ht
  refine g_aload_n (pc := 104) dc_M_markupEnd_104 rfl ?_
  refine g_iload (pc := 105) dc_M_markupEnd_105 rfl ?_
  refine g_iload_n (pc := 107) dc_M_markupEnd_107 rfl ?_
  refine g_v2 (pc := 108) (M' := mt_M_flush) dc_M_markupEnd_108 mo_M_flush im_M_flush se_M_flush ln_M_261 (mp_o hA) rfl rfl (Nat.le_of_ble_eq_true rfl) (Nat.le_of_ble_eq_true rfl) (am_G.mono (c_M_flush (d := d) (f := pl) (t := p) hA hbL hL8 hs hX hR hp (by omega) hc hB) ?_)
  intro r h1 hz
  obtain ⟨hz1, S2, hz2, hz3, hz4⟩ := hz
  rw [hz1, hz2]
  clear hz1 hz2 h1 r
  have hX2 : tx S2.texts s L := by rw [hz3.texts]; exact hX
  refine ⟨am_nt0, ?_⟩
  refine g_iload (pc := 111) dc_M_markupEnd_111 rfl ?_
  refine g_if_ne (pc := 113) (tgt := 121) dc_M_markupEnd_113 rfl (fun _ => ?_) (fun hc => absurd hc (by decide))
  refine g_aload_n (pc := 121) dc_M_markupEnd_121 rfl ?_
  refine g_iload (pc := 122) dc_M_markupEnd_122 rfl ?_
  refine g_if_eq (pc := 124) (tgt := 133) dc_M_markupEnd_124 rfl (fun hc => absurd hc (by decide)) (fun _ => ?_)
  refine g_iload_n (pc := 127) dc_M_markupEnd_127 rfl ?_
  refine g_iconst (pc := 128) (v := 1) dc_M_markupEnd_128 rfl ?_
  refine g_iadd (pc := 129) (v := (nI (s + (p + 1)))) dc_M_markupEnd_129 (q_as s p 1) ?_
  refine g_goto (pc := 130) (tgt := 136) dc_M_markupEnd_130 rfl ?_
  refine g_iload_n (pc := 136) dc_M_markupEnd_136 rfl ?_
  refine g_iload (pc := 137) dc_M_markupEnd_137 rfl ?_
  refine g_iload_n (pc := 139) dc_M_markupEnd_139 rfl ?_
  refine g_v4 (pc := 140) (M' := mt_M_tagEnd) dc_M_markupEnd_140 mo_M_tagEnd im_M_tagEnd se_M_tagEnd ln_M_265 (mp_o hA) rfl rfl (Nat.le_of_ble_eq_true rfl) (Nat.le_of_ble_eq_true rfl) (am_G.mono (ht S2 hX2 hz4) ?_)
  intro r h1 hz
  obtain ⟨hy1, S1, T1, hy2, hy3, hy4, hy5, hy6⟩ := hz
  rw [hy1, hy2]
  refine ⟨am_nti _, ?_⟩
  exact g_ireturn dc_M_markupEnd_143 rfl ⟨rfl, S1, T1, rfl, pgA.tr hz3 hy3, hy4, hy5, hy6⟩
theorem k_M_markupEnd {S : MS} (hA : A.length = 84) (hbL : btg L) (hL8 : L.length ≤ 7999) (hs : s + L.length ≤ 24000) (hX : tx S.texts s L) (hR : rdS S T V Wd D bo) (hka : ka < T.length ∧ gT T ka = D) (hV : ∀ q, nxW 28 L p = some q → V.flatten.length + (q.2 - q.1) ≤ 8000 ∧ V.length < 1000) (hr : ∀ E, bo = none → bsO L D bo p = some E → E ∈ T ∨ T.length < 3500) (hp : pl ≤ p) (hp2 : p < L.length) (hc : Wd.length ≤ Wd.flatten.length) (hB : Wd.flatten.length + Wd.length + (p - pl) ≤ 8000) (hk : kdA L p = 2) (hn : gx L (p + 1) = 47) : am_G X mt_M_markupEnd (d + 7) 104 [some (.ref 84), some (.int (nI (s + p))), some (.int (nI (s + L.length))), some (.int (nI ka)), some (.int (nI (s + pl))), none, none, some (.int 0), some (.int 1), none] [] (mput A S B) (fun r h1 => r = some (.int (nI (s + nxT L p))) ∧ ∃ S1 T1, h1 = mput A S1 B ∧ pgA S S1 ∧ rdS S1 T1 (V ++ pvl L p) (Wd ++ spl (dcd L pl p) 0) D (bsO L D bo p) ∧ T <+: T1 ∧ ∀ x, x ∈ T1 → x ∈ T ∨ (bo = none ∧ bsO L D bo p = some x)) := by
  have hF : tgF L p = p + 2 := if_pos hn
  have hC : tgC L p = true := decide_eq_true hn
  have ht := fun S2 (hX2 : tx (MS.texts S2) s L) (hz4 : rdS S2 T V (Wd ++ spl (dcd L pl p) 0) D bo) => c_M_tagEnd (X := X) (d := d) (S := S2) (p := p) (A := A) (B := B) hA hbL hL8 hs hk hX2 hz4 hka hV hr
  rw [hF, hC] at ht
  refine g_aload_n (pc := 104) dc_M_markupEnd_104 rfl ?_
  refine g_iload (pc := 105) dc_M_markupEnd_105 rfl ?_
  refine g_iload_n (pc := 107) dc_M_markupEnd_107 rfl ?_
  refine g_v2 (pc := 108) (M' := mt_M_flush) dc_M_markupEnd_108 mo_M_flush im_M_flush se_M_flush ln_M_261 (mp_o hA) rfl rfl (Nat.le_of_ble_eq_true rfl) (Nat.le_of_ble_eq_true rfl) (am_G.mono (c_M_flush (d := d) (f := pl) (t := p) hA hbL hL8 hs hX hR hp (by omega) hc hB) ?_)
  intro r h1 hz
  obtain ⟨hz1, S2, hz2, hz3, hz4⟩ := hz
  rw [hz1, hz2]
  clear hz1 hz2 h1 r
  have hX2 : tx S2.texts s L := by rw [hz3.texts]; exact hX
  refine ⟨am_nt0, ?_⟩
  refine g_iload (pc := 111) dc_M_markupEnd_111 rfl ?_
  refine g_if_ne (pc := 113) (tgt := 121) dc_M_markupEnd_113 rfl (fun hc => absurd hc (by decide)) (fun _ => ?_)
  refine g_iload (pc := 116) dc_M_markupEnd_116 rfl ?_
  refine g_if_eq (pc := 118) (tgt := 144) dc_M_markupEnd_118 rfl (fun hc => absurd hc (by decide)) (fun _ => ?_)
  refine g_aload_n (pc := 121) dc_M_markupEnd_121 rfl ?_
  refine g_iload (pc := 122) dc_M_markupEnd_122 rfl ?_
  refine g_if_eq (pc := 124) (tgt := 133) dc_M_markupEnd_124 rfl (fun _ => ?_) (fun hc => absurd hc (by decide))
  refine g_iload_n (pc := 133) dc_M_markupEnd_133 rfl ?_
  refine g_iconst (pc := 134) (v := 2) dc_M_markupEnd_134 rfl ?_
  refine g_iadd (pc := 135) (v := (nI (s + (p + 2)))) dc_M_markupEnd_135 (q_as s p 2) ?_
  refine g_iload_n (pc := 136) dc_M_markupEnd_136 rfl ?_
  refine g_iload (pc := 137) dc_M_markupEnd_137 rfl ?_
  refine g_iload_n (pc := 139) dc_M_markupEnd_139 rfl ?_
  refine g_v4 (pc := 140) (M' := mt_M_tagEnd) dc_M_markupEnd_140 mo_M_tagEnd im_M_tagEnd se_M_tagEnd ln_M_265 (mp_o hA) rfl rfl (Nat.le_of_ble_eq_true rfl) (Nat.le_of_ble_eq_true rfl) (am_G.mono (ht S2 hX2 hz4) ?_)
  intro r h1 hz
  obtain ⟨hy1, S1, T1, hy2, hy3, hy4, hy5, hy6⟩ := hz
  rw [hy1, hy2]
  refine ⟨am_nti _, ?_⟩
  exact g_ireturn dc_M_markupEnd_143 rfl ⟨rfl, S1, T1, rfl, pgA.tr hz3 hy3, hy4, hy5, hy6⟩
theorem x_M_markupEnd {S : MS} (hA : A.length = 84) (hbL : btg L) (hL8 : L.length ≤ 7999) (hs : s + L.length ≤ 24000) (hX : tx S.texts s L) (hR : rdS S T V Wd D bo) (hka : ka < T.length ∧ gT T ka = D) (hV : ∀ q, nxW 28 L p = some q → V.flatten.length + (q.2 - q.1) ≤ 8000 ∧ V.length < 1000) (hr : ∀ E, bo = none → bsO L D bo p = some E → E ∈ T ∨ T.length < 3500) (hp : pl ≤ p) (hp2 : p < L.length) (hc : Wd.length ≤ Wd.flatten.length) (hB : Wd.flatten.length + Wd.length + (p - pl) ≤ 8000) (hk : kdA L p = 3) (h60 : gx L p = 60) (h1l : p + 1 < L.length) (hw6 : p + 2 < L.length → w6 = gx L (p + 2)) (hw7 : ¬ p + 2 < L.length → w6 = -1) : am_G X mt_M_markupEnd (d + 7) 104 [some (.ref 84), some (.int (nI (s + p))), some (.int (nI (s + L.length))), some (.int (nI ka)), some (.int (nI (s + pl))), some (.int (gx L (p + 1))), some (.int w6), some (.int 0), some (.int 0), none] [] (mput A S B) (fun r h1 => r = some (.int (nI (s + nxT L p))) ∧ ∃ S1 T1, h1 = mput A S1 B ∧ pgA S S1 ∧ rdS S1 T1 (V ++ pvl L p) (Wd ++ spl (dcd L pl p) 0) D (bsO L D bo p) ∧ T <+: T1 ∧ ∀ x, x ∈ T1 → x ∈ T ∨ (bo = none ∧ bsO L D bo p = some x)) := by
  have hn0 : nxH L p = none := if_neg (fun h9 => by rw [hk] at h9; exact absurd h9.1 (by decide))
  have hnx : nxT L p = rmT L p := by unfold nxT; rw [if_neg (by rw [hk]; decide), if_pos hk]
  rw [bsO_n (nxW_h hn0), pvl_n (nxW_h hn0), List.append_nil, hnx]
  refine g_aload_n (pc := 104) dc_M_markupEnd_104 rfl ?_
  refine g_iload (pc := 105) dc_M_markupEnd_105 rfl ?_
  refine g_iload_n (pc := 107) dc_M_markupEnd_107 rfl ?_
  refine g_v2 (pc := 108) (M' := mt_M_flush) dc_M_markupEnd_108 mo_M_flush im_M_flush se_M_flush ln_M_261 (mp_o hA) rfl rfl (Nat.le_of_ble_eq_true rfl) (Nat.le_of_ble_eq_true rfl) (am_G.mono (c_M_flush (d := d) (f := pl) (t := p) hA hbL hL8 hs hX hR hp (by omega) hc hB) ?_)
  intro r h1 hz
  obtain ⟨hz1, S2, hz2, hz3, hz4⟩ := hz
  rw [hz1, hz2]
  clear hz1 hz2 h1 r
  have hX2 : tx S2.texts s L := by rw [hz3.texts]; exact hX
  refine ⟨am_nt0, ?_⟩
  refine g_iload (pc := 111) dc_M_markupEnd_111 rfl ?_
  refine g_if_ne (pc := 113) (tgt := 121) dc_M_markupEnd_113 rfl (fun hc => absurd hc (by decide)) (fun _ => ?_)
  refine g_iload (pc := 116) dc_M_markupEnd_116 rfl ?_
  refine g_if_eq (pc := 118) (tgt := 144) dc_M_markupEnd_118 rfl (fun _ => ?_) (fun hc => absurd hc (by decide))
  refine g_iload (pc := 144) dc_M_markupEnd_144 rfl ?_
  refine g_bipush (pc := 146) (v := 33) dc_M_markupEnd_146 rfl ?_
  refine g_icmp_ne (pc := 148) (tgt := 190) dc_M_markupEnd_148 rfl (fun hc148 => ?_) (fun hc148 => ?_)
  · refine g_aload_n (pc := 190) dc_M_markupEnd_190 rfl ?_
    refine g_getfield (pc := 191) dc_M_markupEnd_191 fl_M_140 (mp_o hA) rfl ?_
    refine g_iload_n (pc := 194) dc_M_markupEnd_194 rfl ?_
    refine g_iconst (pc := 195) (v := 1) dc_M_markupEnd_195 rfl ?_
    refine g_iadd (pc := 196) (v := (nI (s + (p + 1)))) dc_M_markupEnd_196 (q_as s p 1) ?_
    refine g_iload_n (pc := 197) dc_M_markupEnd_197 rfl ?_
    refine g_bipush (pc := 198) (v := 62) dc_M_markupEnd_198 rfl ?_
    refine g_s4 (pc := 200) (M' := mt_M_seek) dc_M_markupEnd_200 mo_M_seek st_M_seek ln_M_48 (Nat.le_of_ble_eq_true rfl) (Nat.le_of_ble_eq_true rfl) (am_G.mono (t_M_seek (v := 62) (f := p + 1) (t := L.length) (tt_txt hA hX2 hs) (by omega) (by omega)) ?_)
    intro r h1 hq
    rw [hq.1, hq.2]
    clear hq h1 r
    refine ⟨am_nti _, ?_⟩
    have hb200 := fw_bd (p := nev 62) (L := L) (f := p + 1) (t := L.length) (by omega)
    refine g_istore (pc := 203) dc_M_markupEnd_203 (by decide) ?_
    show am_G X mt_M_markupEnd _ 205 [some (.ref 84), some (.int (nI (s + p))), some (.int (nI (s + L.length))), some (.int (nI ka)), some (.int (nI (s + pl))), some (.int (gx L (p + 1))), some (.int w6), some (.int 0), some (.int 0), some (.int (nI (s + (fw (nev 62) L (p + 1) L.length))))] [] _ _
    refine g_iload (pc := 205) dc_M_markupEnd_205 rfl ?_
    refine g_iload_n (pc := 207) dc_M_markupEnd_207 rfl ?_
    refine q_icmp_ge (pc := 208) (tgt := 218) (s + (fw (nev 62) L (p + 1) L.length)) (s + L.length) dc_M_markupEnd_208 (by omega) (by omega) rfl (fun hc208 => ?_) (fun hc208 => ?_)
    · refine g_iload_n (pc := 218) dc_M_markupEnd_218 rfl ?_
      exact g_ireturn dc_M_markupEnd_219 rfl (by have h6 : fw (nev 62) L p L.length = fw (nev 62) L (p + 1) L.length := fw_t hp2 (by rw [h60]; decide); exact ⟨by unfold rmT; rw [if_neg (fun h9 => hc148 (bgw_rm.mp h9).2.2.1), h6, show Nat.min (fw (nev 62) L (p + 1) L.length + 1) L.length = L.length from by show min _ _ = _; omega], S2, T, rfl, hz3, hz4, List.prefix_rfl, fun x hx => Or.inl hx⟩)
    · refine g_iload (pc := 211) dc_M_markupEnd_211 rfl ?_
      refine g_iconst (pc := 213) (v := 1) dc_M_markupEnd_213 rfl ?_
      refine g_iadd (pc := 214) (v := (nI (s + (fw (nev 62) L (p + 1) L.length + 1)))) dc_M_markupEnd_214 (q_as s (fw (nev 62) L (p + 1) L.length) 1) ?_
      refine g_goto (pc := 215) (tgt := 219) dc_M_markupEnd_215 rfl ?_
      exact g_ireturn dc_M_markupEnd_219 rfl (by have h6 : fw (nev 62) L p L.length = fw (nev 62) L (p + 1) L.length := fw_t hp2 (by rw [h60]; decide); exact ⟨by unfold rmT; rw [if_neg (fun h9 => hc148 (bgw_rm.mp h9).2.2.1), h6, show Nat.min (fw (nev 62) L (p + 1) L.length + 1) L.length = (fw (nev 62) L (p + 1) L.length + 1) from by show min _ _ = _; omega], S2, T, rfl, hz3, hz4, List.prefix_rfl, fun x hx => Or.inl hx⟩)
  · refine g_iload (pc := 151) dc_M_markupEnd_151 rfl ?_
    refine g_bipush (pc := 153) (v := 45) dc_M_markupEnd_153 rfl ?_
    refine g_icmp_ne (pc := 155) (tgt := 190) dc_M_markupEnd_155 rfl (fun hc155 => ?_) (fun hc155 => ?_)
    · refine g_aload_n (pc := 190) dc_M_markupEnd_190 rfl ?_
      refine g_getfield (pc := 191) dc_M_markupEnd_191 fl_M_140 (mp_o hA) rfl ?_
      refine g_iload_n (pc := 194) dc_M_markupEnd_194 rfl ?_
      refine g_iconst (pc := 195) (v := 1) dc_M_markupEnd_195 rfl ?_
      refine g_iadd (pc := 196) (v := (nI (s + (p + 1)))) dc_M_markupEnd_196 (q_as s p 1) ?_
      refine g_iload_n (pc := 197) dc_M_markupEnd_197 rfl ?_
      refine g_bipush (pc := 198) (v := 62) dc_M_markupEnd_198 rfl ?_
      refine g_s4 (pc := 200) (M' := mt_M_seek) dc_M_markupEnd_200 mo_M_seek st_M_seek ln_M_48 (Nat.le_of_ble_eq_true rfl) (Nat.le_of_ble_eq_true rfl) (am_G.mono (t_M_seek (v := 62) (f := p + 1) (t := L.length) (tt_txt hA hX2 hs) (by omega) (by omega)) ?_)
      intro r h1 hq
      rw [hq.1, hq.2]
      clear hq h1 r
      refine ⟨am_nti _, ?_⟩
      have hb200 := fw_bd (p := nev 62) (L := L) (f := p + 1) (t := L.length) (by omega)
      refine g_istore (pc := 203) dc_M_markupEnd_203 (by decide) ?_
      show am_G X mt_M_markupEnd _ 205 [some (.ref 84), some (.int (nI (s + p))), some (.int (nI (s + L.length))), some (.int (nI ka)), some (.int (nI (s + pl))), some (.int (gx L (p + 1))), some (.int w6), some (.int 0), some (.int 0), some (.int (nI (s + (fw (nev 62) L (p + 1) L.length))))] [] _ _
      refine g_iload (pc := 205) dc_M_markupEnd_205 rfl ?_
      refine g_iload_n (pc := 207) dc_M_markupEnd_207 rfl ?_
      refine q_icmp_ge (pc := 208) (tgt := 218) (s + (fw (nev 62) L (p + 1) L.length)) (s + L.length) dc_M_markupEnd_208 (by omega) (by omega) rfl (fun hc208 => ?_) (fun hc208 => ?_)
      · refine g_iload_n (pc := 218) dc_M_markupEnd_218 rfl ?_
        exact g_ireturn dc_M_markupEnd_219 rfl (by have h6 : fw (nev 62) L p L.length = fw (nev 62) L (p + 1) L.length := fw_t hp2 (by rw [h60]; decide); exact ⟨by unfold rmT; rw [if_neg (fun h9 => hc155 ((hw6 (by have := (bgw_rm.mp h9).1; omega)).trans (bgw_rm.mp h9).2.2.2.1)), h6, show Nat.min (fw (nev 62) L (p + 1) L.length + 1) L.length = L.length from by show min _ _ = _; omega], S2, T, rfl, hz3, hz4, List.prefix_rfl, fun x hx => Or.inl hx⟩)
      · refine g_iload (pc := 211) dc_M_markupEnd_211 rfl ?_
        refine g_iconst (pc := 213) (v := 1) dc_M_markupEnd_213 rfl ?_
        refine g_iadd (pc := 214) (v := (nI (s + (fw (nev 62) L (p + 1) L.length + 1)))) dc_M_markupEnd_214 (q_as s (fw (nev 62) L (p + 1) L.length) 1) ?_
        refine g_goto (pc := 215) (tgt := 219) dc_M_markupEnd_215 rfl ?_
        exact g_ireturn dc_M_markupEnd_219 rfl (by have h6 : fw (nev 62) L p L.length = fw (nev 62) L (p + 1) L.length := fw_t hp2 (by rw [h60]; decide); exact ⟨by unfold rmT; rw [if_neg (fun h9 => hc155 ((hw6 (by have := (bgw_rm.mp h9).1; omega)).trans (bgw_rm.mp h9).2.2.2.1)), h6, show Nat.min (fw (nev 62) L (p + 1) L.length + 1) L.length = (fw (nev 62) L (p + 1) L.length + 1) from by show min _ _ = _; omega], S2, T, rfl, hz3, hz4, List.prefix_rfl, fun x hx => Or.inl hx⟩)
    · refine g_iload_n (pc := 158) dc_M_markupEnd_158 rfl ?_
      refine g_iconst (pc := 159) (v := 3) dc_M_markupEnd_159 rfl ?_
      refine g_iadd (pc := 160) (v := (nI (s + (p + 3)))) dc_M_markupEnd_160 (q_as s p 3) ?_
      refine g_iload_n (pc := 161) dc_M_markupEnd_161 rfl ?_
      refine q_icmp_ge (pc := 162) (tgt := 190) (s + (p + 3)) (s + L.length) dc_M_markupEnd_162 (by omega) (by omega) rfl (fun hc162 => ?_) (fun hc162 => ?_)
      · refine g_aload_n (pc := 190) dc_M_markupEnd_190 rfl ?_
        refine g_getfield (pc := 191) dc_M_markupEnd_191 fl_M_140 (mp_o hA) rfl ?_
        refine g_iload_n (pc := 194) dc_M_markupEnd_194 rfl ?_
        refine g_iconst (pc := 195) (v := 1) dc_M_markupEnd_195 rfl ?_
        refine g_iadd (pc := 196) (v := (nI (s + (p + 1)))) dc_M_markupEnd_196 (q_as s p 1) ?_
        refine g_iload_n (pc := 197) dc_M_markupEnd_197 rfl ?_
        refine g_bipush (pc := 198) (v := 62) dc_M_markupEnd_198 rfl ?_
        refine g_s4 (pc := 200) (M' := mt_M_seek) dc_M_markupEnd_200 mo_M_seek st_M_seek ln_M_48 (Nat.le_of_ble_eq_true rfl) (Nat.le_of_ble_eq_true rfl) (am_G.mono (t_M_seek (v := 62) (f := p + 1) (t := L.length) (tt_txt hA hX2 hs) (by omega) (by omega)) ?_)
        intro r h1 hq
        rw [hq.1, hq.2]
        clear hq h1 r
        refine ⟨am_nti _, ?_⟩
        have hb200 := fw_bd (p := nev 62) (L := L) (f := p + 1) (t := L.length) (by omega)
        refine g_istore (pc := 203) dc_M_markupEnd_203 (by decide) ?_
        show am_G X mt_M_markupEnd _ 205 [some (.ref 84), some (.int (nI (s + p))), some (.int (nI (s + L.length))), some (.int (nI ka)), some (.int (nI (s + pl))), some (.int (gx L (p + 1))), some (.int w6), some (.int 0), some (.int 0), some (.int (nI (s + (fw (nev 62) L (p + 1) L.length))))] [] _ _
        refine g_iload (pc := 205) dc_M_markupEnd_205 rfl ?_
        refine g_iload_n (pc := 207) dc_M_markupEnd_207 rfl ?_
        refine q_icmp_ge (pc := 208) (tgt := 218) (s + (fw (nev 62) L (p + 1) L.length)) (s + L.length) dc_M_markupEnd_208 (by omega) (by omega) rfl (fun hc208 => ?_) (fun hc208 => ?_)
        · refine g_iload_n (pc := 218) dc_M_markupEnd_218 rfl ?_
          exact g_ireturn dc_M_markupEnd_219 rfl (by have h6 : fw (nev 62) L p L.length = fw (nev 62) L (p + 1) L.length := fw_t hp2 (by rw [h60]; decide); exact ⟨by unfold rmT; rw [if_neg (fun h9 => absurd (bgw_rm.mp h9).1 (by omega)), h6, show Nat.min (fw (nev 62) L (p + 1) L.length + 1) L.length = L.length from by show min _ _ = _; omega], S2, T, rfl, hz3, hz4, List.prefix_rfl, fun x hx => Or.inl hx⟩)
        · refine g_iload (pc := 211) dc_M_markupEnd_211 rfl ?_
          refine g_iconst (pc := 213) (v := 1) dc_M_markupEnd_213 rfl ?_
          refine g_iadd (pc := 214) (v := (nI (s + (fw (nev 62) L (p + 1) L.length + 1)))) dc_M_markupEnd_214 (q_as s (fw (nev 62) L (p + 1) L.length) 1) ?_
          refine g_goto (pc := 215) (tgt := 219) dc_M_markupEnd_215 rfl ?_
          exact g_ireturn dc_M_markupEnd_219 rfl (by have h6 : fw (nev 62) L p L.length = fw (nev 62) L (p + 1) L.length := fw_t hp2 (by rw [h60]; decide); exact ⟨by unfold rmT; rw [if_neg (fun h9 => absurd (bgw_rm.mp h9).1 (by omega)), h6, show Nat.min (fw (nev 62) L (p + 1) L.length + 1) L.length = (fw (nev 62) L (p + 1) L.length + 1) from by show min _ _ = _; omega], S2, T, rfl, hz3, hz4, List.prefix_rfl, fun x hx => Or.inl hx⟩)
      · refine g_aload_n (pc := 165) dc_M_markupEnd_165 rfl ?_
        refine g_getfield (pc := 166) dc_M_markupEnd_166 fl_M_140 (mp_o hA) rfl ?_
        refine g_iload_n (pc := 169) dc_M_markupEnd_169 rfl ?_
        refine g_iconst (pc := 170) (v := 3) dc_M_markupEnd_170 rfl ?_
        refine g_iadd (pc := 171) (v := (nI (s + (p + 3)))) dc_M_markupEnd_171 (q_as s p 3) ?_
        refine q_tx (pc := 172) (p + 3) dc_M_markupEnd_172 (mp_a hA 12 rfl) hX2 hs (by omega) (by omega) ?_
        refine g_bipush (pc := 173) (v := 45) dc_M_markupEnd_173 rfl ?_
        refine g_icmp_ne (pc := 175) (tgt := 190) dc_M_markupEnd_175 rfl (fun hc175 => ?_) (fun hc175 => ?_)
        · refine g_aload_n (pc := 190) dc_M_markupEnd_190 rfl ?_
          refine g_getfield (pc := 191) dc_M_markupEnd_191 fl_M_140 (mp_o hA) rfl ?_
          refine g_iload_n (pc := 194) dc_M_markupEnd_194 rfl ?_
          refine g_iconst (pc := 195) (v := 1) dc_M_markupEnd_195 rfl ?_
          refine g_iadd (pc := 196) (v := (nI (s + (p + 1)))) dc_M_markupEnd_196 (q_as s p 1) ?_
          refine g_iload_n (pc := 197) dc_M_markupEnd_197 rfl ?_
          refine g_bipush (pc := 198) (v := 62) dc_M_markupEnd_198 rfl ?_
          refine g_s4 (pc := 200) (M' := mt_M_seek) dc_M_markupEnd_200 mo_M_seek st_M_seek ln_M_48 (Nat.le_of_ble_eq_true rfl) (Nat.le_of_ble_eq_true rfl) (am_G.mono (t_M_seek (v := 62) (f := p + 1) (t := L.length) (tt_txt hA hX2 hs) (by omega) (by omega)) ?_)
          intro r h1 hq
          rw [hq.1, hq.2]
          clear hq h1 r
          refine ⟨am_nti _, ?_⟩
          have hb200 := fw_bd (p := nev 62) (L := L) (f := p + 1) (t := L.length) (by omega)
          refine g_istore (pc := 203) dc_M_markupEnd_203 (by decide) ?_
          show am_G X mt_M_markupEnd _ 205 [some (.ref 84), some (.int (nI (s + p))), some (.int (nI (s + L.length))), some (.int (nI ka)), some (.int (nI (s + pl))), some (.int (gx L (p + 1))), some (.int w6), some (.int 0), some (.int 0), some (.int (nI (s + (fw (nev 62) L (p + 1) L.length))))] [] _ _
          refine g_iload (pc := 205) dc_M_markupEnd_205 rfl ?_
          refine g_iload_n (pc := 207) dc_M_markupEnd_207 rfl ?_
          refine q_icmp_ge (pc := 208) (tgt := 218) (s + (fw (nev 62) L (p + 1) L.length)) (s + L.length) dc_M_markupEnd_208 (by omega) (by omega) rfl (fun hc208 => ?_) (fun hc208 => ?_)
          · refine g_iload_n (pc := 218) dc_M_markupEnd_218 rfl ?_
            exact g_ireturn dc_M_markupEnd_219 rfl (by have h6 : fw (nev 62) L p L.length = fw (nev 62) L (p + 1) L.length := fw_t hp2 (by rw [h60]; decide); exact ⟨by unfold rmT; rw [if_neg (fun h9 => hc175 (bgw_rm.mp h9).2.2.2.2), h6, show Nat.min (fw (nev 62) L (p + 1) L.length + 1) L.length = L.length from by show min _ _ = _; omega], S2, T, rfl, hz3, hz4, List.prefix_rfl, fun x hx => Or.inl hx⟩)
          · refine g_iload (pc := 211) dc_M_markupEnd_211 rfl ?_
            refine g_iconst (pc := 213) (v := 1) dc_M_markupEnd_213 rfl ?_
            refine g_iadd (pc := 214) (v := (nI (s + (fw (nev 62) L (p + 1) L.length + 1)))) dc_M_markupEnd_214 (q_as s (fw (nev 62) L (p + 1) L.length) 1) ?_
            refine g_goto (pc := 215) (tgt := 219) dc_M_markupEnd_215 rfl ?_
            exact g_ireturn dc_M_markupEnd_219 rfl (by have h6 : fw (nev 62) L p L.length = fw (nev 62) L (p + 1) L.length := fw_t hp2 (by rw [h60]; decide); exact ⟨by unfold rmT; rw [if_neg (fun h9 => hc175 (bgw_rm.mp h9).2.2.2.2), h6, show Nat.min (fw (nev 62) L (p + 1) L.length + 1) L.length = (fw (nev 62) L (p + 1) L.length + 1) from by show min _ _ = _; omega], S2, T, rfl, hz3, hz4, List.prefix_rfl, fun x hx => Or.inl hx⟩)
        · refine g_aload_n (pc := 178) dc_M_markupEnd_178 rfl ?_
          refine g_getfield (pc := 179) dc_M_markupEnd_179 fl_M_140 (mp_o hA) rfl ?_
          refine g_iload_n (pc := 182) dc_M_markupEnd_182 rfl ?_
          refine g_iconst (pc := 183) (v := 4) dc_M_markupEnd_183 rfl ?_
          refine g_iadd (pc := 184) (v := (nI (s + (p + 4)))) dc_M_markupEnd_184 (q_as s p 4) ?_
          refine g_iload_n (pc := 185) dc_M_markupEnd_185 rfl ?_
          refine g_s3 (pc := 186) (M' := mt_M_remarkEnd) dc_M_markupEnd_186 mo_M_remarkEnd st_M_remarkEnd ln_M_269 (Nat.le_of_ble_eq_true rfl) (Nat.le_of_ble_eq_true rfl) (am_G.mono (t_M_remarkEnd (f := p + 4) (t := L.length) (tt_txt hA hX2 hs) (by omega) (Nat.le_refl _)) ?_)
          intro r h1 hq
          rw [hq.1, hq.2]
          clear hq h1 r
          refine ⟨am_nti _, ?_⟩
          exact g_ireturn dc_M_markupEnd_189 rfl (by have hwe : w6 = gx L (p + 2) := hw6 (by omega); have hbg : bgw 21 L p L.length = true := bgw_rm.mpr ⟨by omega, h60, hc148, by rw [← hwe]; exact hc155, hc175⟩; exact ⟨by unfold rmT; rw [if_pos hbg], S2, T, rfl, hz3, hz4, List.prefix_rfl, fun x hx => Or.inl hx⟩)
theorem c_M_markupEnd {S : MS} (hA : A.length = 84) (hbL : btg L) (hL8 : L.length ≤ 7999) (hs : s + L.length ≤ 24000) (hX : tx S.texts s L) (hR : rdS S T V Wd D bo) (hka : ka < T.length ∧ gT T ka = D) (hV : ∀ q, nxW 28 L p = some q → V.flatten.length + (q.2 - q.1) ≤ 8000 ∧ V.length < 1000) (hr : ∀ E, bo = none → bsO L D bo p = some E → E ∈ T ∨ T.length < 3500) (hp : pl ≤ p) (hp2 : p < L.length) (hc : Wd.length ≤ Wd.flatten.length) (hB : Wd.flatten.length + Wd.length + (p - pl) ≤ 8000) (h60 : gx L p = 60) (hk1 : ¬ kdA L p = 1) : am_C X mt_M_markupEnd (d + 7) [.ref 84, .int (nI (s + p)), .int (nI (s + L.length)), .int (nI ka), .int (nI (s + pl))] (mput A S B) (fun r h1 => r = some (.int (nI (s + nxT L p))) ∧ ∃ S1 T1, h1 = mput A S1 B ∧ pgA S S1 ∧ rdS S1 T1 (V ++ pvl L p) (Wd ++ spl (dcd L pl p) 0) D (bsO L D bo p) ∧ T <+: T1 ∧ ∀ x, x ∈ T1 → x ∈ T ∨ (bo = none ∧ bsO L D bo p = some x)) := by
  show am_G X mt_M_markupEnd (d + 7) 0 [some (.ref 84), some (.int (nI (s + p))), some (.int (nI (s + L.length))), some (.int (nI ka)), some (.int (nI (s + pl))), none, none, none, none, none] [] (mput A S B) _
  have hkd : kdA L p = if isLe (gx L (p + 1)) = true ∨ (gx L (p + 1) = 47 ∧ p + 2 < L.length ∧ isLe (gx L (p + 2)) = true) then 2 else if gx L (p + 1) = 33 ∨ gx L (p + 1) = 63 ∨ gx L (p + 1) = 47 then 3 else 1 := by
    unfold kdA at hk1 ⊢
    by_cases h9 : gx L p = 60 ∧ p + 1 < L.length
    · rw [if_pos h9]
    · rw [if_neg h9] at hk1; exact absurd rfl hk1
  have h1l : p + 1 < L.length := by
    refine Nat.lt_of_not_le (fun h9 => hk1 ?_)
    unfold kdA
    rw [if_neg (fun h8 => absurd h8.2 (by omega))]
  by_cases h2l : p + 2 < L.length
  · refine g_iload_n (pc := 0) dc_M_markupEnd_0 rfl ?_
    refine g_iconst (pc := 1) (v := 1) dc_M_markupEnd_1 rfl ?_
    refine g_iadd (pc := 2) (v := (nI (s + (p + 1)))) dc_M_markupEnd_2 (q_as s p 1) ?_
    refine g_iload_n (pc := 3) dc_M_markupEnd_3 rfl ?_
    refine q_icmp_ge (pc := 4) (tgt := 18) (s + (p + 1)) (s + L.length) dc_M_markupEnd_4 (by omega) (by omega) rfl (fun hc => absurd hc (by omega)) (fun hc4 => ?_)
    refine g_aload_n (pc := 7) dc_M_markupEnd_7 rfl ?_
    refine g_getfield (pc := 8) dc_M_markupEnd_8 fl_M_140 (mp_o hA) rfl ?_
    refine g_iload_n (pc := 11) dc_M_markupEnd_11 rfl ?_
    refine g_iconst (pc := 12) (v := 1) dc_M_markupEnd_12 rfl ?_
    refine g_iadd (pc := 13) (v := (nI (s + (p + 1)))) dc_M_markupEnd_13 (q_as s p 1) ?_
    refine q_tx (pc := 14) (p + 1) dc_M_markupEnd_14 (mp_a hA 12 rfl) hX hs (by omega) (by omega) ?_
    refine g_goto (pc := 15) (tgt := 19) dc_M_markupEnd_15 rfl ?_
    refine g_istore (pc := 19) dc_M_markupEnd_19 (by decide) ?_
    show am_G X mt_M_markupEnd _ 21 [some (.ref 84), some (.int (nI (s + p))), some (.int (nI (s + L.length))), some (.int (nI ka)), some (.int (nI (s + pl))), some (.int (gx L (p + 1))), none, none, none, none] [] _ _
    refine g_iload_n (pc := 21) dc_M_markupEnd_21 rfl ?_
    refine g_iconst (pc := 22) (v := 2) dc_M_markupEnd_22 rfl ?_
    refine g_iadd (pc := 23) (v := (nI (s + (p + 2)))) dc_M_markupEnd_23 (q_as s p 2) ?_
    refine g_iload_n (pc := 24) dc_M_markupEnd_24 rfl ?_
    refine q_icmp_ge (pc := 25) (tgt := 39) (s + (p + 2)) (s + L.length) dc_M_markupEnd_25 (by omega) (by omega) rfl (fun hc => absurd hc (by omega)) (fun hc25 => ?_)
    refine g_aload_n (pc := 28) dc_M_markupEnd_28 rfl ?_
    refine g_getfield (pc := 29) dc_M_markupEnd_29 fl_M_140 (mp_o hA) rfl ?_
    refine g_iload_n (pc := 32) dc_M_markupEnd_32 rfl ?_
    refine g_iconst (pc := 33) (v := 2) dc_M_markupEnd_33 rfl ?_
    refine g_iadd (pc := 34) (v := (nI (s + (p + 2)))) dc_M_markupEnd_34 (q_as s p 2) ?_
    refine q_tx (pc := 35) (p + 2) dc_M_markupEnd_35 (mp_a hA 12 rfl) hX hs (by omega) (by omega) ?_
    refine g_goto (pc := 36) (tgt := 40) dc_M_markupEnd_36 rfl ?_
    refine g_istore (pc := 40) dc_M_markupEnd_40 (by decide) ?_
    show am_G X mt_M_markupEnd _ 42 [some (.ref 84), some (.int (nI (s + p))), some (.int (nI (s + L.length))), some (.int (nI ka)), some (.int (nI (s + pl))), some (.int (gx L (p + 1))), some (.int (gx L (p + 2))), none, none, none] [] _ _
    refine g_iload (pc := 42) dc_M_markupEnd_42 rfl ?_
    refine g_s1 (pc := 44) (M' := mt_M_isLetter) dc_M_markupEnd_44 mo_M_isLetter st_M_isLetter ln_M_58 (Nat.le_of_ble_eq_true rfl) (Nat.le_of_ble_eq_true rfl) (am_G.mono (c_M_isLetter (v := (gx L (p + 1)))) ?_)
    intro r h1 hq
    rw [hq.1, hq.2]
    clear hq h1 r
    refine ⟨am_nti _, ?_⟩
    refine g_istore (pc := 47) dc_M_markupEnd_47 (by decide) ?_
    show am_G X mt_M_markupEnd _ 49 [some (.ref 84), some (.int (nI (s + p))), some (.int (nI (s + L.length))), some (.int (nI ka)), some (.int (nI (s + pl))), some (.int (gx L (p + 1))), some (.int (gx L (p + 2))), some (.int (b1 (isLe (gx L (p + 1))))), none, none] [] _ _
    refine g_iload (pc := 49) dc_M_markupEnd_49 rfl ?_
    refine g_bipush (pc := 51) (v := 47) dc_M_markupEnd_51 rfl ?_
    refine g_icmp_ne (pc := 53) (tgt := 68) dc_M_markupEnd_53 rfl (fun hc53 => ?_) (fun hc53 => ?_)
    · refine g_iconst (pc := 68) (v := 0) dc_M_markupEnd_68 rfl ?_
      refine g_istore (pc := 69) dc_M_markupEnd_69 (by decide) ?_
      show am_G X mt_M_markupEnd _ 71 [some (.ref 84), some (.int (nI (s + p))), some (.int (nI (s + L.length))), some (.int (nI ka)), some (.int (nI (s + pl))), some (.int (gx L (p + 1))), some (.int (gx L (p + 2))), some (.int (b1 (isLe (gx L (p + 1))))), some (.int 0), none] [] _ _
      refine g_iload (pc := 71) dc_M_markupEnd_71 rfl ?_
      refine q_ifb_ne (pc := 73) (tgt := 104) dc_M_markupEnd_73 rfl (fun hc73 => ?_) (fun hc73 => ?_)
      · have hk : kdA L p = 2 := by rw [hkd, if_pos (Or.inl hc73)]
        have hn : ¬ gx L (p + 1) = 47 := fun h9 => by rw [h9] at hc73; exact absurd hc73 (by decide)
        rw [hc73]
        refine am_wk (am_le_s (am_le_s (am_le_s (am_le_s (am_le_s (am_le_n (am_le_n (am_le_s (am_le_n (am_le_n am_le_0)))))))))) ?_
        exact o_M_markupEnd hA hbL hL8 hs hX hR hka hV hr hp hp2 hc hB hk hn
      · refine g_iload (pc := 76) dc_M_markupEnd_76 rfl ?_
        refine g_if_ne (pc := 78) (tgt := 104) dc_M_markupEnd_78 rfl (fun hc => absurd hc (by decide)) (fun _ => ?_)
        refine g_iload (pc := 81) dc_M_markupEnd_81 rfl ?_
        refine g_bipush (pc := 83) (v := 33) dc_M_markupEnd_83 rfl ?_
        refine g_icmp_eq (pc := 85) (tgt := 104) dc_M_markupEnd_85 rfl (fun hc85 => ?_) (fun hc85 => ?_)
        · have hk : kdA L p = 3 := by rw [hkd, if_neg (fun h9 => h9.elim (fun h8 => by rw [hc73] at h8; cases h8) (fun h8 => hc53 h8.1)), if_pos (Or.inl hc85)]
          rw [hc73]
          exact x_M_markupEnd hA hbL hL8 hs hX hR hka hV hr hp hp2 hc hB hk h60 h1l (fun _ => rfl) (fun h9 => absurd h2l h9)
        · refine g_iload (pc := 88) dc_M_markupEnd_88 rfl ?_
          refine g_bipush (pc := 90) (v := 63) dc_M_markupEnd_90 rfl ?_
          refine g_icmp_eq (pc := 92) (tgt := 104) dc_M_markupEnd_92 rfl (fun hc92 => ?_) (fun hc92 => ?_)
          · have hk : kdA L p = 3 := by rw [hkd, if_neg (fun h9 => h9.elim (fun h8 => by rw [hc73] at h8; cases h8) (fun h8 => hc53 h8.1)), if_pos (Or.inr (Or.inl hc92))]
            rw [hc73]
            exact x_M_markupEnd hA hbL hL8 hs hX hR hka hV hr hp hp2 hc hB hk h60 h1l (fun _ => rfl) (fun h9 => absurd h2l h9)
          · refine g_iload (pc := 95) dc_M_markupEnd_95 rfl ?_
            refine g_bipush (pc := 97) (v := 47) dc_M_markupEnd_97 rfl ?_
            refine g_icmp_eq (pc := 99) (tgt := 104) dc_M_markupEnd_99 rfl (fun hc99 => ?_) (fun hc99 => ?_)
            · have hk : kdA L p = 3 := by rw [hkd, if_neg (fun h9 => h9.elim (fun h8 => by rw [hc73] at h8; cases h8) (fun h8 => hc53 h8.1)), if_pos (Or.inr (Or.inr hc99))]
              rw [hc73]
              exact x_M_markupEnd hA hbL hL8 hs hX hR hka hV hr hp hp2 hc hB hk h60 h1l (fun _ => rfl) (fun h9 => absurd h2l h9)
            · refine g_iconst (pc := 102) (v := (-1)) dc_M_markupEnd_102 rfl ?_
              exact g_ireturn dc_M_markupEnd_103 rfl (absurd (by rw [hkd, if_neg (fun h9 => h9.elim (fun h8 => by rw [hc73] at h8; cases h8) (fun h8 => hc53 h8.1)), if_neg (fun h9 => h9.elim hc85 (fun h8 => h8.elim hc92 hc99))]) hk1)
    · refine g_iload (pc := 56) dc_M_markupEnd_56 rfl ?_
      refine g_s1 (pc := 58) (M' := mt_M_isLetter) dc_M_markupEnd_58 mo_M_isLetter st_M_isLetter ln_M_58 (Nat.le_of_ble_eq_true rfl) (Nat.le_of_ble_eq_true rfl) (am_G.mono (c_M_isLetter (v := (gx L (p + 2)))) ?_)
      intro r h1 hq
      rw [hq.1, hq.2]
      clear hq h1 r
      refine ⟨am_nti _, ?_⟩
      refine q_ifb_eq (pc := 61) (tgt := 68) dc_M_markupEnd_61 rfl (fun hc61 => ?_) (fun hc61 => ?_)
      · refine g_iconst (pc := 68) (v := 0) dc_M_markupEnd_68 rfl ?_
        refine g_istore (pc := 69) dc_M_markupEnd_69 (by decide) ?_
        show am_G X mt_M_markupEnd _ 71 [some (.ref 84), some (.int (nI (s + p))), some (.int (nI (s + L.length))), some (.int (nI ka)), some (.int (nI (s + pl))), some (.int (gx L (p + 1))), some (.int (gx L (p + 2))), some (.int (b1 (isLe (gx L (p + 1))))), some (.int 0), none] [] _ _
        refine g_iload (pc := 71) dc_M_markupEnd_71 rfl ?_
        refine q_ifb_ne (pc := 73) (tgt := 104) dc_M_markupEnd_73 rfl (fun hc73 => ?_) (fun hc73 => ?_)
        · have hk : kdA L p = 2 := by rw [hkd, if_pos (Or.inl hc73)]
          have hn : ¬ gx L (p + 1) = 47 := fun h9 => by rw [h9] at hc73; exact absurd hc73 (by decide)
          rw [hc73]
          refine am_wk (am_le_s (am_le_s (am_le_s (am_le_s (am_le_s (am_le_n (am_le_n (am_le_s (am_le_n (am_le_n am_le_0)))))))))) ?_
          exact o_M_markupEnd hA hbL hL8 hs hX hR hka hV hr hp hp2 hc hB hk hn
        · refine g_iload (pc := 76) dc_M_markupEnd_76 rfl ?_
          refine g_if_ne (pc := 78) (tgt := 104) dc_M_markupEnd_78 rfl (fun hc => absurd hc (by decide)) (fun _ => ?_)
          refine g_iload (pc := 81) dc_M_markupEnd_81 rfl ?_
          refine g_bipush (pc := 83) (v := 33) dc_M_markupEnd_83 rfl ?_
          refine g_icmp_eq (pc := 85) (tgt := 104) dc_M_markupEnd_85 rfl (fun hc85 => ?_) (fun hc85 => ?_)
          · have hk : kdA L p = 3 := by rw [hkd, if_neg (fun h9 => h9.elim (fun h8 => by rw [hc73] at h8; cases h8) (fun h8 => by rw [hc61] at h8; exact absurd h8.2.2 (by decide))), if_pos (Or.inl hc85)]
            rw [hc73]
            exact x_M_markupEnd hA hbL hL8 hs hX hR hka hV hr hp hp2 hc hB hk h60 h1l (fun _ => rfl) (fun h9 => absurd h2l h9)
          · refine g_iload (pc := 88) dc_M_markupEnd_88 rfl ?_
            refine g_bipush (pc := 90) (v := 63) dc_M_markupEnd_90 rfl ?_
            refine g_icmp_eq (pc := 92) (tgt := 104) dc_M_markupEnd_92 rfl (fun hc92 => ?_) (fun hc92 => ?_)
            · have hk : kdA L p = 3 := by rw [hkd, if_neg (fun h9 => h9.elim (fun h8 => by rw [hc73] at h8; cases h8) (fun h8 => by rw [hc61] at h8; exact absurd h8.2.2 (by decide))), if_pos (Or.inr (Or.inl hc92))]
              rw [hc73]
              exact x_M_markupEnd hA hbL hL8 hs hX hR hka hV hr hp hp2 hc hB hk h60 h1l (fun _ => rfl) (fun h9 => absurd h2l h9)
            · refine g_iload (pc := 95) dc_M_markupEnd_95 rfl ?_
              refine g_bipush (pc := 97) (v := 47) dc_M_markupEnd_97 rfl ?_
              refine g_icmp_eq (pc := 99) (tgt := 104) dc_M_markupEnd_99 rfl (fun hc99 => ?_) (fun hc99 => ?_)
              · have hk : kdA L p = 3 := by rw [hkd, if_neg (fun h9 => h9.elim (fun h8 => by rw [hc73] at h8; cases h8) (fun h8 => by rw [hc61] at h8; exact absurd h8.2.2 (by decide))), if_pos (Or.inr (Or.inr hc99))]
                rw [hc73]
                exact x_M_markupEnd hA hbL hL8 hs hX hR hka hV hr hp hp2 hc hB hk h60 h1l (fun _ => rfl) (fun h9 => absurd h2l h9)
              · refine g_iconst (pc := 102) (v := (-1)) dc_M_markupEnd_102 rfl ?_
                exact g_ireturn dc_M_markupEnd_103 rfl (absurd (by rw [hkd, if_neg (fun h9 => h9.elim (fun h8 => by rw [hc73] at h8; cases h8) (fun h8 => by rw [hc61] at h8; exact absurd h8.2.2 (by decide))), if_neg (fun h9 => h9.elim hc85 (fun h8 => h8.elim hc92 hc99))]) hk1)
      · refine g_iconst (pc := 64) (v := 1) dc_M_markupEnd_64 rfl ?_
        refine g_goto (pc := 65) (tgt := 69) dc_M_markupEnd_65 rfl ?_
        refine g_istore (pc := 69) dc_M_markupEnd_69 (by decide) ?_
        show am_G X mt_M_markupEnd _ 71 [some (.ref 84), some (.int (nI (s + p))), some (.int (nI (s + L.length))), some (.int (nI ka)), some (.int (nI (s + pl))), some (.int (gx L (p + 1))), some (.int (gx L (p + 2))), some (.int (b1 (isLe (gx L (p + 1))))), some (.int 1), none] [] _ _
        refine g_iload (pc := 71) dc_M_markupEnd_71 rfl ?_
        refine q_ifb_ne (pc := 73) (tgt := 104) dc_M_markupEnd_73 rfl (fun hc73 => ?_) (fun hc73 => ?_)
        · have hk : kdA L p = 2 := by rw [hkd, if_pos (Or.inl hc73)]
          have hn : ¬ gx L (p + 1) = 47 := fun h9 => by rw [h9] at hc73; exact absurd hc73 (by decide)
          rw [hc73]
          refine am_wk (am_le_s (am_le_s (am_le_s (am_le_s (am_le_s (am_le_n (am_le_n (am_le_s (am_le_n (am_le_n am_le_0)))))))))) ?_
          exact o_M_markupEnd hA hbL hL8 hs hX hR hka hV hr hp hp2 hc hB hk hn
        · refine g_iload (pc := 76) dc_M_markupEnd_76 rfl ?_
          refine g_if_ne (pc := 78) (tgt := 104) dc_M_markupEnd_78 rfl (fun _ => ?_) (fun hc => absurd hc (by decide))
          have hk : kdA L p = 2 := by rw [hkd, if_pos (Or.inr ⟨hc53, h2l, hc61⟩)]
          rw [hc73]
          refine am_wk (am_le_s (am_le_s (am_le_s (am_le_s (am_le_s (am_le_n (am_le_n (am_le_s (am_le_s (am_le_n am_le_0)))))))))) ?_
          exact k_M_markupEnd hA hbL hL8 hs hX hR hka hV hr hp hp2 hc hB hk hc53
  · refine g_iload_n (pc := 0) dc_M_markupEnd_0 rfl ?_
    refine g_iconst (pc := 1) (v := 1) dc_M_markupEnd_1 rfl ?_
    refine g_iadd (pc := 2) (v := (nI (s + (p + 1)))) dc_M_markupEnd_2 (q_as s p 1) ?_
    refine g_iload_n (pc := 3) dc_M_markupEnd_3 rfl ?_
    refine q_icmp_ge (pc := 4) (tgt := 18) (s + (p + 1)) (s + L.length) dc_M_markupEnd_4 (by omega) (by omega) rfl (fun hc => absurd hc (by omega)) (fun hc4 => ?_)
    refine g_aload_n (pc := 7) dc_M_markupEnd_7 rfl ?_
    refine g_getfield (pc := 8) dc_M_markupEnd_8 fl_M_140 (mp_o hA) rfl ?_
    refine g_iload_n (pc := 11) dc_M_markupEnd_11 rfl ?_
    refine g_iconst (pc := 12) (v := 1) dc_M_markupEnd_12 rfl ?_
    refine g_iadd (pc := 13) (v := (nI (s + (p + 1)))) dc_M_markupEnd_13 (q_as s p 1) ?_
    refine q_tx (pc := 14) (p + 1) dc_M_markupEnd_14 (mp_a hA 12 rfl) hX hs (by omega) (by omega) ?_
    refine g_goto (pc := 15) (tgt := 19) dc_M_markupEnd_15 rfl ?_
    refine g_istore (pc := 19) dc_M_markupEnd_19 (by decide) ?_
    show am_G X mt_M_markupEnd _ 21 [some (.ref 84), some (.int (nI (s + p))), some (.int (nI (s + L.length))), some (.int (nI ka)), some (.int (nI (s + pl))), some (.int (gx L (p + 1))), none, none, none, none] [] _ _
    refine g_iload_n (pc := 21) dc_M_markupEnd_21 rfl ?_
    refine g_iconst (pc := 22) (v := 2) dc_M_markupEnd_22 rfl ?_
    refine g_iadd (pc := 23) (v := (nI (s + (p + 2)))) dc_M_markupEnd_23 (q_as s p 2) ?_
    refine g_iload_n (pc := 24) dc_M_markupEnd_24 rfl ?_
    refine q_icmp_ge (pc := 25) (tgt := 39) (s + (p + 2)) (s + L.length) dc_M_markupEnd_25 (by omega) (by omega) rfl (fun hc25 => ?_) (fun hc => absurd hc (by omega))
    refine g_iconst (pc := 39) (v := (-1)) dc_M_markupEnd_39 rfl ?_
    refine g_istore (pc := 40) dc_M_markupEnd_40 (by decide) ?_
    show am_G X mt_M_markupEnd _ 42 [some (.ref 84), some (.int (nI (s + p))), some (.int (nI (s + L.length))), some (.int (nI ka)), some (.int (nI (s + pl))), some (.int (gx L (p + 1))), some (.int (-1)), none, none, none] [] _ _
    refine g_iload (pc := 42) dc_M_markupEnd_42 rfl ?_
    refine g_s1 (pc := 44) (M' := mt_M_isLetter) dc_M_markupEnd_44 mo_M_isLetter st_M_isLetter ln_M_58 (Nat.le_of_ble_eq_true rfl) (Nat.le_of_ble_eq_true rfl) (am_G.mono (c_M_isLetter (v := (gx L (p + 1)))) ?_)
    intro r h1 hq
    rw [hq.1, hq.2]
    clear hq h1 r
    refine ⟨am_nti _, ?_⟩
    refine g_istore (pc := 47) dc_M_markupEnd_47 (by decide) ?_
    show am_G X mt_M_markupEnd _ 49 [some (.ref 84), some (.int (nI (s + p))), some (.int (nI (s + L.length))), some (.int (nI ka)), some (.int (nI (s + pl))), some (.int (gx L (p + 1))), some (.int (-1)), some (.int (b1 (isLe (gx L (p + 1))))), none, none] [] _ _
    refine g_iload (pc := 49) dc_M_markupEnd_49 rfl ?_
    refine g_bipush (pc := 51) (v := 47) dc_M_markupEnd_51 rfl ?_
    refine g_icmp_ne (pc := 53) (tgt := 68) dc_M_markupEnd_53 rfl (fun hc53 => ?_) (fun hc53 => ?_)
    · refine g_iconst (pc := 68) (v := 0) dc_M_markupEnd_68 rfl ?_
      refine g_istore (pc := 69) dc_M_markupEnd_69 (by decide) ?_
      show am_G X mt_M_markupEnd _ 71 [some (.ref 84), some (.int (nI (s + p))), some (.int (nI (s + L.length))), some (.int (nI ka)), some (.int (nI (s + pl))), some (.int (gx L (p + 1))), some (.int (-1)), some (.int (b1 (isLe (gx L (p + 1))))), some (.int 0), none] [] _ _
      refine g_iload (pc := 71) dc_M_markupEnd_71 rfl ?_
      refine q_ifb_ne (pc := 73) (tgt := 104) dc_M_markupEnd_73 rfl (fun hc73 => ?_) (fun hc73 => ?_)
      · have hk : kdA L p = 2 := by rw [hkd, if_pos (Or.inl hc73)]
        have hn : ¬ gx L (p + 1) = 47 := fun h9 => by rw [h9] at hc73; exact absurd hc73 (by decide)
        rw [hc73]
        refine am_wk (am_le_s (am_le_s (am_le_s (am_le_s (am_le_s (am_le_n (am_le_n (am_le_s (am_le_n (am_le_n am_le_0)))))))))) ?_
        exact o_M_markupEnd hA hbL hL8 hs hX hR hka hV hr hp hp2 hc hB hk hn
      · refine g_iload (pc := 76) dc_M_markupEnd_76 rfl ?_
        refine g_if_ne (pc := 78) (tgt := 104) dc_M_markupEnd_78 rfl (fun hc => absurd hc (by decide)) (fun _ => ?_)
        refine g_iload (pc := 81) dc_M_markupEnd_81 rfl ?_
        refine g_bipush (pc := 83) (v := 33) dc_M_markupEnd_83 rfl ?_
        refine g_icmp_eq (pc := 85) (tgt := 104) dc_M_markupEnd_85 rfl (fun hc85 => ?_) (fun hc85 => ?_)
        · have hk : kdA L p = 3 := by rw [hkd, if_neg (fun h9 => h9.elim (fun h8 => by rw [hc73] at h8; cases h8) (fun h8 => hc53 h8.1)), if_pos (Or.inl hc85)]
          rw [hc73]
          exact x_M_markupEnd hA hbL hL8 hs hX hR hka hV hr hp hp2 hc hB hk h60 h1l (fun h9 => absurd h9 h2l) (fun _ => rfl)
        · refine g_iload (pc := 88) dc_M_markupEnd_88 rfl ?_
          refine g_bipush (pc := 90) (v := 63) dc_M_markupEnd_90 rfl ?_
          refine g_icmp_eq (pc := 92) (tgt := 104) dc_M_markupEnd_92 rfl (fun hc92 => ?_) (fun hc92 => ?_)
          · have hk : kdA L p = 3 := by rw [hkd, if_neg (fun h9 => h9.elim (fun h8 => by rw [hc73] at h8; cases h8) (fun h8 => hc53 h8.1)), if_pos (Or.inr (Or.inl hc92))]
            rw [hc73]
            exact x_M_markupEnd hA hbL hL8 hs hX hR hka hV hr hp hp2 hc hB hk h60 h1l (fun h9 => absurd h9 h2l) (fun _ => rfl)
          · refine g_iload (pc := 95) dc_M_markupEnd_95 rfl ?_
            refine g_bipush (pc := 97) (v := 47) dc_M_markupEnd_97 rfl ?_
            refine g_icmp_eq (pc := 99) (tgt := 104) dc_M_markupEnd_99 rfl (fun hc99 => ?_) (fun hc99 => ?_)
            · have hk : kdA L p = 3 := by rw [hkd, if_neg (fun h9 => h9.elim (fun h8 => by rw [hc73] at h8; cases h8) (fun h8 => hc53 h8.1)), if_pos (Or.inr (Or.inr hc99))]
              rw [hc73]
              exact x_M_markupEnd hA hbL hL8 hs hX hR hka hV hr hp hp2 hc hB hk h60 h1l (fun h9 => absurd h9 h2l) (fun _ => rfl)
            · refine g_iconst (pc := 102) (v := (-1)) dc_M_markupEnd_102 rfl ?_
              exact g_ireturn dc_M_markupEnd_103 rfl (absurd (by rw [hkd, if_neg (fun h9 => h9.elim (fun h8 => by rw [hc73] at h8; cases h8) (fun h8 => hc53 h8.1)), if_neg (fun h9 => h9.elim hc85 (fun h8 => h8.elim hc92 hc99))]) hk1)
    · refine g_iload (pc := 56) dc_M_markupEnd_56 rfl ?_
      refine g_s1 (pc := 58) (M' := mt_M_isLetter) dc_M_markupEnd_58 mo_M_isLetter st_M_isLetter ln_M_58 (Nat.le_of_ble_eq_true rfl) (Nat.le_of_ble_eq_true rfl) (am_G.mono (c_M_isLetter (v := (-1))) ?_)
      intro r h1 hq
      rw [hq.1, hq.2]
      clear hq h1 r
      refine ⟨am_nti _, ?_⟩
      refine q_ifb_eq (pc := 61) (tgt := 68) dc_M_markupEnd_61 rfl (fun hc61 => ?_) (fun hc => absurd hc (by decide))
      refine g_iconst (pc := 68) (v := 0) dc_M_markupEnd_68 rfl ?_
      refine g_istore (pc := 69) dc_M_markupEnd_69 (by decide) ?_
      show am_G X mt_M_markupEnd _ 71 [some (.ref 84), some (.int (nI (s + p))), some (.int (nI (s + L.length))), some (.int (nI ka)), some (.int (nI (s + pl))), some (.int (gx L (p + 1))), some (.int (-1)), some (.int (b1 (isLe (gx L (p + 1))))), some (.int 0), none] [] _ _
      refine g_iload (pc := 71) dc_M_markupEnd_71 rfl ?_
      refine q_ifb_ne (pc := 73) (tgt := 104) dc_M_markupEnd_73 rfl (fun hc73 => ?_) (fun hc73 => ?_)
      · have hk : kdA L p = 2 := by rw [hkd, if_pos (Or.inl hc73)]
        have hn : ¬ gx L (p + 1) = 47 := fun h9 => by rw [h9] at hc73; exact absurd hc73 (by decide)
        rw [hc73]
        refine am_wk (am_le_s (am_le_s (am_le_s (am_le_s (am_le_s (am_le_n (am_le_n (am_le_s (am_le_n (am_le_n am_le_0)))))))))) ?_
        exact o_M_markupEnd hA hbL hL8 hs hX hR hka hV hr hp hp2 hc hB hk hn
      · refine g_iload (pc := 76) dc_M_markupEnd_76 rfl ?_
        refine g_if_ne (pc := 78) (tgt := 104) dc_M_markupEnd_78 rfl (fun hc => absurd hc (by decide)) (fun _ => ?_)
        refine g_iload (pc := 81) dc_M_markupEnd_81 rfl ?_
        refine g_bipush (pc := 83) (v := 33) dc_M_markupEnd_83 rfl ?_
        refine g_icmp_eq (pc := 85) (tgt := 104) dc_M_markupEnd_85 rfl (fun hc85 => ?_) (fun hc85 => ?_)
        · have hk : kdA L p = 3 := by rw [hkd, if_neg (fun h9 => h9.elim (fun h8 => by rw [hc73] at h8; cases h8) (fun h8 => absurd h8.2.1 h2l)), if_pos (Or.inl hc85)]
          rw [hc73]
          exact x_M_markupEnd hA hbL hL8 hs hX hR hka hV hr hp hp2 hc hB hk h60 h1l (fun h9 => absurd h9 h2l) (fun _ => rfl)
        · refine g_iload (pc := 88) dc_M_markupEnd_88 rfl ?_
          refine g_bipush (pc := 90) (v := 63) dc_M_markupEnd_90 rfl ?_
          refine g_icmp_eq (pc := 92) (tgt := 104) dc_M_markupEnd_92 rfl (fun hc92 => ?_) (fun hc92 => ?_)
          · have hk : kdA L p = 3 := by rw [hkd, if_neg (fun h9 => h9.elim (fun h8 => by rw [hc73] at h8; cases h8) (fun h8 => absurd h8.2.1 h2l)), if_pos (Or.inr (Or.inl hc92))]
            rw [hc73]
            exact x_M_markupEnd hA hbL hL8 hs hX hR hka hV hr hp hp2 hc hB hk h60 h1l (fun h9 => absurd h9 h2l) (fun _ => rfl)
          · refine g_iload (pc := 95) dc_M_markupEnd_95 rfl ?_
            refine g_bipush (pc := 97) (v := 47) dc_M_markupEnd_97 rfl ?_
            refine g_icmp_eq (pc := 99) (tgt := 104) dc_M_markupEnd_99 rfl (fun hc99 => ?_) (fun hc99 => ?_)
            · have hk : kdA L p = 3 := by rw [hkd, if_neg (fun h9 => h9.elim (fun h8 => by rw [hc73] at h8; cases h8) (fun h8 => absurd h8.2.1 h2l)), if_pos (Or.inr (Or.inr hc99))]
              rw [hc73]
              exact x_M_markupEnd hA hbL hL8 hs hX hR hka hV hr hp hp2 hc hB hk h60 h1l (fun h9 => absurd h9 h2l) (fun _ => rfl)
            · refine g_iconst (pc := 102) (v := (-1)) dc_M_markupEnd_102 rfl ?_
              exact g_ireturn dc_M_markupEnd_103 rfl (absurd (by rw [hkd, if_neg (fun h9 => h9.elim (fun h8 => by rw [hc73] at h8; cases h8) (fun h8 => absurd h8.2.1 h2l)), if_neg (fun h9 => h9.elim hc85 (fun h8 => h8.elim hc92 hc99))]) hk1)
theorem z_M_markupEnd {S : MS} (hA : A.length = 84) (hs : s + L.length ≤ 24000) (hX : tx S.texts s L) (hp2 : p < L.length) (h60 : gx L p = 60) (hk1 : kdA L p = 1) : am_C X mt_M_markupEnd (d + 7) [.ref 84, .int (nI (s + p)), .int (nI (s + L.length)), .int (nI ka), .int (nI (s + pl))] (mput A S B) (fun r h1 => r = some (.int (-1)) ∧ h1 = mput A S B) := by
  show am_G X mt_M_markupEnd (d + 7) 0 [some (.ref 84), some (.int (nI (s + p))), some (.int (nI (s + L.length))), some (.int (nI ka)), some (.int (nI (s + pl))), none, none, none, none, none] [] (mput A S B) _
  by_cases h1l : p + 1 < L.length
  · have hkd : ¬ (isLe (gx L (p + 1)) = true ∨ (gx L (p + 1) = 47 ∧ p + 2 < L.length ∧ isLe (gx L (p + 2)) = true)) ∧ ¬ (gx L (p + 1) = 33 ∨ gx L (p + 1) = 63 ∨ gx L (p + 1) = 47) := by
      unfold kdA at hk1
      rw [if_pos ⟨h60, h1l⟩] at hk1
      constructor
      · intro h9; rw [if_pos h9] at hk1; cases hk1
      · intro h9
        rw [if_pos h9] at hk1
        split at hk1 <;> cases hk1
    have hn1 : isLe (gx L (p + 1)) = false := by cases h9 : isLe (gx L (p + 1)) with | true => exact absurd (Or.inl h9) hkd.1 | false => rfl
    have hn2 : ¬ gx L (p + 1) = 33 := fun h9 => hkd.2 (Or.inl h9)
    have hn3 : ¬ gx L (p + 1) = 63 := fun h9 => hkd.2 (Or.inr (Or.inl h9))
    have hn4 : ¬ gx L (p + 1) = 47 := fun h9 => hkd.2 (Or.inr (Or.inr h9))
    by_cases h2l : p + 2 < L.length
    · refine g_iload_n (pc := 0) dc_M_markupEnd_0 rfl ?_
      refine g_iconst (pc := 1) (v := 1) dc_M_markupEnd_1 rfl ?_
      refine g_iadd (pc := 2) (v := (nI (s + (p + 1)))) dc_M_markupEnd_2 (q_as s p 1) ?_
      refine g_iload_n (pc := 3) dc_M_markupEnd_3 rfl ?_
      refine q_icmp_ge (pc := 4) (tgt := 18) (s + (p + 1)) (s + L.length) dc_M_markupEnd_4 (by omega) (by omega) rfl (fun hc => absurd hc (by omega)) (fun hc4 => ?_)
      refine g_aload_n (pc := 7) dc_M_markupEnd_7 rfl ?_
      refine g_getfield (pc := 8) dc_M_markupEnd_8 fl_M_140 (mp_o hA) rfl ?_
      refine g_iload_n (pc := 11) dc_M_markupEnd_11 rfl ?_
      refine g_iconst (pc := 12) (v := 1) dc_M_markupEnd_12 rfl ?_
      refine g_iadd (pc := 13) (v := (nI (s + (p + 1)))) dc_M_markupEnd_13 (q_as s p 1) ?_
      refine q_tx (pc := 14) (p + 1) dc_M_markupEnd_14 (mp_a hA 12 rfl) hX hs (by omega) (by omega) ?_
      refine g_goto (pc := 15) (tgt := 19) dc_M_markupEnd_15 rfl ?_
      refine g_istore (pc := 19) dc_M_markupEnd_19 (by decide) ?_
      show am_G X mt_M_markupEnd _ 21 [some (.ref 84), some (.int (nI (s + p))), some (.int (nI (s + L.length))), some (.int (nI ka)), some (.int (nI (s + pl))), some (.int (gx L (p + 1))), none, none, none, none] [] _ _
      refine g_iload_n (pc := 21) dc_M_markupEnd_21 rfl ?_
      refine g_iconst (pc := 22) (v := 2) dc_M_markupEnd_22 rfl ?_
      refine g_iadd (pc := 23) (v := (nI (s + (p + 2)))) dc_M_markupEnd_23 (q_as s p 2) ?_
      refine g_iload_n (pc := 24) dc_M_markupEnd_24 rfl ?_
      refine q_icmp_ge (pc := 25) (tgt := 39) (s + (p + 2)) (s + L.length) dc_M_markupEnd_25 (by omega) (by omega) rfl (fun hc => absurd hc (by omega)) (fun hc25 => ?_)
      refine g_aload_n (pc := 28) dc_M_markupEnd_28 rfl ?_
      refine g_getfield (pc := 29) dc_M_markupEnd_29 fl_M_140 (mp_o hA) rfl ?_
      refine g_iload_n (pc := 32) dc_M_markupEnd_32 rfl ?_
      refine g_iconst (pc := 33) (v := 2) dc_M_markupEnd_33 rfl ?_
      refine g_iadd (pc := 34) (v := (nI (s + (p + 2)))) dc_M_markupEnd_34 (q_as s p 2) ?_
      refine q_tx (pc := 35) (p + 2) dc_M_markupEnd_35 (mp_a hA 12 rfl) hX hs (by omega) (by omega) ?_
      refine g_goto (pc := 36) (tgt := 40) dc_M_markupEnd_36 rfl ?_
      refine g_istore (pc := 40) dc_M_markupEnd_40 (by decide) ?_
      show am_G X mt_M_markupEnd _ 42 [some (.ref 84), some (.int (nI (s + p))), some (.int (nI (s + L.length))), some (.int (nI ka)), some (.int (nI (s + pl))), some (.int (gx L (p + 1))), some (.int (gx L (p + 2))), none, none, none] [] _ _
      refine g_iload (pc := 42) dc_M_markupEnd_42 rfl ?_
      refine g_s1 (pc := 44) (M' := mt_M_isLetter) dc_M_markupEnd_44 mo_M_isLetter st_M_isLetter ln_M_58 (Nat.le_of_ble_eq_true rfl) (Nat.le_of_ble_eq_true rfl) (am_G.mono (c_M_isLetter (v := (gx L (p + 1)))) ?_)
      intro r h1 hq
      rw [hq.1, hq.2]
      clear hq h1 r
      refine ⟨am_nti _, ?_⟩
      refine g_istore (pc := 47) dc_M_markupEnd_47 (by decide) ?_
      show am_G X mt_M_markupEnd _ 49 [some (.ref 84), some (.int (nI (s + p))), some (.int (nI (s + L.length))), some (.int (nI ka)), some (.int (nI (s + pl))), some (.int (gx L (p + 1))), some (.int (gx L (p + 2))), some (.int (b1 (isLe (gx L (p + 1))))), none, none] [] _ _
      refine g_iload (pc := 49) dc_M_markupEnd_49 rfl ?_
      refine g_bipush (pc := 51) (v := 47) dc_M_markupEnd_51 rfl ?_
      refine g_icmp_ne (pc := 53) (tgt := 68) dc_M_markupEnd_53 rfl (fun hc53 => ?_) (fun hc => absurd hc (hn4))
      refine g_iconst (pc := 68) (v := 0) dc_M_markupEnd_68 rfl ?_
      refine g_istore (pc := 69) dc_M_markupEnd_69 (by decide) ?_
      show am_G X mt_M_markupEnd _ 71 [some (.ref 84), some (.int (nI (s + p))), some (.int (nI (s + L.length))), some (.int (nI ka)), some (.int (nI (s + pl))), some (.int (gx L (p + 1))), some (.int (gx L (p + 2))), some (.int (b1 (isLe (gx L (p + 1))))), some (.int 0), none] [] _ _
      refine g_iload (pc := 71) dc_M_markupEnd_71 rfl ?_
      refine q_ifb_ne (pc := 73) (tgt := 104) dc_M_markupEnd_73 rfl (fun hc => absurd hc (by rw [hn1]; decide)) (fun hc73 => ?_)
      refine g_iload (pc := 76) dc_M_markupEnd_76 rfl ?_
      refine g_if_ne (pc := 78) (tgt := 104) dc_M_markupEnd_78 rfl (fun hc => absurd hc (by decide)) (fun _ => ?_)
      refine g_iload (pc := 81) dc_M_markupEnd_81 rfl ?_
      refine g_bipush (pc := 83) (v := 33) dc_M_markupEnd_83 rfl ?_
      refine g_icmp_eq (pc := 85) (tgt := 104) dc_M_markupEnd_85 rfl (fun hc => absurd hc (hn2)) (fun hc85 => ?_)
      refine g_iload (pc := 88) dc_M_markupEnd_88 rfl ?_
      refine g_bipush (pc := 90) (v := 63) dc_M_markupEnd_90 rfl ?_
      refine g_icmp_eq (pc := 92) (tgt := 104) dc_M_markupEnd_92 rfl (fun hc => absurd hc (hn3)) (fun hc92 => ?_)
      refine g_iload (pc := 95) dc_M_markupEnd_95 rfl ?_
      refine g_bipush (pc := 97) (v := 47) dc_M_markupEnd_97 rfl ?_
      refine g_icmp_eq (pc := 99) (tgt := 104) dc_M_markupEnd_99 rfl (fun hc => absurd hc (hn4)) (fun hc99 => ?_)
      refine g_iconst (pc := 102) (v := (-1)) dc_M_markupEnd_102 rfl ?_
      exact g_ireturn dc_M_markupEnd_103 rfl ⟨rfl, rfl⟩
    · refine g_iload_n (pc := 0) dc_M_markupEnd_0 rfl ?_
      refine g_iconst (pc := 1) (v := 1) dc_M_markupEnd_1 rfl ?_
      refine g_iadd (pc := 2) (v := (nI (s + (p + 1)))) dc_M_markupEnd_2 (q_as s p 1) ?_
      refine g_iload_n (pc := 3) dc_M_markupEnd_3 rfl ?_
      refine q_icmp_ge (pc := 4) (tgt := 18) (s + (p + 1)) (s + L.length) dc_M_markupEnd_4 (by omega) (by omega) rfl (fun hc => absurd hc (by omega)) (fun hc4 => ?_)
      refine g_aload_n (pc := 7) dc_M_markupEnd_7 rfl ?_
      refine g_getfield (pc := 8) dc_M_markupEnd_8 fl_M_140 (mp_o hA) rfl ?_
      refine g_iload_n (pc := 11) dc_M_markupEnd_11 rfl ?_
      refine g_iconst (pc := 12) (v := 1) dc_M_markupEnd_12 rfl ?_
      refine g_iadd (pc := 13) (v := (nI (s + (p + 1)))) dc_M_markupEnd_13 (q_as s p 1) ?_
      refine q_tx (pc := 14) (p + 1) dc_M_markupEnd_14 (mp_a hA 12 rfl) hX hs (by omega) (by omega) ?_
      refine g_goto (pc := 15) (tgt := 19) dc_M_markupEnd_15 rfl ?_
      refine g_istore (pc := 19) dc_M_markupEnd_19 (by decide) ?_
      show am_G X mt_M_markupEnd _ 21 [some (.ref 84), some (.int (nI (s + p))), some (.int (nI (s + L.length))), some (.int (nI ka)), some (.int (nI (s + pl))), some (.int (gx L (p + 1))), none, none, none, none] [] _ _
      refine g_iload_n (pc := 21) dc_M_markupEnd_21 rfl ?_
      refine g_iconst (pc := 22) (v := 2) dc_M_markupEnd_22 rfl ?_
      refine g_iadd (pc := 23) (v := (nI (s + (p + 2)))) dc_M_markupEnd_23 (q_as s p 2) ?_
      refine g_iload_n (pc := 24) dc_M_markupEnd_24 rfl ?_
      refine q_icmp_ge (pc := 25) (tgt := 39) (s + (p + 2)) (s + L.length) dc_M_markupEnd_25 (by omega) (by omega) rfl (fun hc25 => ?_) (fun hc => absurd hc (by omega))
      refine g_iconst (pc := 39) (v := (-1)) dc_M_markupEnd_39 rfl ?_
      refine g_istore (pc := 40) dc_M_markupEnd_40 (by decide) ?_
      show am_G X mt_M_markupEnd _ 42 [some (.ref 84), some (.int (nI (s + p))), some (.int (nI (s + L.length))), some (.int (nI ka)), some (.int (nI (s + pl))), some (.int (gx L (p + 1))), some (.int (-1)), none, none, none] [] _ _
      refine g_iload (pc := 42) dc_M_markupEnd_42 rfl ?_
      refine g_s1 (pc := 44) (M' := mt_M_isLetter) dc_M_markupEnd_44 mo_M_isLetter st_M_isLetter ln_M_58 (Nat.le_of_ble_eq_true rfl) (Nat.le_of_ble_eq_true rfl) (am_G.mono (c_M_isLetter (v := (gx L (p + 1)))) ?_)
      intro r h1 hq
      rw [hq.1, hq.2]
      clear hq h1 r
      refine ⟨am_nti _, ?_⟩
      refine g_istore (pc := 47) dc_M_markupEnd_47 (by decide) ?_
      show am_G X mt_M_markupEnd _ 49 [some (.ref 84), some (.int (nI (s + p))), some (.int (nI (s + L.length))), some (.int (nI ka)), some (.int (nI (s + pl))), some (.int (gx L (p + 1))), some (.int (-1)), some (.int (b1 (isLe (gx L (p + 1))))), none, none] [] _ _
      refine g_iload (pc := 49) dc_M_markupEnd_49 rfl ?_
      refine g_bipush (pc := 51) (v := 47) dc_M_markupEnd_51 rfl ?_
      refine g_icmp_ne (pc := 53) (tgt := 68) dc_M_markupEnd_53 rfl (fun hc53 => ?_) (fun hc => absurd hc (hn4))
      refine g_iconst (pc := 68) (v := 0) dc_M_markupEnd_68 rfl ?_
      refine g_istore (pc := 69) dc_M_markupEnd_69 (by decide) ?_
      show am_G X mt_M_markupEnd _ 71 [some (.ref 84), some (.int (nI (s + p))), some (.int (nI (s + L.length))), some (.int (nI ka)), some (.int (nI (s + pl))), some (.int (gx L (p + 1))), some (.int (-1)), some (.int (b1 (isLe (gx L (p + 1))))), some (.int 0), none] [] _ _
      refine g_iload (pc := 71) dc_M_markupEnd_71 rfl ?_
      refine q_ifb_ne (pc := 73) (tgt := 104) dc_M_markupEnd_73 rfl (fun hc => absurd hc (by rw [hn1]; decide)) (fun hc73 => ?_)
      refine g_iload (pc := 76) dc_M_markupEnd_76 rfl ?_
      refine g_if_ne (pc := 78) (tgt := 104) dc_M_markupEnd_78 rfl (fun hc => absurd hc (by decide)) (fun _ => ?_)
      refine g_iload (pc := 81) dc_M_markupEnd_81 rfl ?_
      refine g_bipush (pc := 83) (v := 33) dc_M_markupEnd_83 rfl ?_
      refine g_icmp_eq (pc := 85) (tgt := 104) dc_M_markupEnd_85 rfl (fun hc => absurd hc (hn2)) (fun hc85 => ?_)
      refine g_iload (pc := 88) dc_M_markupEnd_88 rfl ?_
      refine g_bipush (pc := 90) (v := 63) dc_M_markupEnd_90 rfl ?_
      refine g_icmp_eq (pc := 92) (tgt := 104) dc_M_markupEnd_92 rfl (fun hc => absurd hc (hn3)) (fun hc92 => ?_)
      refine g_iload (pc := 95) dc_M_markupEnd_95 rfl ?_
      refine g_bipush (pc := 97) (v := 47) dc_M_markupEnd_97 rfl ?_
      refine g_icmp_eq (pc := 99) (tgt := 104) dc_M_markupEnd_99 rfl (fun hc => absurd hc (hn4)) (fun hc99 => ?_)
      refine g_iconst (pc := 102) (v := (-1)) dc_M_markupEnd_102 rfl ?_
      exact g_ireturn dc_M_markupEnd_103 rfl ⟨rfl, rfl⟩
  · refine g_iload_n (pc := 0) dc_M_markupEnd_0 rfl ?_
    refine g_iconst (pc := 1) (v := 1) dc_M_markupEnd_1 rfl ?_
    refine g_iadd (pc := 2) (v := (nI (s + (p + 1)))) dc_M_markupEnd_2 (q_as s p 1) ?_
    refine g_iload_n (pc := 3) dc_M_markupEnd_3 rfl ?_
    refine q_icmp_ge (pc := 4) (tgt := 18) (s + (p + 1)) (s + L.length) dc_M_markupEnd_4 (by omega) (by omega) rfl (fun hc4 => ?_) (fun hc => absurd hc (by omega))
    refine g_iconst (pc := 18) (v := (-1)) dc_M_markupEnd_18 rfl ?_
    refine g_istore (pc := 19) dc_M_markupEnd_19 (by decide) ?_
    show am_G X mt_M_markupEnd _ 21 [some (.ref 84), some (.int (nI (s + p))), some (.int (nI (s + L.length))), some (.int (nI ka)), some (.int (nI (s + pl))), some (.int (-1)), none, none, none, none] [] _ _
    refine g_iload_n (pc := 21) dc_M_markupEnd_21 rfl ?_
    refine g_iconst (pc := 22) (v := 2) dc_M_markupEnd_22 rfl ?_
    refine g_iadd (pc := 23) (v := (nI (s + (p + 2)))) dc_M_markupEnd_23 (q_as s p 2) ?_
    refine g_iload_n (pc := 24) dc_M_markupEnd_24 rfl ?_
    refine q_icmp_ge (pc := 25) (tgt := 39) (s + (p + 2)) (s + L.length) dc_M_markupEnd_25 (by omega) (by omega) rfl (fun hc25 => ?_) (fun hc => absurd hc (by omega))
    refine g_iconst (pc := 39) (v := (-1)) dc_M_markupEnd_39 rfl ?_
    refine g_istore (pc := 40) dc_M_markupEnd_40 (by decide) ?_
    show am_G X mt_M_markupEnd _ 42 [some (.ref 84), some (.int (nI (s + p))), some (.int (nI (s + L.length))), some (.int (nI ka)), some (.int (nI (s + pl))), some (.int (-1)), some (.int (-1)), none, none, none] [] _ _
    refine g_iload (pc := 42) dc_M_markupEnd_42 rfl ?_
    refine g_s1 (pc := 44) (M' := mt_M_isLetter) dc_M_markupEnd_44 mo_M_isLetter st_M_isLetter ln_M_58 (Nat.le_of_ble_eq_true rfl) (Nat.le_of_ble_eq_true rfl) (am_G.mono (c_M_isLetter (v := (-1))) ?_)
    intro r h1 hq
    rw [hq.1, hq.2]
    clear hq h1 r
    refine ⟨am_nti _, ?_⟩
    refine g_istore (pc := 47) dc_M_markupEnd_47 (by decide) ?_
    show am_G X mt_M_markupEnd _ 49 [some (.ref 84), some (.int (nI (s + p))), some (.int (nI (s + L.length))), some (.int (nI ka)), some (.int (nI (s + pl))), some (.int (-1)), some (.int (-1)), some (.int (b1 (isLe (-1)))), none, none] [] _ _
    refine g_iload (pc := 49) dc_M_markupEnd_49 rfl ?_
    refine g_bipush (pc := 51) (v := 47) dc_M_markupEnd_51 rfl ?_
    refine g_icmp_ne (pc := 53) (tgt := 68) dc_M_markupEnd_53 rfl (fun _ => ?_) (fun hc => absurd hc (by decide))
    refine g_iconst (pc := 68) (v := 0) dc_M_markupEnd_68 rfl ?_
    refine g_istore (pc := 69) dc_M_markupEnd_69 (by decide) ?_
    show am_G X mt_M_markupEnd _ 71 [some (.ref 84), some (.int (nI (s + p))), some (.int (nI (s + L.length))), some (.int (nI ka)), some (.int (nI (s + pl))), some (.int (-1)), some (.int (-1)), some (.int (b1 (isLe (-1)))), some (.int 0), none] [] _ _
    refine g_iload (pc := 71) dc_M_markupEnd_71 rfl ?_
    refine q_ifb_ne (pc := 73) (tgt := 104) dc_M_markupEnd_73 rfl (fun hc => absurd hc (by decide)) (fun hc73 => ?_)
    refine g_iload (pc := 76) dc_M_markupEnd_76 rfl ?_
    refine g_if_ne (pc := 78) (tgt := 104) dc_M_markupEnd_78 rfl (fun hc => absurd hc (by decide)) (fun _ => ?_)
    refine g_iload (pc := 81) dc_M_markupEnd_81 rfl ?_
    refine g_bipush (pc := 83) (v := 33) dc_M_markupEnd_83 rfl ?_
    refine g_icmp_eq (pc := 85) (tgt := 104) dc_M_markupEnd_85 rfl (fun hc => absurd hc (by decide)) (fun _ => ?_)
    refine g_iload (pc := 88) dc_M_markupEnd_88 rfl ?_
    refine g_bipush (pc := 90) (v := 63) dc_M_markupEnd_90 rfl ?_
    refine g_icmp_eq (pc := 92) (tgt := 104) dc_M_markupEnd_92 rfl (fun hc => absurd hc (by decide)) (fun _ => ?_)
    refine g_iload (pc := 95) dc_M_markupEnd_95 rfl ?_
    refine g_bipush (pc := 97) (v := 47) dc_M_markupEnd_97 rfl ?_
    refine g_icmp_eq (pc := 99) (tgt := 104) dc_M_markupEnd_99 rfl (fun hc => absurd hc (by decide)) (fun _ => ?_)
    refine g_iconst (pc := 102) (v := (-1)) dc_M_markupEnd_102 rfl ?_
    exact g_ireturn dc_M_markupEnd_103 rfl ⟨rfl, rfl⟩
end MFL
