/-! ===== the model counts places, and puts a hit into its place ===== -/
/-- the question in the model -/
def quM (S : MS) (Qs : List (List Int32)) : Prop := S.questionCount = Qs.length ∧ ∀ q, q < Qs.length → S.questionLength q = nI (gT Qs q).length ∧ tx S.question (20 * q) (gT Qs q)
section GCS
variable {X : am_X} {d n k j i a s wi qi mq : Nat} {A B h : List va_E} {S S1 : MS} {Wd Qs : List (List Int32)} {H : List (Nat × Nat)} {x : Nat × Nat} {Q : Option Value → List va_E → Prop} {Z : List Nat} {md : Nat}
theorem quM.m (z : quM S Qs) (e : mA Z S S1) (h1 : ¬ 87 ∈ Z) (h2 : ¬ 88 ∈ Z) (h3 : ¬ 89 ∈ Z) : quM S1 Qs := ⟨(e.questionCount h3).trans z.1, fun q hq => by rw [e.questionLength h2, e.question h1]; exact z.2 q hq⟩
theorem gx_ext {D E : List Int32} (hl : D.length = E.length) (h : ∀ j, j < D.length → gx D j = gx E j) : D = E := by
  refine List.ext_getElem hl (fun j h1 h2 => ?_)
  have h3 := h j h1
  unfold gx at h3
  rw [List.getD_eq_getElem?_getD, List.getD_eq_getElem?_getD, List.getElem?_eq_getElem h1, List.getElem?_eq_getElem h2] at h3
  exact h3
theorem wd_of (hW : rws S.words S.wordAt S.wordLength Wd) (h8 : Wd.flatten.length ≤ 8000) (hi : wi < Wd.length) : ofs Wd wi + (gT Wd wi).length ≤ 8000 := by
  have h := ofs_s (T := Wd) hi
  have h2 : ofs Wd (wi + 1) ≤ Wd.flatten.length := by rw [flat_len]; exact ofs_mono (by omega) (Nat.le_refl _)
  omega
theorem l24_M_isAsked (hA : A.length = 84) (hW : wdS S Wd) (hU : quM S Qs) (hi : wi < Wd.length) (hq : qi < Qs.length) (h8 : Wd.flatten.length ≤ 8000) (hw1 : Wd.length ≤ 4000) (hq8 : Qs.length ≤ 8) (hq20 : ∀ y, y ∈ Qs → y.length ≤ 20) (hle : (gT Wd wi).length = (gT Qs qi).length) : ∀ (n9 t : Nat), t + n9 = (gT Wd wi).length → (∀ e, e < t → gx (gT Wd wi) e = gx (gT Qs qi) e) → am_G X mt_M_isAsked d 24 [some (.ref 84), some (.int (nI wi)), some (.int (nI qi)), some (.int 1), some (.int (nI t))] [] (mput A S B) (fun r h1 => r = some (.int (b1 (isQ Wd Qs wi qi))) ∧ h1 = mput A S B)
  | 0, t, e9, hz => by
    have hwx := hW.2 wi hi
    have hqx := hU.2 qi hq
    have hof := wd_of hW.2 h8 hi
    have hqm := hq20 _ (gT_mem hq)
    refine g_iload (pc := 24) dc_M_isAsked_24 rfl ?_
    refine g_aload_n (pc := 26) dc_M_isAsked_26 rfl ?_
    refine g_getfield (pc := 27) dc_M_isAsked_27 fl_M_229 (mp_o hA) rfl ?_
    refine g_iload_n (pc := 30) dc_M_isAsked_30 rfl ?_
    refine q_ialoadV (pc := 31) wi dc_M_isAsked_31 (mp_a hA 22 rfl) (by omega) (by omega) (v := (nI ((gT Wd wi).length))) hwx.2.1 ?_
    refine q_icmp_ge (pc := 32) (tgt := 80) t ((gT Wd wi).length) dc_M_isAsked_32 (by omega) (by omega) rfl (fun hc32 => ?_) (fun hc => absurd hc (by omega))
    refine g_iload_n (pc := 80) dc_M_isAsked_80 rfl ?_
    exact g_zreturn dc_M_isAsked_81 rfl rfl ⟨by rw [show isQ Wd Qs wi qi = true from decide_eq_true (gx_ext hle (fun e he => hz e (by omega)))]; rfl, rfl⟩
  | n9 + 1, t, e9, hz => by
    have hwx := hW.2 wi hi
    have hqx := hU.2 qi hq
    have hof := wd_of hW.2 h8 hi
    have hqm := hq20 _ (gT_mem hq)
    refine g_iload (pc := 24) dc_M_isAsked_24 rfl ?_
    refine g_aload_n (pc := 26) dc_M_isAsked_26 rfl ?_
    refine g_getfield (pc := 27) dc_M_isAsked_27 fl_M_229 (mp_o hA) rfl ?_
    refine g_iload_n (pc := 30) dc_M_isAsked_30 rfl ?_
    refine q_ialoadV (pc := 31) wi dc_M_isAsked_31 (mp_a hA 22 rfl) (by omega) (by omega) (v := (nI ((gT Wd wi).length))) hwx.2.1 ?_
    refine q_icmp_ge (pc := 32) (tgt := 80) t ((gT Wd wi).length) dc_M_isAsked_32 (by omega) (by omega) rfl (fun hc => absurd hc (by omega)) (fun hc32 => ?_)
    refine g_iload_n (pc := 35) dc_M_isAsked_35 rfl ?_
    refine g_if_eq (pc := 36) (tgt := 80) dc_M_isAsked_36 rfl (fun hc => absurd hc (by decide)) (fun _ => ?_)
    refine g_aload_n (pc := 39) dc_M_isAsked_39 rfl ?_
    refine g_getfield (pc := 40) dc_M_isAsked_40 fl_M_232 (mp_o hA) rfl ?_
    refine g_aload_n (pc := 43) dc_M_isAsked_43 rfl ?_
    refine g_getfield (pc := 44) dc_M_isAsked_44 fl_M_226 (mp_o hA) rfl ?_
    refine g_iload_n (pc := 47) dc_M_isAsked_47 rfl ?_
    refine q_ialoadV (pc := 48) wi dc_M_isAsked_48 (mp_a hA 21 rfl) (by omega) (by omega) (v := (nI (ofs Wd wi))) hwx.1 ?_
    refine g_iload (pc := 49) dc_M_isAsked_49 rfl ?_
    refine g_iadd (pc := 51) (v := (nI (ofs Wd wi + t))) dc_M_isAsked_51 (nI_add (ofs Wd wi) t) ?_
    refine q_baloadV (pc := 52) (ofs Wd wi + t) dc_M_isAsked_52 (mp_a hA 20 rfl) (by omega) (by omega) (v := (gx (gT Wd wi) t)) (hwx.2.2 t (by omega)) ?_
    refine g_aload_n (pc := 53) dc_M_isAsked_53 rfl ?_
    refine g_getfield (pc := 54) dc_M_isAsked_54 fl_M_406 (mp_o hA) rfl ?_
    refine g_bipush (pc := 57) (v := 20) dc_M_isAsked_57 rfl ?_
    refine g_iload_n (pc := 59) dc_M_isAsked_59 rfl ?_
    refine g_imul (pc := 60) (v := (nI (20 * qi))) dc_M_isAsked_60 (pk_mul 20 qi) ?_
    refine g_iload (pc := 61) dc_M_isAsked_61 rfl ?_
    refine g_iadd (pc := 63) (v := (nI (20 * qi + t))) dc_M_isAsked_63 (nI_add (20 * qi) t) ?_
    refine q_baloadV (pc := 64) (20 * qi + t) dc_M_isAsked_64 (mp_a hA 49 rfl) (by omega) (by omega) (v := (gx (gT Qs qi) t)) (hqx.2 t (by omega)) ?_
    refine g_icmp_ne (pc := 65) (tgt := 72) dc_M_isAsked_65 rfl (fun hc65 => ?_) (fun hc65 => ?_)
    · refine g_iconst (pc := 72) (v := 0) dc_M_isAsked_72 rfl ?_
      refine g_istore_n (pc := 73) dc_M_isAsked_73 (by decide) ?_
      show am_G X mt_M_isAsked _ 74 [some (.ref 84), some (.int (nI wi)), some (.int (nI qi)), some (.int 0), some (.int (nI t))] [] _ _
      refine g_iinc (pc := 74) (v := (nI (t + 1))) dc_M_isAsked_74 rfl (nI_add t 1) (by decide) ?_
      show am_G X mt_M_isAsked _ 77 [some (.ref 84), some (.int (nI wi)), some (.int (nI qi)), some (.int 0), some (.int (nI (t + 1)))] [] _ _
      refine g_goto (pc := 77) (tgt := 24) dc_M_isAsked_77 rfl ?_
      refine g_iload (pc := 24) dc_M_isAsked_24 rfl ?_
      refine g_aload_n (pc := 26) dc_M_isAsked_26 rfl ?_
      refine g_getfield (pc := 27) dc_M_isAsked_27 fl_M_229 (mp_o hA) rfl ?_
      refine g_iload_n (pc := 30) dc_M_isAsked_30 rfl ?_
      refine q_ialoadV (pc := 31) wi dc_M_isAsked_31 (mp_a hA 22 rfl) (by omega) (by omega) (v := (nI ((gT Wd wi).length))) hwx.2.1 ?_
      refine q_icmp_ge (pc := 32) (tgt := 80) (t + 1) ((gT Wd wi).length) dc_M_isAsked_32 (by omega) (by omega) rfl (fun hc32 => ?_) (fun hc32 => ?_)
      · refine g_iload_n (pc := 80) dc_M_isAsked_80 rfl ?_
        exact g_zreturn dc_M_isAsked_81 rfl rfl ⟨by rw [show isQ Wd Qs wi qi = false from decide_eq_false (fun h9 => hc65 (by rw [h9]))]; rfl, rfl⟩
      · refine g_iload_n (pc := 35) dc_M_isAsked_35 rfl ?_
        refine g_if_eq (pc := 36) (tgt := 80) dc_M_isAsked_36 rfl (fun _ => ?_) (fun hc => absurd hc (by decide))
        refine g_iload_n (pc := 80) dc_M_isAsked_80 rfl ?_
        exact g_zreturn dc_M_isAsked_81 rfl rfl ⟨by rw [show isQ Wd Qs wi qi = false from decide_eq_false (fun h9 => hc65 (by rw [h9]))]; rfl, rfl⟩
    · refine g_iconst (pc := 68) (v := 1) dc_M_isAsked_68 rfl ?_
      refine g_goto (pc := 69) (tgt := 73) dc_M_isAsked_69 rfl ?_
      refine g_istore_n (pc := 73) dc_M_isAsked_73 (by decide) ?_
      show am_G X mt_M_isAsked _ 74 [some (.ref 84), some (.int (nI wi)), some (.int (nI qi)), some (.int 1), some (.int (nI t))] [] _ _
      refine g_iinc (pc := 74) (v := (nI (t + 1))) dc_M_isAsked_74 rfl (nI_add t 1) (by decide) ?_
      show am_G X mt_M_isAsked _ 77 [some (.ref 84), some (.int (nI wi)), some (.int (nI qi)), some (.int 1), some (.int (nI (t + 1)))] [] _ _
      refine g_goto (pc := 77) (tgt := 24) dc_M_isAsked_77 rfl ?_
      exact l24_M_isAsked hA hW hU hi hq h8 hw1 hq8 hq20 hle n9 (t + 1) (by omega) (fun e he => by
        by_cases q9 : e = t
        · rw [q9]; exact hc65
        · exact hz e (by omega))
theorem c_M_isAsked (hA : A.length = 84) (hW : wdS S Wd) (hU : quM S Qs) (hi : wi < Wd.length) (hq : qi < Qs.length) (h8 : Wd.flatten.length ≤ 8000) (hw1 : Wd.length ≤ 4000) (hq8 : Qs.length ≤ 8) (hq20 : ∀ y, y ∈ Qs → y.length ≤ 20) : am_C X mt_M_isAsked d [.ref 84, .int (nI wi), .int (nI qi)] (mput A S B) (fun r h1 => r = some (.int (b1 (isQ Wd Qs wi qi))) ∧ h1 = mput A S B) := by
  show am_G X mt_M_isAsked d 0 [some (.ref 84), some (.int (nI wi)), some (.int (nI qi)), none, none] [] (mput A S B) _
  have hwx := hW.2 wi hi
  have hqx := hU.2 qi hq
  have hof := wd_of hW.2 h8 hi
  have hqm := hq20 _ (gT_mem hq)
  refine g_aload_n (pc := 0) dc_M_isAsked_0 rfl ?_
  refine g_getfield (pc := 1) dc_M_isAsked_1 fl_M_229 (mp_o hA) rfl ?_
  refine g_iload_n (pc := 4) dc_M_isAsked_4 rfl ?_
  refine q_ialoadV (pc := 5) wi dc_M_isAsked_5 (mp_a hA 22 rfl) (by omega) (by omega) (v := (nI ((gT Wd wi).length))) hwx.2.1 ?_
  refine g_aload_n (pc := 6) dc_M_isAsked_6 rfl ?_
  refine g_getfield (pc := 7) dc_M_isAsked_7 fl_M_409 (mp_o hA) rfl ?_
  refine g_iload_n (pc := 10) dc_M_isAsked_10 rfl ?_
  refine q_ialoadV (pc := 11) qi dc_M_isAsked_11 (mp_a hA 50 rfl) (by omega) (by omega) (v := (nI ((gT Qs qi).length))) hqx.1 ?_
  refine q_icmp_ne (pc := 12) (tgt := 19) ((gT Wd wi).length) ((gT Qs qi).length) dc_M_isAsked_12 (by omega) (by omega) rfl (fun hc12 => ?_) (fun hc12 => ?_)
  · refine g_iconst (pc := 19) (v := 0) dc_M_isAsked_19 rfl ?_
    refine g_istore_n (pc := 20) dc_M_isAsked_20 (by decide) ?_
    show am_G X mt_M_isAsked _ 21 [some (.ref 84), some (.int (nI wi)), some (.int (nI qi)), some (.int 0), none] [] _ _
    refine g_iconst (pc := 21) (v := 0) dc_M_isAsked_21 rfl ?_
    refine g_istore (pc := 22) dc_M_isAsked_22 (by decide) ?_
    show am_G X mt_M_isAsked _ 24 [some (.ref 84), some (.int (nI wi)), some (.int (nI qi)), some (.int 0), some (.int 0)] [] _ _
    refine g_iload (pc := 24) dc_M_isAsked_24 rfl ?_
    refine g_aload_n (pc := 26) dc_M_isAsked_26 rfl ?_
    refine g_getfield (pc := 27) dc_M_isAsked_27 fl_M_229 (mp_o hA) rfl ?_
    refine g_iload_n (pc := 30) dc_M_isAsked_30 rfl ?_
    refine q_ialoadV (pc := 31) wi dc_M_isAsked_31 (mp_a hA 22 rfl) (by omega) (by omega) (v := (nI ((gT Wd wi).length))) hwx.2.1 ?_
    refine q_icmp_ge (pc := 32) (tgt := 80) 0 ((gT Wd wi).length) dc_M_isAsked_32 (by omega) (by omega) rfl (fun hc32 => ?_) (fun hc32 => ?_)
    · refine g_iload_n (pc := 80) dc_M_isAsked_80 rfl ?_
      exact g_zreturn dc_M_isAsked_81 rfl rfl ⟨by rw [show isQ Wd Qs wi qi = false from decide_eq_false (fun h9 => hc12 (by rw [h9]))]; rfl, rfl⟩
    · refine g_iload_n (pc := 35) dc_M_isAsked_35 rfl ?_
      refine g_if_eq (pc := 36) (tgt := 80) dc_M_isAsked_36 rfl (fun _ => ?_) (fun hc => absurd hc (by decide))
      refine g_iload_n (pc := 80) dc_M_isAsked_80 rfl ?_
      exact g_zreturn dc_M_isAsked_81 rfl rfl ⟨by rw [show isQ Wd Qs wi qi = false from decide_eq_false (fun h9 => hc12 (by rw [h9]))]; rfl, rfl⟩
  · refine g_iconst (pc := 15) (v := 1) dc_M_isAsked_15 rfl ?_
    refine g_goto (pc := 16) (tgt := 20) dc_M_isAsked_16 rfl ?_
    refine g_istore_n (pc := 20) dc_M_isAsked_20 (by decide) ?_
    show am_G X mt_M_isAsked _ 21 [some (.ref 84), some (.int (nI wi)), some (.int (nI qi)), some (.int 1), none] [] _ _
    refine g_iconst (pc := 21) (v := 0) dc_M_isAsked_21 rfl ?_
    refine g_istore (pc := 22) dc_M_isAsked_22 (by decide) ?_
    show am_G X mt_M_isAsked _ 24 [some (.ref 84), some (.int (nI wi)), some (.int (nI qi)), some (.int 1), some (.int 0)] [] _ _
    exact l24_M_isAsked hA hW hU hi hq h8 hw1 hq8 hq20 hc12 (gT Wd wi).length 0 (Nat.zero_add _) (fun e he => absurd he (Nat.not_lt_zero e))
theorem l6_M_place (hA : A.length = 84) (h250 : H.length < 250) (hx : x.2 ≤ 8000000000) (hH : ∀ y, y ∈ H → y.2 ≤ 8000000000) : ∀ (p : Nat) (S : MS), p ≤ H.length → S.hits = H.length → shH S.hitDocument S.hitScore H p → (∀ S2, mA [85, 86] S S2 → shH S2.hitDocument S2.hitScore H (posH H x.2 p) → am_G X mt_M_place d 63 [some (.ref 84), some (.int (nI x.1)), some (.long (lN x.2)), none, some (.int (nI (posH H x.2 p)))] [] (mput A S2 B) Q) → am_G X mt_M_place d 6 [some (.ref 84), some (.int (nI x.1)), some (.long (lN x.2)), none, some (.int (nI p))] [] (mput A S B) Q
  | 0, S, hp, hd, hz, KK => by
    refine g_iload (pc := 6) dc_M_place_6 rfl ?_
    refine q_if_le (pc := 8) (tgt := 63) 0 dc_M_place_8 (by omega) rfl (fun hc8 => ?_) (fun hc => absurd hc (by omega))
    exact KK S (mA.rf S) hz
  | p + 1, S, hp, hd, hz, KK => by
    have hpl : p < H.length := by omega
    have hzp := hz.1 p (by omega)
    have hy := hH _ (gH_mem hpl)
    refine g_iload (pc := 6) dc_M_place_6 rfl ?_
    refine q_if_le (pc := 8) (tgt := 63) (p + 1) dc_M_place_8 (by omega) rfl (fun hc => absurd hc (by omega)) (fun hc8 => ?_)
    refine g_aload_n (pc := 11) dc_M_place_11 rfl ?_
    refine g_getfield (pc := 12) dc_M_place_12 fl_M_403 (mp_o hA) rfl ?_
    refine g_iload (pc := 15) dc_M_place_15 rfl ?_
    refine g_iconst (pc := 17) (v := 1) dc_M_place_17 rfl ?_
    refine g_isub (pc := 18) (v := (nI p)) dc_M_place_18 (q_sub (a := p + 1) (b := 1) (by omega)) ?_
    refine q_laloadV (pc := 19) p dc_M_place_19 (mp_a hA 48 rfl) (by omega) (by omega) (v :=  (lN (gH H p).2)) hzp.2 ?_
    refine g_lload_n (pc := 20) dc_M_place_20 rfl ?_
    refine g_lcmp (pc := 21) dc_M_place_21 rfl ?_
    refine g_if_ge (pc := 22) (tgt := 63) dc_M_place_22 rfl (fun hc22 => ?_) (fun hc22 => ?_)
    · have hi22 : (0 : Int) ≤ ((lg_cmp (lN (gH H p).2) (lN x.2))).toInt := Int32.le_iff_toInt_le.mp hc22
      have hge : ¬ (gH H p).2 < x.2 := Nat.not_lt.mpr ((lcm_ge (by omega) (by omega)).mp hc22)
      have hps : posH H x.2 (p + 1) = p + 1 := if_neg hge
      rw [hps] at KK
      exact KK S (mA.rf S) hz
    · have hi22 : ¬ ((0 : Int) ≤ ((lg_cmp (lN (gH H p).2) (lN x.2))).toInt) := fun h9 => hc22 (Int32.le_iff_toInt_le.mpr h9)
      have hlt : (gH H p).2 < x.2 := Nat.lt_of_not_le (fun h9 => hc22 ((lcm_ge (by omega) (by omega)).mpr h9))
      refine g_aload_n (pc := 25) dc_M_place_25 rfl ?_
      refine g_getfield (pc := 26) dc_M_place_26 fl_M_403 (mp_o hA) rfl ?_
      refine g_iload (pc := 29) dc_M_place_29 rfl ?_
      refine g_aload_n (pc := 31) dc_M_place_31 rfl ?_
      refine g_getfield (pc := 32) dc_M_place_32 fl_M_403 (mp_o hA) rfl ?_
      refine g_iload (pc := 35) dc_M_place_35 rfl ?_
      refine g_iconst (pc := 37) (v := 1) dc_M_place_37 rfl ?_
      refine g_isub (pc := 38) (v := (nI p)) dc_M_place_38 (q_sub (a := p + 1) (b := 1) (by omega)) ?_
      refine q_laloadV (pc := 39) p dc_M_place_39 (mp_a hA 48 rfl) (by omega) (by omega) (v :=  (lN (gH H p).2)) hzp.2 ?_
      refine as_hitScore (pc := 40) (p + 1) hA dc_M_place_40 (by omega) ?_
      refine g_aload_n (pc := 41) dc_M_place_41 rfl ?_
      refine g_getfield (pc := 42) dc_M_place_42 fl_M_400 (mp_o hA) rfl ?_
      refine g_iload (pc := 45) dc_M_place_45 rfl ?_
      refine g_aload_n (pc := 47) dc_M_place_47 rfl ?_
      refine g_getfield (pc := 48) dc_M_place_48 fl_M_400 (mp_o hA) rfl ?_
      refine g_iload (pc := 51) dc_M_place_51 rfl ?_
      refine g_iconst (pc := 53) (v := 1) dc_M_place_53 rfl ?_
      refine g_isub (pc := 54) (v := (nI p)) dc_M_place_54 (q_sub (a := p + 1) (b := 1) (by omega)) ?_
      refine q_ialoadV (pc := 55) p dc_M_place_55 (mp_a hA 47 rfl) (by omega) (by omega) (v := (nI ((gH H p).1))) hzp.1 ?_
      refine asE_hitDocument (pc := 56) (p + 1) (g := upd S.hitDocument (p + 1) (nI ((gH H p).1))) hA dc_M_place_56 (by omega) (rfl) ?_
      refine g_iinc (pc := 57) (v := (nI p)) dc_M_place_57 rfl (q_m1 (x := p + 1) (by omega)) (by decide) ?_
      show am_G X mt_M_place _ 60 [some (.ref 84), some (.int (nI x.1)), some (.long (lN x.2)), none, some (.int (nI p))] [] _ _
      refine g_goto (pc := 60) (tgt := 6) dc_M_place_60 rfl ?_
      have hm1 : mA [85, 86] S ((S.s_hitScore (vp_updL S.hitScore (p + 1) (lN (gH H p).2))).s_hitDocument (upd S.hitDocument (p + 1) (nI ((gH H p).1)))) := ((mA.rf S).a_hitScore _ (by decide)).a_hitDocument _ (by decide)
      have hps : posH H x.2 (p + 1) = posH H x.2 p := if_pos hlt
      rw [hps] at KK
      exact l6_M_place hA h250 hx hH p _ (by omega) hd (shH_s hz hpl) (fun S2 e2 z2 => KK S2 (hm1.tr e2) z2)
theorem c_M_place (hA : A.length = 84) (h250 : H.length < 250) (hx : x.2 ≤ 8000000000) (hH : ∀ y, y ∈ H → y.2 ≤ 8000000000) (hz : hitM S H) : am_C X mt_M_place d [.ref 84, .int (nI x.1), .long (lN x.2)] (mput A S B) (fun r h1 => r = none ∧ ∃ S1, h1 = mput A S1 B ∧ mA [84, 85, 86] S S1 ∧ hitM S1 (insH H x)) := by
  show am_G X mt_M_place d 0 [some (.ref 84), some (.int (nI x.1)), some (.long (lN x.2)), none, none] [] (mput A S B) _
  refine g_aload_n (pc := 0) dc_M_place_0 rfl ?_
  refine g_getfield (pc := 1) (v := .int (nI H.length)) dc_M_place_1 fl_M_547 (mp_o hA) (congrArg (fun z => some (Value.int (nI z))) hz.1) ?_
  refine g_istore (pc := 4) dc_M_place_4 (by decide) ?_
  show am_G X mt_M_place _ 6 [some (.ref 84), some (.int (nI x.1)), some (.long (lN x.2)), none, some (.int (nI H.length))] [] _ _
  refine l6_M_place hA h250 hx hH H.length S (Nat.le_refl _) hz.1 (shH_0 hz.2) (fun S2 e2 z2 => ?_)
  have hd2 := (e2.hits (by decide)).trans hz.1
  have hpl := posH_le (H := H) (s := x.2) H.length
  obtain ⟨p1, hp1⟩ : ∃ p1, p1 = posH H x.2 H.length := ⟨_, rfl⟩
  rw [← hp1] at z2 hpl ⊢
  refine g_aload_n (pc := 63) dc_M_place_63 rfl ?_
  refine g_getfield (pc := 64) dc_M_place_64 fl_M_403 (mp_o hA) rfl ?_
  refine g_iload (pc := 67) dc_M_place_67 rfl ?_
  refine g_lload_n (pc := 69) dc_M_place_69 rfl ?_
  refine as_hitScore (pc := 70) p1 hA dc_M_place_70 (by omega) ?_
  refine g_aload_n (pc := 71) dc_M_place_71 rfl ?_
  refine g_getfield (pc := 72) dc_M_place_72 fl_M_400 (mp_o hA) rfl ?_
  refine g_iload (pc := 75) dc_M_place_75 rfl ?_
  refine g_iload_n (pc := 77) dc_M_place_77 rfl ?_
  refine asE_hitDocument (pc := 78) p1 (g := upd S2.hitDocument p1 (nI x.1)) hA dc_M_place_78 (by omega) (rfl) ?_
  refine g_aload_n (pc := 79) dc_M_place_79 rfl ?_
  refine g_dup (pc := 80) dc_M_place_80 rfl ?_
  refine g_getfield (pc := 81) (v := .int (nI H.length)) dc_M_place_81 fl_M_547 (mp_o hA) (congrArg (fun z => some (Value.int (nI z))) hd2) ?_
  refine g_iconst (pc := 84) (v := 1) dc_M_place_84 rfl ?_
  refine g_iadd (pc := 85) (v := (nI (H.length + 1))) dc_M_place_85 (nI_add H.length 1) ?_
  refine pf_hits (pc := 86) (v := H.length + 1) hA dc_M_place_86 fp_M_place_547 ?_
  have hm9 : mA [84, 85, 86] S2 (((S2.s_hitScore (vp_updL S2.hitScore p1 (lN x.2))).s_hitDocument (upd S2.hitDocument p1 (nI x.1))).s_hits (H.length + 1)) := (((mA.rf S2).a_hitScore _ (by decide)).a_hitDocument _ (by decide)).a_hits _ (by decide)
  exact g_return dc_M_place_89 rfl ⟨rfl, (((S2.s_hitScore (vp_updL S2.hitScore p1 (lN x.2))).s_hitDocument (upd S2.hitDocument p1 (nI x.1))).s_hits (H.length + 1)), rfl, (e2.mo (by decide)).tr hm9, by rw [insH_len]; rfl, by unfold insH; rw [← hp1]; exact shH_e z2 hpl⟩
end GCS
