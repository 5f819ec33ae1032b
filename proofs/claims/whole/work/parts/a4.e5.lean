/-! ===== the finder reads, looks, is fed ===== -/
/-- look(p): the rows, if there are any -/
def lok (L : List Int32) (p : Int32) : Option (List (List Int32)) := match fsa L with
  | none => none
  | some D => match ixo p 2 with
    | none => none
    | some 0 => some (pgL (rst L) D)
    | some (_ + 1) => some (pgW (rst L))
section E5S
variable {X : am_X} {d i k n : Nat} {D L E : List Int32} {w w0 w1 : Gw} {h h0 h1 : List va_E} {I : List Nat} {T Rs Rt Sd : List (List Int32)} {p x : Int32} {P : List Pg}
theorem its_wd : ∀ (n p : Nat), p ≤ L.length → ((its L n p).flatMap (pwd L)).flatten.length + ((its L n p).flatMap (pwd L)).length ≤ 2 * (L.length - p)
  | 0, p, _ => Nat.zero_le _
  | n + 1, p, hp => by
    by_cases hpl : p < L.length
    · have hnb := nxT_bd hpl
      rw [its_s hpl, List.flatMap_cons, List.flatten_append, List.length_append, List.length_append]
      have ih := its_wd n (nxT L p) hnb.2
      have h9 : (pwd L p).flatten.length + (pwd L p).length ≤ nxT L p - p + 1 := by
        unfold pwd
        split
        · have h7 := dcd_len (L := L) (t := nxT L p) (nxT L p - p) p (Nat.le_refl _)
          have h8 := spl_len (M := dcd L p (nxT L p)) (dcd L p (nxT L p)).length 0 (by omega) (by omega)
          omega
        · exact Nat.zero_le _
      omega
    · rw [its_out (by omega)]
      exact Nat.zero_le _
theorem pgW_len : (pgW L).flatten.length + (pgW L).length ≤ 2 * L.length := its_wd L.length 0 (Nat.zero_le _)
theorem wB_A_resolve {R0 : List Int32} {q c f t : Nat} {bo : Option (List Int32)} (hA : aR w h) (hr : bE w h 8 8 R0) (hb : bE w h 5 5 (bo.getD [])) (ho : ∀ D, bo = some D → okD D) (hx : tO w h q c 0 L) (hq : ¬ q = 8 ∧ ¬ q = 10) (hft : f ≤ t) (ht : t ≤ L.length) (hL8 : L.length ≤ 8000) : am_C X mt_A_resolve (d + 7) [.ref 7, .ref c, .int (nI f), .int (nI t), .ref 5] h (fun r h1 => (∃ v, r = some (.int v)) ∧ ∃ w1, fr w w1 h h1 [8, 10] ∧ aR w1 h1 ∧ bE w1 h1 8 8 ((mrr L f t bo).getD [])) := by
  have fin : ∀ (r : Option Value) (h1 : List va_E), (∃ w1, fr w w1 h h1 [8, 10] ∧ aR w1 h1 ∧ match mrr L f t bo with | some E => r = some (.int 1) ∧ bE w1 h1 8 8 E | none => r = some (.int 0) ∧ bE w1 h1 8 8 []) → (∃ v, r = some (.int v)) ∧ ∃ w1, fr w w1 h h1 [8, 10] ∧ aR w1 h1 ∧ bE w1 h1 8 8 ((mrr L f t bo).getD []) := fun r h1 hz => by
    obtain ⟨w1, z1, z2, z3⟩ := hz
    cases e : mrr L f t bo with
    | none => rw [e] at z3; exact ⟨⟨_, z3.1⟩, w1, z1, z2, z3.2⟩
    | some E => rw [e] at z3; exact ⟨⟨_, z3.1⟩, w1, z1, z2, z3.2⟩
  cases bo with
  | none =>
    have h9 := wE_A_resolve (X := X) (d := d) (s := 0) hA hr hb (by decide) hx hq hft ht hL8
    rw [Nat.zero_add, Nat.zero_add] at h9
    exact am_G.mono h9 fin
  | some D =>
    have h9 := wD_A_resolve (X := X) (d := d) (s := 0) hA hr hb (by decide) (ho D rfl) hx hq hft ht hL8
    rw [Nat.zero_add, Nat.zero_add] at h9
    exact am_G.mono h9 fin
theorem w2_W_resolveLine (hW : wO w h) (hT : bE w h 1 1 L) (hA : aR w h) (h8B : eB w h 8 8) (h8 : L.length ≤ 8000) : am_C X mt_W_resolveLine (d + 8) [.ref 0] h (fun r h1 => (∃ v, r = some (.int v)) ∧ ∃ w1, fr w w1 h h1 [8, 10] ∧ aR w1 h1 ∧ bE w1 h1 8 8 ((fsa L).getD [])) := am_G.mono (w_W_resolveLine (d := d) hW hT hA h8B h8) (fun r h1 hz => by
    obtain ⟨w1, z1, z2, z3⟩ := hz
    cases e : fsa L with
    | none => rw [e] at z3; exact ⟨⟨_, z3.1⟩, w1, z1, z2, z3.2⟩
    | some E => rw [e] at z3; exact ⟨⟨_, z3.1⟩, w1, z1, z2, z3.2⟩)
theorem by4_l {v : Int32} : (by4 v).length = 4 := rfl
theorem getD_len {o : Option (List Int32)} (hk : ∀ D, o = some D → okD D) : (o.getD []).length ≤ 200 := by
  cases o with
  | none => exact Nat.zero_le _
  | some D => exact (hk D rfl).2.2.2.2.1
theorem w_W_read (hW_0 : wO w0 h0) (hT_0 : bE w0 h0 1 1 L) (hS_0 : rdC w0 h0) (h8 : L.length ≤ 8000) (hB_0 : eB w0 h0 5 5) (hP_0 : eB w0 h0 3 3) : am_C X mt_W_read (d + 9) [.ref 0] h0 (fun r h1 => r = some (.int (nI (rdA L).length)) ∧ ∃ w1, fr w0 w1 h0 h1 [1, 3, 5, 8, 10] ∧ rdC w1 h1 ∧ bE w1 h1 1 1 [] ∧ bE w1 h1 3 3 (rdA L) ∧ eB w1 h1 5 5) := by
  show am_G X mt_W_read (d + 9) 0 [some (.ref 0)] [] h0 _
  have hbL := hT_0.bt
  have hF := getD_len (o := fsa L) (fun D e => fsa_ok hbL e)
  have hrA : (rdA L).length ≤ 200 := getD_len (fun D e => mrr_ok (L := L) bhf_le (Nat.le_refl _) hbL (fun D9 h9 => fsa_ok hbL h9) e)
  have G0 : fr w0 w0 h0 h0 [1, 3, 5, 8, 10] := fr.rf
  refine g_aload_n (pc := 0) dc_W_read_0 rfl ?_
  refine g_v0 (pc := 1) (M' := mt_W_resolveLine) dc_W_read_1 mo_W_resolveLine im_W_resolveLine se_W_resolveLine ln_W_98 hW_0.1 rfl rfl (Nat.le_of_ble_eq_true rfl) (Nat.le_of_ble_eq_true rfl) (am_G.mono (w2_W_resolveLine (d := d) hW_0 hT_0 hS_0.ar.1 hS_0.ar.2 h8) ?_)
  intro r h1 hz
  obtain ⟨⟨v, hv⟩, w1, g1, hA_1, h8_1⟩ := hz
  rw [hv]
  have hS_1 := rdC_nw hS_0 g1 hA_1 ⟨_, h8_1⟩ (by decide)
  have hW_1 := hW_0.fr g1 (by decide)
  have hT_1 := hT_0.fr g1 (by decide)
  have hB_1 := hB_0.fr g1 (by decide)
  have hP_1 := hP_0.fr g1 (by decide)
  have G1 := G0.tr (g1.mo (by decide : ∀ x, x ∈ [8, 10] → x ∈ [1, 3, 5, 8, 10]))
  obtain ⟨LB, hB_1b⟩ := hB_1
  have hB_1c := hB_1b
  obtain ⟨b5, q5⟩ := hB_1c
  refine ⟨am_nti _, ?_⟩
  refine g_pop (pc := 4) dc_W_read_4 rfl ?_
  refine g_aload_n (pc := 5) dc_W_read_5 rfl ?_
  refine g_getfield (pc := 6) dc_W_read_6 fl_W_21 hW_1.1 rfl ?_
  refine g_aload_n (pc := 9) dc_W_read_9 rfl ?_
  refine g_getfield (pc := 10) dc_W_read_10 fl_W_27 hW_1.1 rfl ?_
  refine g_getfield (pc := 13) dc_W_read_13 fl_W_102 hA_1.1.1 rfl ?_
  refine g_v1 (pc := 16) (M' := mt_B_become) dc_W_read_16 mo_B_become im_B_become se_B_become ln_W_105 q5.1.ha rfl rfl (Nat.le_of_ble_eq_true rfl) (Nat.le_of_ble_eq_true rfl) (am_G.mono (w_B_become (d := d + 5) (i := 5) (j := 8) (by decide) hB_1b h8_1 (by decide) (by show 2 * _ + 16 ≤ 40016; omega)) ?_)
  intro r h2 hz
  obtain ⟨y1, w2, g2, hB_2⟩ := hz
  rw [y1]
  clear y1 r
  have hS_2 := hS_1.fr g2 (by decide)
  have hA_2 := hA_1.fr g2 (by decide) (by decide) (by decide)
  have h8_2 := h8_1.fr g2 (by decide)
  have hW_2 := hW_1.fr g2 (by decide)
  have hT_2 := hT_1.fr g2 (by decide)
  have hP_2 := hP_1.fr g2 (by decide)
  have G2 := G1.tr (g2.mo (by decide : ∀ x, x ∈ [5] → x ∈ [1, 3, 5, 8, 10]))
  have hT_2c := hT_2
  obtain ⟨b1t, q1t⟩ := hT_2c
  refine ⟨am_nt0, ?_⟩
  refine g_aload_n (pc := 19) dc_W_read_19 rfl ?_
  refine g_getfield (pc := 20) dc_W_read_20 fl_W_27 hW_2.1 rfl ?_
  refine g_aload_n (pc := 23) dc_W_read_23 rfl ?_
  refine g_getfield (pc := 24) dc_W_read_24 fl_W_12 hW_2.1 rfl ?_
  refine g_getfield (pc := 27) dc_W_read_27 fl_W_109 q1t.1.ha rfl ?_
  refine g_aload_n (pc := 30) dc_W_read_30 rfl ?_
  refine g_v0 (pc := 31) (M' := mt_W_restFrom) dc_W_read_31 mo_W_restFrom im_W_restFrom se_W_restFrom ln_W_113 hW_2.1 rfl rfl (Nat.le_of_ble_eq_true rfl) (Nat.le_of_ble_eq_true rfl) (am_G.mono (c_W_restFrom (d := d + 6) hW_2 hT_2 h8) ?_)
  intro r h1 hq
  rw [hq.1, hq.2]
  clear hq h1 r
  refine ⟨am_nti _, ?_⟩
  refine g_aload_n (pc := 34) dc_W_read_34 rfl ?_
  refine g_getfield (pc := 35) dc_W_read_35 fl_W_12 hW_2.1 rfl ?_
  refine g_getfield (pc := 38) dc_W_read_38 fl_W_85 q1t.1.ha rfl ?_
  refine g_aload_n (pc := 41) dc_W_read_41 rfl ?_
  refine g_getfield (pc := 42) dc_W_read_42 fl_W_21 hW_2.1 rfl ?_
  refine g_v4 (pc := 45) (M' := mt_A_resolve) dc_W_read_45 mo_A_resolve im_A_resolve se_A_resolve ln_W_117 hA_2.1.1 rfl rfl (Nat.le_of_ble_eq_true rfl) (Nat.le_of_ble_eq_true rfl) (am_G.mono (wB_A_resolve (d := d + 1) (L := L) (f := bhf L) (t := L.length) (q := 1) (c := b1t) (bo := fsa L) hA_2 h8_2 hB_2 (fun D e => fsa_ok hbL e) q1t.tO (by decide) bhf_le (Nat.le_refl _) h8) ?_)
  intro r h3 hz
  obtain ⟨⟨v3, hv3⟩, w3, g3, hA_3, h8_3⟩ := hz
  rw [hv3]
  have hS_3 := rdC_nw hS_2 g3 hA_3 ⟨_, h8_3⟩ (by decide)
  rw [show (mrr L (bhf L) L.length (fsa L)).getD [] = rdA L from rfl] at h8_3
  have hW_3 := hW_2.fr g3 (by decide)
  have hT_3 := hT_2.fr g3 (by decide)
  have hB_3 := hB_2.fr g3 (by decide)
  have hP_3 := hP_2.fr g3 (by decide)
  have G3 := G2.tr (g3.mo (by decide : ∀ x, x ∈ [8, 10] → x ∈ [1, 3, 5, 8, 10]))
  have hT_3c := hT_3
  obtain ⟨b1u, q1u⟩ := hT_3c
  refine ⟨am_nti _, ?_⟩
  refine g_pop (pc := 48) dc_W_read_48 rfl ?_
  refine g_aload_n (pc := 49) dc_W_read_49 rfl ?_
  refine g_getfield (pc := 50) dc_W_read_50 fl_W_12 hW_3.1 rfl ?_
  refine g_v0 (pc := 53) (M' := mt_B_clear) dc_W_read_53 mo_B_clear im_B_clear se_B_clear ln_W_121 q1u.1.ha rfl rfl (Nat.le_of_ble_eq_true rfl) (Nat.le_of_ble_eq_true rfl) (am_G.mono (w_B_clear (i := 1) (by decide) hT_3) ?_)
  intro r h4 hz
  obtain ⟨y1, w4, g4, hT_4⟩ := hz
  rw [y1]
  clear y1 r
  have hS_4 := hS_3.fr g4 (by decide)
  have hA_4 := hA_3.fr g4 (by decide) (by decide) (by decide)
  have h8_4 := h8_3.fr g4 (by decide)
  have hW_4 := hW_3.fr g4 (by decide)
  have hB_4 := hB_3.fr g4 (by decide)
  have hP_4 := hP_3.fr g4 (by decide)
  have G4 := G3.tr (g4.mo (by decide : ∀ x, x ∈ [1] → x ∈ [1, 3, 5, 8, 10]))
  obtain ⟨LP, hP_4b⟩ := hP_4
  have hP_4c := hP_4b
  obtain ⟨b3, q3⟩ := hP_4c
  refine ⟨am_nt0, ?_⟩
  refine g_aload_n (pc := 56) dc_W_read_56 rfl ?_
  refine g_getfield (pc := 57) dc_W_read_57 fl_W_18 hW_4.1 rfl ?_
  refine g_aload_n (pc := 60) dc_W_read_60 rfl ?_
  refine g_getfield (pc := 61) dc_W_read_61 fl_W_27 hW_4.1 rfl ?_
  refine g_getfield (pc := 64) dc_W_read_64 fl_W_102 hA_4.1.1 rfl ?_
  refine g_v1 (pc := 67) (M' := mt_B_become) dc_W_read_67 mo_B_become im_B_become se_B_become ln_W_105 q3.1.ha rfl rfl (Nat.le_of_ble_eq_true rfl) (Nat.le_of_ble_eq_true rfl) (am_G.mono (w_B_become (d := d + 5) (i := 3) (j := 8) (by decide) hP_4b h8_4 (by decide) (by show 2 * _ + 16 ≤ 40016; omega)) ?_)
  intro r h5 hz
  obtain ⟨y1, w5, g5, hP_5⟩ := hz
  rw [y1]
  clear y1 r
  have hS_5 := hS_4.fr g5 (by decide)
  have hW_5 := hW_4.fr g5 (by decide)
  have hT_5 := hT_4.fr g5 (by decide)
  have hB_5 := hB_4.fr g5 (by decide)
  have G5 := G4.tr (g5.mo (by decide : ∀ x, x ∈ [3] → x ∈ [1, 3, 5, 8, 10]))
  have hP_5c := hP_5
  obtain ⟨b3u, q3u⟩ := hP_5c
  refine ⟨am_nt0, ?_⟩
  refine g_aload_n (pc := 70) dc_W_read_70 rfl ?_
  refine g_getfield (pc := 71) dc_W_read_71 fl_W_18 hW_5.1 rfl ?_
  refine g_getfield (pc := 74) dc_W_read_74 fl_W_85 q3u.1.ha rfl ?_
  exact g_ireturn dc_W_read_77 rfl ⟨rfl, w5, G5, hS_5, hT_5, hP_5, ⟨_, hB_5⟩⟩
theorem w_W_feed {a1 a2 a3 a4 a5 : Int32} (hW : wO w h) (hT : bE w h 1 1 L) (h20 : L.length + 20 ≤ 8000) : am_C X mt_W_feed (d + 6) [.ref 0, .int a1, .int a2, .int a3, .int a4, .int a5] h (fun r h1 => r = none ∧ ∃ w1, fr w w1 h h1 [1] ∧ bE w1 h1 1 1 (L ++ by20 a1 a2 a3 a4 a5)) := by
  show am_G X mt_W_feed (d + 6) 0 [some (.ref 0), some (.int a1), some (.int a2), some (.int a3), some (.int a4), some (.int a5)] [] h _
  have hT_0 := hT
  have hW_0 := hW
  obtain ⟨bt0, q0⟩ := hT
  refine g_aload_n (pc := 0) dc_W_feed_0 rfl ?_
  refine g_getfield (pc := 1) dc_W_feed_1 fl_W_12 hW.1 rfl ?_
  refine g_getfield (pc := 4) dc_W_feed_4 fl_W_85 q0.1.ha rfl ?_
  refine g_bipush (pc := 7) (v := 20) dc_W_feed_7 rfl ?_
  refine g_iadd (pc := 9) (v := (nI (L.length + 20))) dc_W_feed_9 (nI_add L.length 20) ?_
  refine g_sipush (pc := 10) (v := 8000) dc_W_feed_10 rfl ?_
  refine q_icmp_le (pc := 13) (tgt := 24) (L.length + 20) 8000 dc_W_feed_13 (by omega) (by omega) rfl (fun hc13 => ?_) (fun hc => absurd hc (by omega))
  refine g_aload_n (pc := 24) dc_W_feed_24 rfl ?_
  refine g_getfield (pc := 25) dc_W_feed_25 fl_W_12 hW.1 rfl ?_
  refine g_iload_n (pc := 28) dc_W_feed_28 rfl ?_
  refine g_v1 (pc := 29) (M' := mt_B_putInt) dc_W_feed_29 mo_B_putInt im_B_putInt se_B_putInt ln_W_92 q0.1.ha rfl rfl (Nat.le_of_ble_eq_true rfl) (Nat.le_of_ble_eq_true rfl) (am_G.mono (w_B_putInt (d := d + 2) (i := 1) (by decide) hT_0 (by show 2 * _ + 24 ≤ 40016; omega)) ?_)
  intro r h1 hz
  obtain ⟨y1, w1, g1, hT_1⟩ := hz
  rw [y1]
  clear y1 r
  have hW_1 := hW_0.fr g1 (by decide)
  have hTc1 := hT_1
  obtain ⟨bt1, q1⟩ := hTc1
  refine ⟨am_nt0, ?_⟩
  refine g_aload_n (pc := 32) dc_W_feed_32 rfl ?_
  refine g_getfield (pc := 33) dc_W_feed_33 fl_W_12 hW_1.1 rfl ?_
  refine g_iload_n (pc := 36) dc_W_feed_36 rfl ?_
  refine g_v1 (pc := 37) (M' := mt_B_putInt) dc_W_feed_37 mo_B_putInt im_B_putInt se_B_putInt ln_W_92 q1.1.ha rfl rfl (Nat.le_of_ble_eq_true rfl) (Nat.le_of_ble_eq_true rfl) (am_G.mono (w_B_putInt (d := d + 2) (i := 1) (by decide) hT_1 (by simp only [List.length_append, by4_l]; show 2 * _ + 24 ≤ 40016; omega)) ?_)
  intro r h2 hz
  obtain ⟨y1, w2, g2, hT_2⟩ := hz
  rw [y1]
  clear y1 r
  have hW_2 := hW_1.fr g2 (by decide)
  have hTc2 := hT_2
  obtain ⟨bt2, q2⟩ := hTc2
  refine ⟨am_nt0, ?_⟩
  refine g_aload_n (pc := 40) dc_W_feed_40 rfl ?_
  refine g_getfield (pc := 41) dc_W_feed_41 fl_W_12 hW_2.1 rfl ?_
  refine g_iload_n (pc := 44) dc_W_feed_44 rfl ?_
  refine g_v1 (pc := 45) (M' := mt_B_putInt) dc_W_feed_45 mo_B_putInt im_B_putInt se_B_putInt ln_W_92 q2.1.ha rfl rfl (Nat.le_of_ble_eq_true rfl) (Nat.le_of_ble_eq_true rfl) (am_G.mono (w_B_putInt (d := d + 2) (i := 1) (by decide) hT_2 (by simp only [List.length_append, by4_l]; show 2 * _ + 24 ≤ 40016; omega)) ?_)
  intro r h3 hz
  obtain ⟨y1, w3, g3, hT_3⟩ := hz
  rw [y1]
  clear y1 r
  have hW_3 := hW_2.fr g3 (by decide)
  have hTc3 := hT_3
  obtain ⟨bt3, q3⟩ := hTc3
  refine ⟨am_nt0, ?_⟩
  refine g_aload_n (pc := 48) dc_W_feed_48 rfl ?_
  refine g_getfield (pc := 49) dc_W_feed_49 fl_W_12 hW_3.1 rfl ?_
  refine g_iload (pc := 52) dc_W_feed_52 rfl ?_
  refine g_v1 (pc := 54) (M' := mt_B_putInt) dc_W_feed_54 mo_B_putInt im_B_putInt se_B_putInt ln_W_92 q3.1.ha rfl rfl (Nat.le_of_ble_eq_true rfl) (Nat.le_of_ble_eq_true rfl) (am_G.mono (w_B_putInt (d := d + 2) (i := 1) (by decide) hT_3 (by simp only [List.length_append, by4_l]; show 2 * _ + 24 ≤ 40016; omega)) ?_)
  intro r h4 hz
  obtain ⟨y1, w4, g4, hT_4⟩ := hz
  rw [y1]
  clear y1 r
  have hW_4 := hW_3.fr g4 (by decide)
  have hTc4 := hT_4
  obtain ⟨bt4, q4⟩ := hTc4
  refine ⟨am_nt0, ?_⟩
  refine g_aload_n (pc := 57) dc_W_feed_57 rfl ?_
  refine g_getfield (pc := 58) dc_W_feed_58 fl_W_12 hW_4.1 rfl ?_
  refine g_iload (pc := 61) dc_W_feed_61 rfl ?_
  refine g_v1 (pc := 63) (M' := mt_B_putInt) dc_W_feed_63 mo_B_putInt im_B_putInt se_B_putInt ln_W_92 q4.1.ha rfl rfl (Nat.le_of_ble_eq_true rfl) (Nat.le_of_ble_eq_true rfl) (am_G.mono (w_B_putInt (d := d + 2) (i := 1) (by decide) hT_4 (by simp only [List.length_append, by4_l]; show 2 * _ + 24 ≤ 40016; omega)) ?_)
  intro r h5 hz
  obtain ⟨y1, w5, g5, hT_5⟩ := hz
  rw [y1]
  clear y1 r
  have hW_5 := hW_4.fr g5 (by decide)
  have hTc5 := hT_5
  obtain ⟨bt5, q5⟩ := hTc5
  refine ⟨am_nt0, ?_⟩
  exact g_return dc_W_feed_66 rfl ⟨rfl, w5, (((g1.tr g2).tr g3).tr g4).tr g5, by unfold by20; rw [← List.append_assoc, ← List.append_assoc, ← List.append_assoc, ← List.append_assoc]; exact hT_5⟩
theorem n_W_feed {a1 a2 a3 a4 a5 : Int32} (hl9 : X.1.stackTraces = false) (hW : wO w h) (hT : bE w h 1 1 L) (h8 : L.length ≤ 8000) (h20 : ¬ L.length + 20 ≤ 8000) : am_G X mt_W_feed (d + 6) 0 [some (.ref 0), some (.int a1), some (.int a2), some (.int a3), some (.int a4), some (.int a5)] [] h (fun r h1 => r = some (.double 0) ∧ h1 = h ++ [.inr (13, [.null, .null, .null, .null, .null, .null])]) := by
  obtain ⟨bt0, q0⟩ := hT
  refine g_aload_n (pc := 0) dc_W_feed_0 rfl ?_
  refine g_getfield (pc := 1) dc_W_feed_1 fl_W_12 hW.1 rfl ?_
  refine g_getfield (pc := 4) dc_W_feed_4 fl_W_85 q0.1.ha rfl ?_
  refine g_bipush (pc := 7) (v := 20) dc_W_feed_7 rfl ?_
  refine g_iadd (pc := 9) (v := (nI (L.length + 20))) dc_W_feed_9 (nI_add L.length 20) ?_
  refine g_sipush (pc := 10) (v := 8000) dc_W_feed_10 rfl ?_
  refine q_icmp_le (pc := 13) (tgt := 24) (L.length + 20) 8000 dc_W_feed_13 (by omega) (by omega) rfl (fun hc => absurd hc (by omega)) (fun hc13 => ?_)
  exact th_feed (d := d) hl9 (by decide) ⟨rfl, rfl⟩
theorem nI_lt9 {a b : Nat} (h1 : a < b) (h2 : b < 2 ^ 31) : nI a < nI b := Int32.lt_iff_toInt_lt.mpr (by rw [nI_toInt (by omega), nI_toInt h2]; omega)
theorem bE_take {bt : Nat} (hT : bE w h 1 1 L) (hn : n ≤ L.length) (q : bB w h 1 1 bt L) : fr w w h (h.set 1 (.inr (1, [.ref bt, .int (nI n)]))) [1] ∧ bE w (h.set 1 (.inr (1, [.ref bt, .int (nI n)]))) 1 1 (L.take n) := by
  have hl : (L.take n).length = n := by rw [List.length_take]; omega
  have c := q.1
  rw [show L = L.take n ++ L.drop n from (List.take_append_drop n L).symm] at c
  have c2 := c.cut
  rw [hl] at c2
  exact ⟨fr.st q.1.ha rfl q.2.1, bt, c2, q.2.1, q.2.2.1, q.2.2.2⟩
theorem w_W_end (hl9 : X.1.stackTraces = false) (hW : wO w h) (hT : bE w h 1 1 L) (h8 : L.length ≤ 8000) : am_G X mt_W_end (d + 6) 0 [some (.ref 0), some (.int p), none] [] h (fun r h1 => match ixo p (L.length + 1) with | none => r = some (.double 1) ∧ h1 = h ++ [.inr (14, [.null, .null, .null, .null, .null, .null])] | some n => r = some (.int (nI L.length)) ∧ ∃ w1, fr w w1 h h1 [1] ∧ bE w1 h1 1 1 (L.take n)) := by
  have hT0 := hT
  obtain ⟨bt0, q0⟩ := hT
  cases e : ixo p (L.length + 1) with
  | none =>
    have hout := ixo_n (by omega) e
    refine g_iload_n (pc := 0) dc_W_end_0 rfl ?_
    refine g_if_lt (pc := 1) (tgt := 15) dc_W_end_1 rfl (fun hc1 => ?_) (fun hc1 => ?_)
    · have hi1 : (p).toInt < (0 : Int) := Int32.lt_iff_toInt_lt.mp hc1
      exact th_end (d := d) hl9 (by decide) ⟨rfl, rfl⟩
    · have hi1 : ¬ ((p).toInt < (0 : Int)) := fun h9 => hc1 (Int32.lt_iff_toInt_lt.mpr h9)
      refine g_iload_n (pc := 4) dc_W_end_4 rfl ?_
      refine g_aload_n (pc := 5) dc_W_end_5 rfl ?_
      refine g_getfield (pc := 6) dc_W_end_6 fl_W_12 hW.1 rfl ?_
      refine g_getfield (pc := 9) dc_W_end_9 fl_W_85 q0.1.ha rfl ?_
      refine g_icmp_le (pc := 12) (tgt := 23) dc_W_end_12 rfl (fun hc => absurd hc (fun h8 => absurd (Int32.lt_of_lt_of_le (nI_lt9 (show L.length < L.length + 1 by omega) (by omega)) (hout.resolve_left hc1)) (Int32.not_lt.mpr h8))) (fun hc12 => ?_)
      exact th_end (d := d) hl9 (by decide) ⟨rfl, rfl⟩
  | some n =>
    obtain ⟨hn, rfl⟩ := ixo_s e
    refine g_iload_n (pc := 0) dc_W_end_0 rfl ?_
    refine q_if_lt (pc := 1) (tgt := 15) n dc_W_end_1 (by omega) rfl ?_
    refine g_iload_n (pc := 4) dc_W_end_4 rfl ?_
    refine g_aload_n (pc := 5) dc_W_end_5 rfl ?_
    refine g_getfield (pc := 6) dc_W_end_6 fl_W_12 hW.1 rfl ?_
    refine g_getfield (pc := 9) dc_W_end_9 fl_W_85 q0.1.ha rfl ?_
    refine q_icmp_le (pc := 12) (tgt := 23) n L.length dc_W_end_12 (by omega) (by omega) rfl (fun hc12 => ?_) (fun hc => absurd hc (by omega))
    refine g_aload_n (pc := 23) dc_W_end_23 rfl ?_
    refine g_getfield (pc := 24) dc_W_end_24 fl_W_12 hW.1 rfl ?_
    refine g_getfield (pc := 27) dc_W_end_27 fl_W_85 q0.1.ha rfl ?_
    refine g_istore_n (pc := 30) dc_W_end_30 (by decide) ?_
    show am_G X mt_W_end _ 31 [some (.ref 0), some (.int (nI n)), some (.int (nI L.length))] [] _ _
    refine g_aload_n (pc := 31) dc_W_end_31 rfl ?_
    refine g_getfield (pc := 32) dc_W_end_32 fl_W_12 hW.1 rfl ?_
    refine g_iload_n (pc := 35) dc_W_end_35 rfl ?_
    refine g_putfield (pc := 36) dc_W_end_36 fp_W_end_85 q0.1.ha (Nat.le_of_ble_eq_true rfl) rfl rfl ?_
    obtain ⟨g9, hT9⟩ := bE_take hT0 (show n ≤ L.length by omega) q0
    show am_G X mt_W_end _ 39 _ _ (h.set 1 (.inr (1, [.ref bt0, .int (nI n)]))) _
    refine g_iload_n (pc := 39) dc_W_end_39 rfl ?_
    exact g_ireturn dc_W_end_40 rfl ⟨rfl, w, g9, hT9⟩
end E5S
