/-! ===== the model ranks the documents ===== -/
section G4Q
variable {X : am_X} {M : am_Mt} {d pc : Nat} {l : am_lo} {st : List Value} {h : List va_E} {Q : Option Value → List va_E → Prop}
theorem q_laloadV {a n : Nat} (i : Nat) {v : Int64} {g : Nat → Int64} (hd : decode M.2.1 pc = .ok (.laload, 1)) (hh : h[a]? = some (.inl (2, n, .inr (.inl g)))) (hi : i < n) (hn : n < 2 ^ 31) (hv : g i = v) (k : am_G X M d (pc + 1) l (.long v :: st) h Q) : am_G X M d pc l (.int (nI i) :: .ref a :: st) h Q := q_laload i hd hh hi hn (by rw [hv]; exact k)
end G4Q
section G4S
variable {X : am_X} {d n p k t e dd : Nat} {A B h : List va_E} {S S1 : MS} {L : Nat → List Nat} {r : Nat → Nat} {Q : Option Value → List va_E → Prop} {l : List Nat} {v1 v2 v4 : Int32} {o2 o3 o4 o5 : Option Value}
theorem cnb_sm {p : Nat → Bool} : ∀ n, cnb p n = smN (fun e => if p e = true then 1 else 0) n
  | 0 => rfl
  | n + 1 => by
    show cnb p n + _ = smN _ n + _
    rw [cnb_sm n]
theorem cnb_len (hn : l.Nodup) (hx : ∀ x, x ∈ l → x < n) : cnb (fun b => decide (b ∈ l)) n = l.length := by
  rw [cnb_sm, smN_cg (g := fun e => if e ∈ l then 1 else 0) (fun e _ => by
    by_cases q : e ∈ l
    · rw [if_pos (decide_eq_true q), if_pos q]
    · rw [if_neg (by rw [decide_eq_false q]; decide), if_neg q]), smN_mem l hn hx, Nat.mul_one]
theorem acR_f (h : ¬ t ∈ L dd) : acR L r n (dd + 1) t = acR L r n dd t + 0 := by
  show _ + (if t ∈ L dd then _ else 0) = _
  rw [if_neg h]
theorem acR_t (h : t ∈ L dd) : acR L r n (dd + 1) t = acR L r n dd t + gvR (r dd) (L dd) := by
  show _ + (if t ∈ L dd then _ else 0) = _
  rw [if_pos h]
theorem ln_0 (h : n < 2 ^ 31) (h0 : 0 < n) : ¬ lN n = 0 := fun h9 => absurd ((lN_eq (a := n) (b := 0) h (by decide)).mp h9) (by omega)
theorem l2_M_rank (hA : A.length = 84) (hn : n ≤ 250) : ∀ (n9 t : Nat) (S : MS), t + n9 = n → S.documents = n → (∀ e, e < t → S.ranks e = lN (1000000 / n)) → (∀ S2, mA [81] S S2 → (∀ e, e < n → S2.ranks e = lN (1000000 / n)) → am_G X mt_M_rank d 31 [some (.ref 84), some (.int v1), none, none, none, none] [] (mput A S2 B) Q) → am_G X mt_M_rank d 2 [some (.ref 84), some (.int v1), some (.int (nI t)), none, none, none] [] (mput A S B) Q
  | 0, t, S, e9, hd, hz, hQ => by
    refine g_iload_n (pc := 2) dc_M_rank_2 rfl ?_
    refine g_aload_n (pc := 3) dc_M_rank_3 rfl ?_
    refine g_getfield (pc := 4) (v := .int (nI n)) dc_M_rank_4 fl_M_467 (mp_o hA) (congrArg (fun z => some (Value.int (nI z))) hd) ?_
    refine q_icmp_ge (pc := 7) (tgt := 31) t n dc_M_rank_7 (by omega) (by omega) rfl (fun hc7 => ?_) (fun hc => absurd hc (by omega))
    refine am_wk (am_le_s (am_le_s (am_le_n (am_le_n (am_le_n (am_le_n am_le_0)))))) ?_
    exact hQ S (mA.rf S) (fun e he => hz e (by omega))
  | n9 + 1, t, S, e9, hd, hz, hQ => by
    refine g_iload_n (pc := 2) dc_M_rank_2 rfl ?_
    refine g_aload_n (pc := 3) dc_M_rank_3 rfl ?_
    refine g_getfield (pc := 4) (v := .int (nI n)) dc_M_rank_4 fl_M_467 (mp_o hA) (congrArg (fun z => some (Value.int (nI z))) hd) ?_
    refine q_icmp_ge (pc := 7) (tgt := 31) t n dc_M_rank_7 (by omega) (by omega) rfl (fun hc => absurd hc (by omega)) (fun hc7 => ?_)
    refine g_aload_n (pc := 10) dc_M_rank_10 rfl ?_
    refine g_getfield (pc := 11) dc_M_rank_11 fl_M_389 (mp_o hA) rfl ?_
    refine g_iload_n (pc := 14) dc_M_rank_14 rfl ?_
    refine g_ldc2 (pc := 15) dc_M_rank_15 cl_M_476 ?_
    refine g_aload_n (pc := 18) dc_M_rank_18 rfl ?_
    refine g_getfield (pc := 19) (v := .int (nI n)) dc_M_rank_19 fl_M_467 (mp_o hA) (congrArg (fun z => some (Value.int (nI z))) hd) ?_
    refine g_i2l (pc := 22) dc_M_rank_22 (nI_l (n := n) (by omega)) ?_
    refine g_ldiv (pc := 23) dc_M_rank_23 (ln_0 (n := n) (by omega) (by omega)) (pk_lDiv (a := 1000000) (b := n) (by decide) (by omega) (by omega)) ?_
    refine as_ranks (pc := 24) t hA dc_M_rank_24 (by omega) ?_
    refine g_iinc (pc := 25) (v := (nI (t + 1))) dc_M_rank_25 rfl (nI_add t 1) (by decide) ?_
    show am_G X mt_M_rank _ 28 [some (.ref 84), some (.int v1), some (.int (nI (t + 1))), none, none, none] [] _ _
    refine g_goto (pc := 28) (tgt := 2) dc_M_rank_28 rfl ?_
    have hm1 : mA [81] S (S.s_ranks (vp_updL S.ranks t (lN (1000000 / n)))) := (mA.rf S).a_ranks _ (by decide)
    refine l2_M_rank hA hn n9 (t + 1) _ (by omega) hd (fun e he => ?_) (fun S2 e2 z => hQ S2 (hm1.tr e2) z)
    · show vp_updL S.ranks t (lN (1000000 / n)) e = (lN (1000000 / n))
      by_cases q : e = t
      · rw [q, pk_uLs]
      · rw [pk_uLn q]; exact hz e (by omega)
theorem l40_M_rank (hA : A.length = 84) (hn : n ≤ 250) : ∀ (n9 t : Nat) (S : MS), t + n9 = n → S.documents = n → (∀ e, e < t → S.nextRanks e = lN (150000 / n)) → (∀ S2, mA [82] S S2 → (∀ e, e < n → S2.nextRanks e = lN (150000 / n)) → am_G X mt_M_rank d 69 [some (.ref 84), some (.int v1), some (.int v2), none, none, none] [] (mput A S2 B) Q) → am_G X mt_M_rank d 40 [some (.ref 84), some (.int v1), some (.int v2), some (.int (nI t)), none, none] [] (mput A S B) Q
  | 0, t, S, e9, hd, hz, hQ => by
    refine g_iload_n (pc := 40) dc_M_rank_40 rfl ?_
    refine g_aload_n (pc := 41) dc_M_rank_41 rfl ?_
    refine g_getfield (pc := 42) (v := .int (nI n)) dc_M_rank_42 fl_M_467 (mp_o hA) (congrArg (fun z => some (Value.int (nI z))) hd) ?_
    refine q_icmp_ge (pc := 45) (tgt := 69) t n dc_M_rank_45 (by omega) (by omega) rfl (fun hc45 => ?_) (fun hc => absurd hc (by omega))
    refine am_wk (am_le_s (am_le_s (am_le_s (am_le_n (am_le_n (am_le_n am_le_0)))))) ?_
    exact hQ S (mA.rf S) (fun e he => hz e (by omega))
  | n9 + 1, t, S, e9, hd, hz, hQ => by
    refine g_iload_n (pc := 40) dc_M_rank_40 rfl ?_
    refine g_aload_n (pc := 41) dc_M_rank_41 rfl ?_
    refine g_getfield (pc := 42) (v := .int (nI n)) dc_M_rank_42 fl_M_467 (mp_o hA) (congrArg (fun z => some (Value.int (nI z))) hd) ?_
    refine q_icmp_ge (pc := 45) (tgt := 69) t n dc_M_rank_45 (by omega) (by omega) rfl (fun hc => absurd hc (by omega)) (fun hc45 => ?_)
    refine g_aload_n (pc := 48) dc_M_rank_48 rfl ?_
    refine g_getfield (pc := 49) dc_M_rank_49 fl_M_393 (mp_o hA) rfl ?_
    refine g_iload_n (pc := 52) dc_M_rank_52 rfl ?_
    refine g_ldc2 (pc := 53) dc_M_rank_53 cl_M_478 ?_
    refine g_aload_n (pc := 56) dc_M_rank_56 rfl ?_
    refine g_getfield (pc := 57) (v := .int (nI n)) dc_M_rank_57 fl_M_467 (mp_o hA) (congrArg (fun z => some (Value.int (nI z))) hd) ?_
    refine g_i2l (pc := 60) dc_M_rank_60 (nI_l (n := n) (by omega)) ?_
    refine g_ldiv (pc := 61) dc_M_rank_61 (ln_0 (n := n) (by omega) (by omega)) (pk_lDiv (a := 150000) (b := n) (by decide) (by omega) (by omega)) ?_
    refine as_nextRanks (pc := 62) t hA dc_M_rank_62 (by omega) ?_
    refine g_iinc (pc := 63) (v := (nI (t + 1))) dc_M_rank_63 rfl (nI_add t 1) (by decide) ?_
    show am_G X mt_M_rank _ 66 [some (.ref 84), some (.int v1), some (.int v2), some (.int (nI (t + 1))), none, none] [] _ _
    refine g_goto (pc := 66) (tgt := 40) dc_M_rank_66 rfl ?_
    have hm1 : mA [82] S (S.s_nextRanks (vp_updL S.nextRanks t (lN (150000 / n)))) := (mA.rf S).a_nextRanks _ (by decide)
    refine l40_M_rank hA hn n9 (t + 1) _ (by omega) hd (fun e he => ?_) (fun S2 e2 z => hQ S2 (hm1.tr e2) z)
    · show vp_updL S.nextRanks t (lN (150000 / n)) e = (lN (150000 / n))
      by_cases q : e = t
      · rw [q, pk_uLs]
      · rw [pk_uLn q]; exact hz e (by omega)
theorem l89_M_rank (hA : A.length = 84) (hn : n ≤ 250) (hdd : dd < n) (hr6 : r dd ≤ 1000000) (hl60 : (L dd).length ≤ 250) : ∀ (n9 t : Nat) (S : MS), t + n9 = n → S.documents = n → ldm S n n L → S.ranks dd = lN (r dd) → (∀ e, e < n → S.nextRanks e = lN (if e < t then acR L r n (dd + 1) e else acR L r n dd e)) → (∀ S2, mA [82] S S2 → (∀ e, e < n → S2.nextRanks e = lN (acR L r n (dd + 1) e)) → am_G X mt_M_rank d 152 [some (.ref 84), some (.int v1), some (.int v2), some (.int (nI dd)), none, none] [] (mput A S2 B) Q) → am_G X mt_M_rank d 89 [some (.ref 84), some (.int v1), some (.int v2), some (.int (nI dd)), some (.int (nI (L dd).length)), some (.int (nI t))] [] (mput A S B) Q
  | 0, t, S, e9, hd, hL, hr, hz, hQ => by
    refine g_iload (pc := 89) dc_M_rank_89 rfl ?_
    refine g_aload_n (pc := 91) dc_M_rank_91 rfl ?_
    refine g_getfield (pc := 92) (v := .int (nI n)) dc_M_rank_92 fl_M_467 (mp_o hA) (congrArg (fun z => some (Value.int (nI z))) hd) ?_
    refine q_icmp_ge (pc := 95) (tgt := 152) t n dc_M_rank_95 (by omega) (by omega) rfl (fun hc95 => ?_) (fun hc => absurd hc (by omega))
    refine am_wk (am_le_s (am_le_s (am_le_s (am_le_s (am_le_n (am_le_n am_le_0)))))) ?_
    exact hQ S (mA.rf S) (fun e he => by have := hz e he; rw [if_pos (by omega)] at this; exact this)
  | n9 + 1, t, S, e9, hd, hL, hr, hz, hQ => by
    have ht : t < n := by omega
    have hzt := hz t ht
    rw [if_neg (Nat.lt_irrefl t)] at hzt
    refine g_iload (pc := 89) dc_M_rank_89 rfl ?_
    refine g_aload_n (pc := 91) dc_M_rank_91 rfl ?_
    refine g_getfield (pc := 92) (v := .int (nI n)) dc_M_rank_92 fl_M_467 (mp_o hA) (congrArg (fun z => some (Value.int (nI z))) hd) ?_
    refine q_icmp_ge (pc := 95) (tgt := 152) t n dc_M_rank_95 (by omega) (by omega) rfl (fun hc => absurd hc (by omega)) (fun hc95 => ?_)
    refine g_aload_n (pc := 98) dc_M_rank_98 rfl ?_
    refine g_getfield (pc := 99) dc_M_rank_99 fl_M_393 (mp_o hA) rfl ?_
    refine g_iload (pc := 102) dc_M_rank_102 rfl ?_
    refine g_dup2 (pc := 104) dc_M_rank_104 rfl rfl ?_
    refine q_laloadV (pc := 105) t dc_M_rank_105 (mp_a hA 45 rfl) (by omega) (by omega) (v :=  (lN (acR L r n dd t))) hzt ?_
    refine g_aload_n (pc := 106) dc_M_rank_106 rfl ?_
    refine g_getfield (pc := 107) dc_M_rank_107 fl_M_397 (mp_o hA) rfl ?_
    refine g_sipush (pc := 110) (v := 250) dc_M_rank_110 rfl ?_
    refine g_iload_n (pc := 113) dc_M_rank_113 rfl ?_
    refine g_imul (pc := 114) (v := (nI (250 * dd))) dc_M_rank_114 (pk_mul 250 dd) ?_
    refine g_iload (pc := 115) dc_M_rank_115 rfl ?_
    refine g_iadd (pc := 117) (v := (nI (250 * dd + t))) dc_M_rank_117 (nI_add (250 * dd) t) ?_
    refine q_zaloadV (pc := 118) (250 * dd + t) dc_M_rank_118 (mp_a hA 46 rfl) (by omega) (by omega) (v := (b1 (decide (t ∈ L dd)))) (hL dd t hdd ht) ?_
    refine q_ifb_eq (pc := 119) (tgt := 143) dc_M_rank_119 rfl (fun hc119 => ?_) (fun hc119 => ?_)
    · refine g_lconst (pc := 143) (v := 0) dc_M_rank_143 rfl ?_
      refine g_ladd (pc := 144) dc_M_rank_144 ((lN_add (acR L r n dd t) 0).trans (congrArg lN (acR_f (of_decide_eq_false hc119)).symm)) ?_
      refine as_nextRanks (pc := 145) t hA dc_M_rank_145 (by omega) ?_
      refine g_iinc (pc := 146) (v := (nI (t + 1))) dc_M_rank_146 rfl (nI_add t 1) (by decide) ?_
      show am_G X mt_M_rank _ 149 [some (.ref 84), some (.int v1), some (.int v2), some (.int (nI dd)), some (.int (nI ((L dd).length))), some (.int (nI (t + 1)))] [] _ _
      refine g_goto (pc := 149) (tgt := 89) dc_M_rank_149 rfl ?_
      have hm1 : mA [82] S (S.s_nextRanks (vp_updL S.nextRanks t (lN (acR L r n (dd + 1) t)))) := (mA.rf S).a_nextRanks _ (by decide)
      refine l89_M_rank hA hn hdd hr6 hl60 n9 (t + 1) _ (by omega) hd (hL.m hm1 (by decide)) hr (fun e he => ?_) (fun S2 e2 z => hQ S2 (hm1.tr e2) z)
      show vp_updL S.nextRanks t (lN (acR L r n (dd + 1) t)) e = _
      by_cases q : e = t
      · rw [q, pk_uLs, if_pos (Nat.lt_succ_self t)]
      · rw [pk_uLn q, hz e he]
        by_cases q2 : e < t
        · rw [if_pos q2, if_pos (by omega)]
        · rw [if_neg q2, if_neg (by omega)]
    · refine g_ldc2 (pc := 122) dc_M_rank_122 cl_M_483 ?_
      refine g_aload_n (pc := 125) dc_M_rank_125 rfl ?_
      refine g_getfield (pc := 126) dc_M_rank_126 fl_M_389 (mp_o hA) rfl ?_
      refine g_iload_n (pc := 129) dc_M_rank_129 rfl ?_
      refine q_laloadV (pc := 130) dd dc_M_rank_130 (mp_a hA 44 rfl) (by omega) (by omega) (v :=  (lN (r dd))) hr ?_
      refine g_lmul (pc := 131) dc_M_rank_131 (lN_mul 85 (r dd)) ?_
      refine g_ldc2 (pc := 132) dc_M_rank_132 cl_M_485 ?_
      refine g_ldiv (pc := 135) dc_M_rank_135 (by decide) (pk_lDiv (a := 85 * r dd) (b := 100) (by omega) (by decide) (by decide)) ?_
      refine g_iload (pc := 136) dc_M_rank_136 rfl ?_
      have hlp : 0 < (L dd).length := List.length_pos_of_mem (of_decide_eq_true hc119)
      refine g_i2l (pc := 138) dc_M_rank_138 (nI_l (n := (L dd).length) (by omega)) ?_
      refine g_ldiv (pc := 139) dc_M_rank_139 (ln_0 (n := (L dd).length) (by omega) (by omega)) (pk_lDiv (a := 85 * r dd / 100) (b := (L dd).length) (by omega) (by omega) (by omega)) ?_
      refine g_goto (pc := 140) (tgt := 144) dc_M_rank_140 rfl ?_
      refine g_ladd (pc := 144) dc_M_rank_144 ((lN_add (acR L r n dd t) (gvR (r dd) (L dd))).trans (congrArg lN (acR_t (of_decide_eq_true hc119)).symm)) ?_
      refine as_nextRanks (pc := 145) t hA dc_M_rank_145 (by omega) ?_
      refine g_iinc (pc := 146) (v := (nI (t + 1))) dc_M_rank_146 rfl (nI_add t 1) (by decide) ?_
      show am_G X mt_M_rank _ 149 [some (.ref 84), some (.int v1), some (.int v2), some (.int (nI dd)), some (.int (nI ((L dd).length))), some (.int (nI (t + 1)))] [] _ _
      refine g_goto (pc := 149) (tgt := 89) dc_M_rank_149 rfl ?_
      have hm1 : mA [82] S (S.s_nextRanks (vp_updL S.nextRanks t (lN (acR L r n (dd + 1) t)))) := (mA.rf S).a_nextRanks _ (by decide)
      refine l89_M_rank hA hn hdd hr6 hl60 n9 (t + 1) _ (by omega) hd (hL.m hm1 (by decide)) hr (fun e he => ?_) (fun S2 e2 z => hQ S2 (hm1.tr e2) z)
      show vp_updL S.nextRanks t (lN (acR L r n (dd + 1) t)) e = _
      by_cases q : e = t
      · rw [q, pk_uLs, if_pos (Nat.lt_succ_self t)]
      · rw [pk_uLn q, hz e he]
        by_cases q2 : e < t
        · rw [if_pos q2, if_pos (by omega)]
        · rw [if_neg q2, if_neg (by omega)]
theorem l71_M_rank (hA : A.length = 84) (hn : n ≤ 250) (hLs : ∀ a, a < n → (L a).Nodup ∧ ∀ x, x ∈ L a → x < n) (hr6 : ∀ e, e < n → r e ≤ 1000000) : ∀ (n9 dd : Nat) (S : MS), dd + n9 = n → S.documents = n → ldm S n n L → (∀ e, e < n → S.ranks e = lN (r e)) → (∀ e, e < n → S.nextRanks e = lN (acR L r n dd e)) → (∀ S2, mA [82] S S2 → (∀ e, e < n → S2.nextRanks e = lN (acR L r n n e)) → am_G X mt_M_rank (d + 1) 158 [some (.ref 84), some (.int v1), some (.int v2), none, none, none] [] (mput A S2 B) Q) → am_G X mt_M_rank (d + 1) 71 [some (.ref 84), some (.int v1), some (.int v2), some (.int (nI dd)), none, none] [] (mput A S B) Q
  | 0, dd, S, e9, hd, hL, hr, hz, hQ => by
    refine g_iload_n (pc := 71) dc_M_rank_71 rfl ?_
    refine g_aload_n (pc := 72) dc_M_rank_72 rfl ?_
    refine g_getfield (pc := 73) (v := .int (nI n)) dc_M_rank_73 fl_M_467 (mp_o hA) (congrArg (fun z => some (Value.int (nI z))) hd) ?_
    refine q_icmp_ge (pc := 76) (tgt := 158) dd n dc_M_rank_76 (by omega) (by omega) rfl (fun hc76 => ?_) (fun hc => absurd hc (by omega))
    refine am_wk (am_le_s (am_le_s (am_le_s (am_le_n (am_le_n (am_le_n am_le_0)))))) ?_
    exact hQ S (mA.rf S) (fun e he => by have := hz e he; rw [show dd = n by omega] at this; exact this)
  | n9 + 1, dd, S, e9, hd, hL, hr, hz, hQ => by
    have hdd : dd < n := by omega
    have hcn := cnb_len (hLs dd hdd).1 (hLs dd hdd).2
    have hcl := cnb_le (p := fun b => decide (b ∈ L dd)) n
    rw [hcn] at hcl
    refine g_iload_n (pc := 71) dc_M_rank_71 rfl ?_
    refine g_aload_n (pc := 72) dc_M_rank_72 rfl ?_
    refine g_getfield (pc := 73) (v := .int (nI n)) dc_M_rank_73 fl_M_467 (mp_o hA) (congrArg (fun z => some (Value.int (nI z))) hd) ?_
    refine q_icmp_ge (pc := 76) (tgt := 158) dd n dc_M_rank_76 (by omega) (by omega) rfl (fun hc => absurd hc (by omega)) (fun hc76 => ?_)
    refine g_aload_n (pc := 79) dc_M_rank_79 rfl ?_
    refine g_iload_n (pc := 80) dc_M_rank_80 rfl ?_
    refine g_v1 (pc := 81) (M' := mt_M_ways) dc_M_rank_81 mo_M_ways im_M_ways se_M_ways ln_M_480 (mp_o hA) rfl rfl (Nat.le_of_ble_eq_true rfl) (Nat.le_of_ble_eq_true rfl) (am_G.mono (c_M_ways (d := d) hA hd hn (ldm_M hL) hdd) ?_)
    intro r9 h9 hq
    rw [hq.1, hq.2, hcn]
    clear hq h9 r9
    refine ⟨am_nti _, ?_⟩
    refine g_istore (pc := 84) dc_M_rank_84 (by decide) ?_
    show am_G X mt_M_rank _ 86 [some (.ref 84), some (.int v1), some (.int v2), some (.int (nI dd)), some (.int (nI ((L dd).length))), none] [] _ _
    refine g_iconst (pc := 86) (v := 0) dc_M_rank_86 rfl ?_
    refine g_istore (pc := 87) dc_M_rank_87 (by decide) ?_
    show am_G X mt_M_rank _ 89 [some (.ref 84), some (.int v1), some (.int v2), some (.int (nI dd)), some (.int (nI ((L dd).length))), some (.int 0)] [] _ _
    refine l89_M_rank hA hn hdd (hr6 dd hdd) (by omega) n 0 S (Nat.zero_add _) hd hL (hr dd hdd) (fun e he => by rw [if_neg (Nat.not_lt_zero e)]; exact hz e he) (fun S2 e2 z2 => ?_)
    refine g_iinc (pc := 152) (v := (nI (dd + 1))) dc_M_rank_152 rfl (nI_add dd 1) (by decide) ?_
    show am_G X mt_M_rank _ 155 [some (.ref 84), some (.int v1), some (.int v2), some (.int (nI (dd + 1))), none, none] [] _ _
    refine g_goto (pc := 155) (tgt := 71) dc_M_rank_155 rfl ?_
    exact l71_M_rank hA hn hLs hr6 n9 (dd + 1) S2 (by omega) ((e2.documents (by decide)).trans hd) (hL.m e2 (by decide)) (fun e he => by rw [e2.ranks (by decide)]; exact hr e he) z2 (fun S3 e3 z3 => hQ S3 (e2.tr e3) z3)
theorem l160_M_rank (hA : A.length = 84) (hn : n ≤ 250) : ∀ (n9 t : Nat) (S : MS), t + n9 = n → S.documents = n → (∀ e, e < t → S.ranks e = S.nextRanks e) → (∀ S2, mA [81] S S2 → (∀ e, e < n → S2.ranks e = S.nextRanks e) → am_G X mt_M_rank d 186 [some (.ref 84), some (.int v1), some (.int v2), none, none, none] [] (mput A S2 B) Q) → am_G X mt_M_rank d 160 [some (.ref 84), some (.int v1), some (.int v2), some (.int (nI t)), none, none] [] (mput A S B) Q
  | 0, t, S, e9, hd, hz, hQ => by
    refine g_iload_n (pc := 160) dc_M_rank_160 rfl ?_
    refine g_aload_n (pc := 161) dc_M_rank_161 rfl ?_
    refine g_getfield (pc := 162) (v := .int (nI n)) dc_M_rank_162 fl_M_467 (mp_o hA) (congrArg (fun z => some (Value.int (nI z))) hd) ?_
    refine q_icmp_ge (pc := 165) (tgt := 186) t n dc_M_rank_165 (by omega) (by omega) rfl (fun hc165 => ?_) (fun hc => absurd hc (by omega))
    refine am_wk (am_le_s (am_le_s (am_le_s (am_le_n (am_le_n (am_le_n am_le_0)))))) ?_
    exact hQ S (mA.rf S) (fun e he => hz e (by omega))
  | n9 + 1, t, S, e9, hd, hz, hQ => by
    refine g_iload_n (pc := 160) dc_M_rank_160 rfl ?_
    refine g_aload_n (pc := 161) dc_M_rank_161 rfl ?_
    refine g_getfield (pc := 162) (v := .int (nI n)) dc_M_rank_162 fl_M_467 (mp_o hA) (congrArg (fun z => some (Value.int (nI z))) hd) ?_
    refine q_icmp_ge (pc := 165) (tgt := 186) t n dc_M_rank_165 (by omega) (by omega) rfl (fun hc => absurd hc (by omega)) (fun hc165 => ?_)
    refine g_aload_n (pc := 168) dc_M_rank_168 rfl ?_
    refine g_getfield (pc := 169) dc_M_rank_169 fl_M_389 (mp_o hA) rfl ?_
    refine g_iload_n (pc := 172) dc_M_rank_172 rfl ?_
    refine g_aload_n (pc := 173) dc_M_rank_173 rfl ?_
    refine g_getfield (pc := 174) dc_M_rank_174 fl_M_393 (mp_o hA) rfl ?_
    refine g_iload_n (pc := 177) dc_M_rank_177 rfl ?_
    refine q_laload (pc := 178) t dc_M_rank_178 (mp_a hA 45 rfl) (by omega) (by omega) ?_
    refine as_ranks (pc := 179) t hA dc_M_rank_179 (by omega) ?_
    refine g_iinc (pc := 180) (v := (nI (t + 1))) dc_M_rank_180 rfl (nI_add t 1) (by decide) ?_
    show am_G X mt_M_rank _ 183 [some (.ref 84), some (.int v1), some (.int v2), some (.int (nI (t + 1))), none, none] [] _ _
    refine g_goto (pc := 183) (tgt := 160) dc_M_rank_183 rfl ?_
    have hm1 : mA [81] S (S.s_ranks (vp_updL S.ranks t (S.nextRanks t))) := (mA.rf S).a_ranks _ (by decide)
    refine l160_M_rank hA hn n9 (t + 1) _ (by omega) hd (fun e he => ?_) (fun S2 e2 z => hQ S2 (hm1.tr e2) z)
    show vp_updL S.ranks t (S.nextRanks t) e = S.nextRanks e
    by_cases q : e = t
    · rw [q, pk_uLs]
    · rw [pk_uLn q]; exact hz e (by omega)
theorem l33_M_rank (hA : A.length = 84) (hn : n ≤ 250) (hp : p ≤ 50) (hLs : ∀ a, a < n → (L a).Nodup ∧ ∀ x, x ∈ L a → x < n) : ∀ (n9 k : Nat) (S : MS), k + n9 = p → S.documents = n → ldm S n n L → (∀ e, e < n → S.ranks e = lN (rkS L n k e)) → am_G X mt_M_rank (d + 1) 33 [some (.ref 84), some (.int (nI p)), some (.int (nI k)), none, none, none] [] (mput A S B) (fun r9 h1 => r9 = none ∧ ∃ S1, h1 = mput A S1 B ∧ mA [81, 82] S S1 ∧ ∀ e, e < n → S1.ranks e = lN (rkS L n p e))
  | 0, k, S, e9, hd, hL, hr => by
    refine g_iload_n (pc := 33) dc_M_rank_33 rfl ?_
    refine g_iload_n (pc := 34) dc_M_rank_34 rfl ?_
    refine q_icmp_ge (pc := 35) (tgt := 192) k p dc_M_rank_35 (by omega) (by omega) rfl (fun hc35 => ?_) (fun hc => absurd hc (by omega))
    exact g_return dc_M_rank_192 rfl ⟨rfl, S, rfl, mA.rf S, fun e he => by rw [show p = k by omega]; exact hr e he⟩
  | n9 + 1, k, S, e9, hd, hL, hr => by
    refine g_iload_n (pc := 33) dc_M_rank_33 rfl ?_
    refine g_iload_n (pc := 34) dc_M_rank_34 rfl ?_
    refine q_icmp_ge (pc := 35) (tgt := 192) k p dc_M_rank_35 (by omega) (by omega) rfl (fun hc => absurd hc (by omega)) (fun hc35 => ?_)
    refine g_iconst (pc := 38) (v := 0) dc_M_rank_38 rfl ?_
    refine g_istore_n (pc := 39) dc_M_rank_39 (by decide) ?_
    show am_G X mt_M_rank _ 40 [some (.ref 84), some (.int (nI p)), some (.int (nI k)), some (.int 0), none, none] [] _ _
    refine l40_M_rank hA hn n 0 S (Nat.zero_add _) hd (fun e he => absurd he (Nat.not_lt_zero e)) (fun S2 e2 z2 => ?_)
    have hd2 := (e2.documents (by decide)).trans hd
    have hL2 := hL.m e2 (by decide)
    have hr2 : ∀ e, e < n → S2.ranks e = lN (rkS L n k e) := fun e he => by rw [e2.ranks (by decide)]; exact hr e he
    refine g_iconst (pc := 69) (v := 0) dc_M_rank_69 rfl ?_
    refine g_istore_n (pc := 70) dc_M_rank_70 (by decide) ?_
    show am_G X mt_M_rank _ 71 [some (.ref 84), some (.int (nI p)), some (.int (nI k)), some (.int 0), none, none] [] _ _
    refine l71_M_rank (d := d) hA hn hLs (fun e he => rkS_le hLs he) n 0 S2 (Nat.zero_add _) hd2 hL2 hr2 z2 (fun S3 e3 z3 => ?_)
    have hd3 := (e3.documents (by decide)).trans hd2
    refine g_iconst (pc := 158) (v := 0) dc_M_rank_158 rfl ?_
    refine g_istore_n (pc := 159) dc_M_rank_159 (by decide) ?_
    show am_G X mt_M_rank _ 160 [some (.ref 84), some (.int (nI p)), some (.int (nI k)), some (.int 0), none, none] [] _ _
    refine l160_M_rank hA hn n 0 S3 (Nat.zero_add _) hd3 (fun e he => absurd he (Nat.not_lt_zero e)) (fun S4 e4 z4 => ?_)
    have hd4 := (e4.documents (by decide)).trans hd3
    have hL4 := (hL2.m e3 (by decide)).m e4 (by decide)
    have hm4 : mA [81, 82] S S4 := ((e2.mo (by decide)).tr (e3.mo (by decide))).tr (e4.mo (by decide))
    refine g_iinc (pc := 186) (v := (nI (k + 1))) dc_M_rank_186 rfl (nI_add k 1) (by decide) ?_
    show am_G X mt_M_rank _ 189 [some (.ref 84), some (.int (nI p)), some (.int (nI (k + 1))), none, none, none] [] _ _
    refine g_goto (pc := 189) (tgt := 33) dc_M_rank_189 rfl ?_
    refine am_G.mono (l33_M_rank hA hn hp hLs n9 (k + 1) S4 (by omega) hd4 hL4 (fun e he => (z4 e he).trans (z3 e he))) (fun r9 h9 hy9 => ?_)
    obtain ⟨u1, S5, u2, u3, u4⟩ := hy9
    exact ⟨u1, S5, u2, hm4.tr u3, u4⟩
theorem c_M_rank (hA : A.length = 84) (hn : n ≤ 250) (hp : p ≤ 50) (hLs : ∀ a, a < n → (L a).Nodup ∧ ∀ x, x ∈ L a → x < n) (hd : S.documents = n) (hL : ldm S n n L) : am_C X mt_M_rank (d + 1) [.ref 84, .int (nI p)] (mput A S B) (fun r9 h1 => r9 = none ∧ ∃ S1, h1 = mput A S1 B ∧ mA [81, 82] S S1 ∧ ∀ e, e < n → S1.ranks e = lN (rkS L n p e)) := by
  show am_G X mt_M_rank (d + 1) 0 [some (.ref 84), some (.int (nI p)), none, none, none, none] [] (mput A S B) _
  refine g_iconst (pc := 0) (v := 0) dc_M_rank_0 rfl ?_
  refine g_istore_n (pc := 1) dc_M_rank_1 (by decide) ?_
  show am_G X mt_M_rank _ 2 [some (.ref 84), some (.int (nI p)), some (.int 0), none, none, none] [] _ _
  refine l2_M_rank hA hn n 0 S (Nat.zero_add _) hd (fun e he => absurd he (Nat.not_lt_zero e)) (fun S2 e2 z2 => ?_)
  refine g_iconst (pc := 31) (v := 0) dc_M_rank_31 rfl ?_
  refine g_istore_n (pc := 32) dc_M_rank_32 (by decide) ?_
  show am_G X mt_M_rank _ 33 [some (.ref 84), some (.int (nI p)), some (.int 0), none, none, none] [] _ _
  refine am_G.mono (l33_M_rank hA hn hp hLs p 0 S2 (Nat.zero_add _) ((e2.documents (by decide)).trans hd) (hL.m e2 (by decide)) z2) (fun r9 h9 hy9 => ?_)
  obtain ⟨u1, S5, u2, u3, u4⟩ := hy9
  exact ⟨u1, S5, u2, (e2.mo (by decide)).tr u3, u4⟩
end G4S
