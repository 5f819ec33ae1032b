/-! ===== the model counts the places of a document ===== -/
def pQ (md : Nat) (Wd Qs : List (List Int32)) (w : Nat) : Bool := if md = 2 then rowQ Wd Qs w else anyQ Wd Qs w
section GDS
variable {X : am_X} {d n k j i a s wi qi mq : Nat} {A B h : List va_E} {S S1 : MS} {Wd Qs : List (List Int32)} {Q : Option Value → List va_E → Prop} {md cc : Nat}
theorem cntQ_p (h : ¬ md = 1) : cntQ md Wd Qs = cnb (pQ md Wd Qs) Wd.length := by
  unfold cntQ pQ
  by_cases q : md = 2
  · rw [if_pos q]; exact cnb_eq _ (fun a _ => by rw [if_pos q])
  · rw [if_neg q, if_neg (fun h9 => h h9.1)]; exact cnb_eq _ (fun a _ => by rw [if_neg q])
theorem cntQ_1 : cntQ 1 Wd Qs = if alb (hasQ Wd Qs) Qs.length = true then cnb (pQ 1 Wd Qs) Wd.length else 0 := by
  unfold cntQ pQ
  rw [if_neg (by decide)]
  cases e : alb (hasQ Wd Qs) Qs.length with
  | true => rw [if_neg (fun h9 => by cases h9.2), if_pos rfl]; exact cnb_eq _ (fun a _ => by rw [if_neg (by decide)])
  | false => rw [if_pos ⟨rfl, rfl⟩, if_neg (by decide)]
theorem l45_M_countOf (hA : A.length = 84) (hW : wdS S Wd) (hU : quM S Qs) (h8 : Wd.flatten.length ≤ 8000) (hw1 : Wd.length ≤ 4000) (hq8 : Qs.length ≤ 8) (hq20 : ∀ y, y ∈ Qs → y.length ≤ 20) (hwi : wi < Wd.length) : ∀ (n9 k : Nat) (ba br : Bool), k + n9 = Qs.length → ba = anb (fun q => isQ Wd Qs wi q) k → br = (decide (0 < Qs.length ∧ wi + Qs.length ≤ Wd.length) && alb (fun q => isQ Wd Qs (wi + q) q) k) → am_G X mt_M_countOf (d + 1) 107 [some (.ref 84), some (.int (nI md)), some (.int (nI cc)), some (.int (nI wi)), some (.int (b1 (anyQ Wd Qs wi))), some (.int (b1 (rowQ Wd Qs wi))), none] [] (mput A S B) Q → am_G X mt_M_countOf (d + 1) 45 [some (.ref 84), some (.int (nI md)), some (.int (nI cc)), some (.int (nI wi)), some (.int (b1 ba)), some (.int (b1 br)), some (.int (nI k))] [] (mput A S B) Q
  | 0, k, ba, br, e9, hba, hbr, KK => by
    refine g_iload (pc := 45) dc_M_countOf_45 rfl ?_
    refine g_aload_n (pc := 47) dc_M_countOf_47 rfl ?_
    refine g_getfield (pc := 48) (v := .int (nI Qs.length)) dc_M_countOf_48 fl_M_487 (mp_o hA) (congrArg (fun z => some (Value.int (nI z))) hU.1) ?_
    refine q_icmp_ge (pc := 51) (tgt := 107) k Qs.length dc_M_countOf_51 (by omega) (by omega) rfl (fun hc51 => ?_) (fun hc => absurd hc (by omega))
    refine am_wk (am_le_s (am_le_s (am_le_s (am_le_s (am_le_s (am_le_s (am_le_n am_le_0))))))) ?_
    rw [show ba = anyQ Wd Qs wi by rw [hba, show k = Qs.length by omega]; rfl, show br = rowQ Wd Qs wi by rw [hbr, show k = Qs.length by omega]; rfl]
    exact KK
  | n9 + 1, k, ba, br, e9, hba, hbr, KK => by
    have hk : k < Qs.length := by omega
    refine g_iload (pc := 45) dc_M_countOf_45 rfl ?_
    refine g_aload_n (pc := 47) dc_M_countOf_47 rfl ?_
    refine g_getfield (pc := 48) (v := .int (nI Qs.length)) dc_M_countOf_48 fl_M_487 (mp_o hA) (congrArg (fun z => some (Value.int (nI z))) hU.1) ?_
    refine q_icmp_ge (pc := 51) (tgt := 107) k Qs.length dc_M_countOf_51 (by omega) (by omega) rfl (fun hc => absurd hc (by omega)) (fun hc51 => ?_)
    refine g_iload (pc := 54) dc_M_countOf_54 rfl ?_
    refine q_ifb_ne (pc := 56) (tgt := 69) dc_M_countOf_56 rfl (fun hc56 => ?_) (fun hc56 => ?_)
    · refine g_iconst (pc := 69) (v := 1) dc_M_countOf_69 rfl ?_
      refine g_goto (pc := 70) (tgt := 74) dc_M_countOf_70 rfl ?_
      refine g_istore (pc := 74) dc_M_countOf_74 (by decide) ?_
      show am_G X mt_M_countOf _ 76 [some (.ref 84), some (.int (nI md)), some (.int (nI cc)), some (.int (nI wi)), some (.int 1), some (.int (b1 br)), some (.int (nI k))] [] _ _
      refine g_iload (pc := 76) dc_M_countOf_76 rfl ?_
      refine q_ifb_eq (pc := 78) (tgt := 98) dc_M_countOf_78 rfl (fun hc78 => ?_) (fun hc78 => ?_)
      · refine g_iconst (pc := 98) (v := 0) dc_M_countOf_98 rfl ?_
        refine g_istore (pc := 99) dc_M_countOf_99 (by decide) ?_
        show am_G X mt_M_countOf _ 101 [some (.ref 84), some (.int (nI md)), some (.int (nI cc)), some (.int (nI wi)), some (.int 1), some (.int 0), some (.int (nI k))] [] _ _
        refine g_iinc (pc := 101) (v := (nI (k + 1))) dc_M_countOf_101 rfl (nI_add k 1) (by decide) ?_
        show am_G X mt_M_countOf _ 104 [some (.ref 84), some (.int (nI md)), some (.int (nI cc)), some (.int (nI wi)), some (.int 1), some (.int 0), some (.int (nI (k + 1)))] [] _ _
        refine g_goto (pc := 104) (tgt := 45) dc_M_countOf_104 rfl ?_
        exact l45_M_countOf hA hW hU h8 hw1 hq8 hq20 hwi n9 (k + 1) true false (by omega) (by show true = (anb (fun q => isQ Wd Qs wi q) k || isQ Wd Qs wi k); rw [← hba, hc56]; rfl) (by show false = (decide (0 < Qs.length ∧ wi + Qs.length ≤ Wd.length) && (alb (fun q => isQ Wd Qs (wi + q) q) k && isQ Wd Qs (wi + k) k)); rw [← Bool.and_assoc, ← hbr, hc78]; rfl) KK
      · have hst : wi + Qs.length ≤ Wd.length := by
          have h9 : (decide (0 < Qs.length ∧ wi + Qs.length ≤ Wd.length) && alb (fun q => isQ Wd Qs (wi + q) q) k) = true := by rw [← hbr]; exact hc78
          rw [Bool.and_eq_true] at h9
          exact (of_decide_eq_true h9.1).2
        refine g_aload_n (pc := 81) dc_M_countOf_81 rfl ?_
        refine g_iload_n (pc := 82) dc_M_countOf_82 rfl ?_
        refine g_iload (pc := 83) dc_M_countOf_83 rfl ?_
        refine g_iadd (pc := 85) (v := (nI (wi + k))) dc_M_countOf_85 (nI_add wi k) ?_
        refine g_iload (pc := 86) dc_M_countOf_86 rfl ?_
        refine g_v2 (pc := 88) (M' := mt_M_isAsked) dc_M_countOf_88 mo_M_isAsked im_M_isAsked se_M_isAsked ln_M_490 (mp_o hA) rfl rfl (Nat.le_of_ble_eq_true rfl) (Nat.le_of_ble_eq_true rfl) (am_G.mono (c_M_isAsked (d := d) (wi := wi + k) (qi := k) hA hW hU (by omega) hk h8 hw1 hq8 hq20) ?_)
        intro r h1 hq
        rw [hq.1, hq.2]
        clear hq h1 r
        refine ⟨am_nti _, ?_⟩
        refine q_ifb_eq (pc := 91) (tgt := 98) dc_M_countOf_91 rfl (fun hc91 => ?_) (fun hc91 => ?_)
        · refine g_iconst (pc := 98) (v := 0) dc_M_countOf_98 rfl ?_
          refine g_istore (pc := 99) dc_M_countOf_99 (by decide) ?_
          show am_G X mt_M_countOf _ 101 [some (.ref 84), some (.int (nI md)), some (.int (nI cc)), some (.int (nI wi)), some (.int 1), some (.int 0), some (.int (nI k))] [] _ _
          refine g_iinc (pc := 101) (v := (nI (k + 1))) dc_M_countOf_101 rfl (nI_add k 1) (by decide) ?_
          show am_G X mt_M_countOf _ 104 [some (.ref 84), some (.int (nI md)), some (.int (nI cc)), some (.int (nI wi)), some (.int 1), some (.int 0), some (.int (nI (k + 1)))] [] _ _
          refine g_goto (pc := 104) (tgt := 45) dc_M_countOf_104 rfl ?_
          exact l45_M_countOf hA hW hU h8 hw1 hq8 hq20 hwi n9 (k + 1) true false (by omega) (by show true = (anb (fun q => isQ Wd Qs wi q) k || isQ Wd Qs wi k); rw [← hba, hc56]; rfl) (by show false = (decide (0 < Qs.length ∧ wi + Qs.length ≤ Wd.length) && (alb (fun q => isQ Wd Qs (wi + q) q) k && isQ Wd Qs (wi + k) k)); rw [← Bool.and_assoc, ← hbr, hc78, hc91]; rfl) KK
        · refine g_iconst (pc := 94) (v := 1) dc_M_countOf_94 rfl ?_
          refine g_goto (pc := 95) (tgt := 99) dc_M_countOf_95 rfl ?_
          refine g_istore (pc := 99) dc_M_countOf_99 (by decide) ?_
          show am_G X mt_M_countOf _ 101 [some (.ref 84), some (.int (nI md)), some (.int (nI cc)), some (.int (nI wi)), some (.int 1), some (.int 1), some (.int (nI k))] [] _ _
          refine g_iinc (pc := 101) (v := (nI (k + 1))) dc_M_countOf_101 rfl (nI_add k 1) (by decide) ?_
          show am_G X mt_M_countOf _ 104 [some (.ref 84), some (.int (nI md)), some (.int (nI cc)), some (.int (nI wi)), some (.int 1), some (.int 1), some (.int (nI (k + 1)))] [] _ _
          refine g_goto (pc := 104) (tgt := 45) dc_M_countOf_104 rfl ?_
          exact l45_M_countOf hA hW hU h8 hw1 hq8 hq20 hwi n9 (k + 1) true true (by omega) (by show true = (anb (fun q => isQ Wd Qs wi q) k || isQ Wd Qs wi k); rw [← hba, hc56]; rfl) (by show true = (decide (0 < Qs.length ∧ wi + Qs.length ≤ Wd.length) && (alb (fun q => isQ Wd Qs (wi + q) q) k && isQ Wd Qs (wi + k) k)); rw [← Bool.and_assoc, ← hbr, hc78, hc91]; rfl) KK
    · refine g_aload_n (pc := 59) dc_M_countOf_59 rfl ?_
      refine g_iload_n (pc := 60) dc_M_countOf_60 rfl ?_
      refine g_iload (pc := 61) dc_M_countOf_61 rfl ?_
      refine g_v2 (pc := 63) (M' := mt_M_isAsked) dc_M_countOf_63 mo_M_isAsked im_M_isAsked se_M_isAsked ln_M_490 (mp_o hA) rfl rfl (Nat.le_of_ble_eq_true rfl) (Nat.le_of_ble_eq_true rfl) (am_G.mono (c_M_isAsked (d := d) (wi := wi) (qi := k) hA hW hU hwi hk h8 hw1 hq8 hq20) ?_)
      intro r h1 hq
      rw [hq.1, hq.2]
      clear hq h1 r
      refine ⟨am_nti _, ?_⟩
      refine q_ifb_eq (pc := 66) (tgt := 73) dc_M_countOf_66 rfl (fun hc66 => ?_) (fun hc66 => ?_)
      · refine g_iconst (pc := 73) (v := 0) dc_M_countOf_73 rfl ?_
        refine g_istore (pc := 74) dc_M_countOf_74 (by decide) ?_
        show am_G X mt_M_countOf _ 76 [some (.ref 84), some (.int (nI md)), some (.int (nI cc)), some (.int (nI wi)), some (.int 0), some (.int (b1 br)), some (.int (nI k))] [] _ _
        refine g_iload (pc := 76) dc_M_countOf_76 rfl ?_
        refine q_ifb_eq (pc := 78) (tgt := 98) dc_M_countOf_78 rfl (fun hc78 => ?_) (fun hc78 => ?_)
        · refine g_iconst (pc := 98) (v := 0) dc_M_countOf_98 rfl ?_
          refine g_istore (pc := 99) dc_M_countOf_99 (by decide) ?_
          show am_G X mt_M_countOf _ 101 [some (.ref 84), some (.int (nI md)), some (.int (nI cc)), some (.int (nI wi)), some (.int 0), some (.int 0), some (.int (nI k))] [] _ _
          refine g_iinc (pc := 101) (v := (nI (k + 1))) dc_M_countOf_101 rfl (nI_add k 1) (by decide) ?_
          show am_G X mt_M_countOf _ 104 [some (.ref 84), some (.int (nI md)), some (.int (nI cc)), some (.int (nI wi)), some (.int 0), some (.int 0), some (.int (nI (k + 1)))] [] _ _
          refine g_goto (pc := 104) (tgt := 45) dc_M_countOf_104 rfl ?_
          exact l45_M_countOf hA hW hU h8 hw1 hq8 hq20 hwi n9 (k + 1) false false (by omega) (by show false = (anb (fun q => isQ Wd Qs wi q) k || isQ Wd Qs wi k); rw [← hba, hc56, hc66]; rfl) (by show false = (decide (0 < Qs.length ∧ wi + Qs.length ≤ Wd.length) && (alb (fun q => isQ Wd Qs (wi + q) q) k && isQ Wd Qs (wi + k) k)); rw [← Bool.and_assoc, ← hbr, hc78]; rfl) KK
        · have hst : wi + Qs.length ≤ Wd.length := by
            have h9 : (decide (0 < Qs.length ∧ wi + Qs.length ≤ Wd.length) && alb (fun q => isQ Wd Qs (wi + q) q) k) = true := by rw [← hbr]; exact hc78
            rw [Bool.and_eq_true] at h9
            exact (of_decide_eq_true h9.1).2
          refine g_aload_n (pc := 81) dc_M_countOf_81 rfl ?_
          refine g_iload_n (pc := 82) dc_M_countOf_82 rfl ?_
          refine g_iload (pc := 83) dc_M_countOf_83 rfl ?_
          refine g_iadd (pc := 85) (v := (nI (wi + k))) dc_M_countOf_85 (nI_add wi k) ?_
          refine g_iload (pc := 86) dc_M_countOf_86 rfl ?_
          refine g_v2 (pc := 88) (M' := mt_M_isAsked) dc_M_countOf_88 mo_M_isAsked im_M_isAsked se_M_isAsked ln_M_490 (mp_o hA) rfl rfl (Nat.le_of_ble_eq_true rfl) (Nat.le_of_ble_eq_true rfl) (am_G.mono (c_M_isAsked (d := d) (wi := wi + k) (qi := k) hA hW hU (by omega) hk h8 hw1 hq8 hq20) ?_)
          intro r h1 hq
          rw [hq.1, hq.2]
          clear hq h1 r
          refine ⟨am_nti _, ?_⟩
          refine q_ifb_eq (pc := 91) (tgt := 98) dc_M_countOf_91 rfl (fun hc91 => ?_) (fun hc91 => ?_)
          · refine g_iconst (pc := 98) (v := 0) dc_M_countOf_98 rfl ?_
            refine g_istore (pc := 99) dc_M_countOf_99 (by decide) ?_
            show am_G X mt_M_countOf _ 101 [some (.ref 84), some (.int (nI md)), some (.int (nI cc)), some (.int (nI wi)), some (.int 0), some (.int 0), some (.int (nI k))] [] _ _
            refine g_iinc (pc := 101) (v := (nI (k + 1))) dc_M_countOf_101 rfl (nI_add k 1) (by decide) ?_
            show am_G X mt_M_countOf _ 104 [some (.ref 84), some (.int (nI md)), some (.int (nI cc)), some (.int (nI wi)), some (.int 0), some (.int 0), some (.int (nI (k + 1)))] [] _ _
            refine g_goto (pc := 104) (tgt := 45) dc_M_countOf_104 rfl ?_
            exact l45_M_countOf hA hW hU h8 hw1 hq8 hq20 hwi n9 (k + 1) false false (by omega) (by show false = (anb (fun q => isQ Wd Qs wi q) k || isQ Wd Qs wi k); rw [← hba, hc56, hc66]; rfl) (by show false = (decide (0 < Qs.length ∧ wi + Qs.length ≤ Wd.length) && (alb (fun q => isQ Wd Qs (wi + q) q) k && isQ Wd Qs (wi + k) k)); rw [← Bool.and_assoc, ← hbr, hc78, hc91]; rfl) KK
          · refine g_iconst (pc := 94) (v := 1) dc_M_countOf_94 rfl ?_
            refine g_goto (pc := 95) (tgt := 99) dc_M_countOf_95 rfl ?_
            refine g_istore (pc := 99) dc_M_countOf_99 (by decide) ?_
            show am_G X mt_M_countOf _ 101 [some (.ref 84), some (.int (nI md)), some (.int (nI cc)), some (.int (nI wi)), some (.int 0), some (.int 1), some (.int (nI k))] [] _ _
            refine g_iinc (pc := 101) (v := (nI (k + 1))) dc_M_countOf_101 rfl (nI_add k 1) (by decide) ?_
            show am_G X mt_M_countOf _ 104 [some (.ref 84), some (.int (nI md)), some (.int (nI cc)), some (.int (nI wi)), some (.int 0), some (.int 1), some (.int (nI (k + 1)))] [] _ _
            refine g_goto (pc := 104) (tgt := 45) dc_M_countOf_104 rfl ?_
            exact l45_M_countOf hA hW hU h8 hw1 hq8 hq20 hwi n9 (k + 1) false true (by omega) (by show false = (anb (fun q => isQ Wd Qs wi q) k || isQ Wd Qs wi k); rw [← hba, hc56, hc66]; rfl) (by show true = (decide (0 < Qs.length ∧ wi + Qs.length ≤ Wd.length) && (alb (fun q => isQ Wd Qs (wi + q) q) k && isQ Wd Qs (wi + k) k)); rw [← Bool.and_assoc, ← hbr, hc78, hc91]; rfl) KK
      · refine g_iconst (pc := 69) (v := 1) dc_M_countOf_69 rfl ?_
        refine g_goto (pc := 70) (tgt := 74) dc_M_countOf_70 rfl ?_
        refine g_istore (pc := 74) dc_M_countOf_74 (by decide) ?_
        show am_G X mt_M_countOf _ 76 [some (.ref 84), some (.int (nI md)), some (.int (nI cc)), some (.int (nI wi)), some (.int 1), some (.int (b1 br)), some (.int (nI k))] [] _ _
        refine g_iload (pc := 76) dc_M_countOf_76 rfl ?_
        refine q_ifb_eq (pc := 78) (tgt := 98) dc_M_countOf_78 rfl (fun hc78 => ?_) (fun hc78 => ?_)
        · refine g_iconst (pc := 98) (v := 0) dc_M_countOf_98 rfl ?_
          refine g_istore (pc := 99) dc_M_countOf_99 (by decide) ?_
          show am_G X mt_M_countOf _ 101 [some (.ref 84), some (.int (nI md)), some (.int (nI cc)), some (.int (nI wi)), some (.int 1), some (.int 0), some (.int (nI k))] [] _ _
          refine g_iinc (pc := 101) (v := (nI (k + 1))) dc_M_countOf_101 rfl (nI_add k 1) (by decide) ?_
          show am_G X mt_M_countOf _ 104 [some (.ref 84), some (.int (nI md)), some (.int (nI cc)), some (.int (nI wi)), some (.int 1), some (.int 0), some (.int (nI (k + 1)))] [] _ _
          refine g_goto (pc := 104) (tgt := 45) dc_M_countOf_104 rfl ?_
          exact l45_M_countOf hA hW hU h8 hw1 hq8 hq20 hwi n9 (k + 1) true false (by omega) (by show true = (anb (fun q => isQ Wd Qs wi q) k || isQ Wd Qs wi k); rw [← hba, hc56, hc66]; rfl) (by show false = (decide (0 < Qs.length ∧ wi + Qs.length ≤ Wd.length) && (alb (fun q => isQ Wd Qs (wi + q) q) k && isQ Wd Qs (wi + k) k)); rw [← Bool.and_assoc, ← hbr, hc78]; rfl) KK
        · have hst : wi + Qs.length ≤ Wd.length := by
            have h9 : (decide (0 < Qs.length ∧ wi + Qs.length ≤ Wd.length) && alb (fun q => isQ Wd Qs (wi + q) q) k) = true := by rw [← hbr]; exact hc78
            rw [Bool.and_eq_true] at h9
            exact (of_decide_eq_true h9.1).2
          refine g_aload_n (pc := 81) dc_M_countOf_81 rfl ?_
          refine g_iload_n (pc := 82) dc_M_countOf_82 rfl ?_
          refine g_iload (pc := 83) dc_M_countOf_83 rfl ?_
          refine g_iadd (pc := 85) (v := (nI (wi + k))) dc_M_countOf_85 (nI_add wi k) ?_
          refine g_iload (pc := 86) dc_M_countOf_86 rfl ?_
          refine g_v2 (pc := 88) (M' := mt_M_isAsked) dc_M_countOf_88 mo_M_isAsked im_M_isAsked se_M_isAsked ln_M_490 (mp_o hA) rfl rfl (Nat.le_of_ble_eq_true rfl) (Nat.le_of_ble_eq_true rfl) (am_G.mono (c_M_isAsked (d := d) (wi := wi + k) (qi := k) hA hW hU (by omega) hk h8 hw1 hq8 hq20) ?_)
          intro r h1 hq
          rw [hq.1, hq.2]
          clear hq h1 r
          refine ⟨am_nti _, ?_⟩
          refine q_ifb_eq (pc := 91) (tgt := 98) dc_M_countOf_91 rfl (fun hc91 => ?_) (fun hc91 => ?_)
          · refine g_iconst (pc := 98) (v := 0) dc_M_countOf_98 rfl ?_
            refine g_istore (pc := 99) dc_M_countOf_99 (by decide) ?_
            show am_G X mt_M_countOf _ 101 [some (.ref 84), some (.int (nI md)), some (.int (nI cc)), some (.int (nI wi)), some (.int 1), some (.int 0), some (.int (nI k))] [] _ _
            refine g_iinc (pc := 101) (v := (nI (k + 1))) dc_M_countOf_101 rfl (nI_add k 1) (by decide) ?_
            show am_G X mt_M_countOf _ 104 [some (.ref 84), some (.int (nI md)), some (.int (nI cc)), some (.int (nI wi)), some (.int 1), some (.int 0), some (.int (nI (k + 1)))] [] _ _
            refine g_goto (pc := 104) (tgt := 45) dc_M_countOf_104 rfl ?_
            exact l45_M_countOf hA hW hU h8 hw1 hq8 hq20 hwi n9 (k + 1) true false (by omega) (by show true = (anb (fun q => isQ Wd Qs wi q) k || isQ Wd Qs wi k); rw [← hba, hc56, hc66]; rfl) (by show false = (decide (0 < Qs.length ∧ wi + Qs.length ≤ Wd.length) && (alb (fun q => isQ Wd Qs (wi + q) q) k && isQ Wd Qs (wi + k) k)); rw [← Bool.and_assoc, ← hbr, hc78, hc91]; rfl) KK
          · refine g_iconst (pc := 94) (v := 1) dc_M_countOf_94 rfl ?_
            refine g_goto (pc := 95) (tgt := 99) dc_M_countOf_95 rfl ?_
            refine g_istore (pc := 99) dc_M_countOf_99 (by decide) ?_
            show am_G X mt_M_countOf _ 101 [some (.ref 84), some (.int (nI md)), some (.int (nI cc)), some (.int (nI wi)), some (.int 1), some (.int 1), some (.int (nI k))] [] _ _
            refine g_iinc (pc := 101) (v := (nI (k + 1))) dc_M_countOf_101 rfl (nI_add k 1) (by decide) ?_
            show am_G X mt_M_countOf _ 104 [some (.ref 84), some (.int (nI md)), some (.int (nI cc)), some (.int (nI wi)), some (.int 1), some (.int 1), some (.int (nI (k + 1)))] [] _ _
            refine g_goto (pc := 104) (tgt := 45) dc_M_countOf_104 rfl ?_
            exact l45_M_countOf hA hW hU h8 hw1 hq8 hq20 hwi n9 (k + 1) true true (by omega) (by show true = (anb (fun q => isQ Wd Qs wi q) k || isQ Wd Qs wi k); rw [← hba, hc56, hc66]; rfl) (by show true = (decide (0 < Qs.length ∧ wi + Qs.length ≤ Wd.length) && (alb (fun q => isQ Wd Qs (wi + q) q) k && isQ Wd Qs (wi + k) k)); rw [← Bool.and_assoc, ← hbr, hc78, hc91]; rfl) KK
theorem l4_M_countOf (hA : A.length = 84) (hW : wdS S Wd) (hU : quM S Qs) (h8 : Wd.flatten.length ≤ 8000) (hw1 : Wd.length ≤ 4000) (hq8 : Qs.length ≤ 8) (hq20 : ∀ y, y ∈ Qs → y.length ≤ 20) (hmd : md ≤ 2) : ∀ (n9 wi : Nat), wi + n9 = Wd.length → am_G X mt_M_countOf (d + 1) 139 [some (.ref 84), some (.int (nI md)), some (.int (nI (cnb (pQ md Wd Qs) Wd.length))), none, none, none, none] [] (mput A S B) Q → am_G X mt_M_countOf (d + 1) 4 [some (.ref 84), some (.int (nI md)), some (.int (nI (cnb (pQ md Wd Qs) wi))), some (.int (nI wi)), none, none, none] [] (mput A S B) Q
  | 0, wi, e9, KK => by
    refine g_iload_n (pc := 4) dc_M_countOf_4 rfl ?_
    refine g_aload_n (pc := 5) dc_M_countOf_5 rfl ?_
    refine g_getfield (pc := 6) (v := .int (nI Wd.length)) dc_M_countOf_6 fl_M_223 (mp_o hA) (congrArg (fun z => some (Value.int (nI z))) hW.1) ?_
    refine q_icmp_ge (pc := 9) (tgt := 139) wi Wd.length dc_M_countOf_9 (by omega) (by omega) rfl (fun hc9 => ?_) (fun hc => absurd hc (by omega))
    refine am_wk (am_le_s (am_le_s (am_le_s (am_le_n (am_le_n (am_le_n (am_le_n am_le_0))))))) ?_
    rw [show wi = Wd.length by omega]
    exact KK
  | n9 + 1, wi, e9, KK => by
    have hwi : wi < Wd.length := by omega
    have hcl := cnb_le (p := (pQ md Wd Qs)) wi
    refine g_iload_n (pc := 4) dc_M_countOf_4 rfl ?_
    refine g_aload_n (pc := 5) dc_M_countOf_5 rfl ?_
    refine g_getfield (pc := 6) (v := .int (nI Wd.length)) dc_M_countOf_6 fl_M_223 (mp_o hA) (congrArg (fun z => some (Value.int (nI z))) hW.1) ?_
    refine q_icmp_ge (pc := 9) (tgt := 139) wi Wd.length dc_M_countOf_9 (by omega) (by omega) rfl (fun hc => absurd hc (by omega)) (fun hc9 => ?_)
    refine g_iconst (pc := 12) (v := 0) dc_M_countOf_12 rfl ?_
    refine g_istore (pc := 13) dc_M_countOf_13 (by decide) ?_
    show am_G X mt_M_countOf _ 15 [some (.ref 84), some (.int (nI md)), some (.int (nI (cnb (pQ md Wd Qs) wi))), some (.int (nI wi)), some (.int 0), none, none] [] _ _
    refine g_aload_n (pc := 15) dc_M_countOf_15 rfl ?_
    refine g_getfield (pc := 16) (v := .int (nI Qs.length)) dc_M_countOf_16 fl_M_487 (mp_o hA) (congrArg (fun z => some (Value.int (nI z))) hU.1) ?_
    refine q_if_le (pc := 19) (tgt := 39) Qs.length dc_M_countOf_19 (by omega) rfl (fun hc19 => ?_) (fun hc19 => ?_)
    · refine g_iconst (pc := 39) (v := 0) dc_M_countOf_39 rfl ?_
      refine g_istore (pc := 40) dc_M_countOf_40 (by decide) ?_
      show am_G X mt_M_countOf _ 42 [some (.ref 84), some (.int (nI md)), some (.int (nI (cnb (pQ md Wd Qs) wi))), some (.int (nI wi)), some (.int 0), some (.int 0), none] [] _ _
      refine g_iconst (pc := 42) (v := 0) dc_M_countOf_42 rfl ?_
      refine g_istore (pc := 43) dc_M_countOf_43 (by decide) ?_
      show am_G X mt_M_countOf _ 45 [some (.ref 84), some (.int (nI md)), some (.int (nI (cnb (pQ md Wd Qs) wi))), some (.int (nI wi)), some (.int 0), some (.int 0), some (.int 0)] [] _ _
      refine l45_M_countOf hA hW hU h8 hw1 hq8 hq20 hwi Qs.length 0 false false (Nat.zero_add _) rfl (by rw [show decide (0 < Qs.length ∧ wi + Qs.length ≤ Wd.length) = false from decide_eq_false (by omega)]; rfl) ?_
      refine g_iload_n (pc := 107) dc_M_countOf_107 rfl ?_
      refine g_iload_n (pc := 108) dc_M_countOf_108 rfl ?_
      refine g_iconst (pc := 109) (v := 2) dc_M_countOf_109 rfl ?_
      refine q_icmp_ne (pc := 110) (tgt := 121) md 2 dc_M_countOf_110 (by omega) (by omega) rfl (fun hc110 => ?_) (fun hc110 => ?_)
      · refine g_iload (pc := 121) dc_M_countOf_121 rfl ?_
        refine q_ifb_eq (pc := 123) (tgt := 130) dc_M_countOf_123 rfl (fun hc123 => ?_) (fun hc123 => ?_)
        · refine g_iconst (pc := 130) (v := 0) dc_M_countOf_130 rfl ?_
          refine g_iadd (pc := 131) (v := (nI (cnb (pQ md Wd Qs) wi + 0))) dc_M_countOf_131 (nI_add (cnb (pQ md Wd Qs) wi) 0) ?_
          refine g_istore_n (pc := 132) dc_M_countOf_132 (by decide) ?_
          show am_G X mt_M_countOf _ 133 [some (.ref 84), some (.int (nI md)), some (.int (nI (cnb (pQ md Wd Qs) wi + 0))), some (.int (nI wi)), some (.int (b1 (anyQ Wd Qs wi))), some (.int (b1 (rowQ Wd Qs wi))), none] [] _ _
          refine g_iinc (pc := 133) (v := (nI (wi + 1))) dc_M_countOf_133 rfl (nI_add wi 1) (by decide) ?_
          show am_G X mt_M_countOf _ 136 [some (.ref 84), some (.int (nI md)), some (.int (nI (cnb (pQ md Wd Qs) wi + 0))), some (.int (nI (wi + 1))), some (.int (b1 (anyQ Wd Qs wi))), some (.int (b1 (rowQ Wd Qs wi))), none] [] _ _
          refine g_goto (pc := 136) (tgt := 4) dc_M_countOf_136 rfl ?_
          refine am_wk (am_le_s (am_le_s (am_le_s (am_le_s (am_le_n (am_le_n (am_le_n am_le_0))))))) ?_
          have hp : pQ md Wd Qs wi = false := by unfold pQ; rw [if_neg hc110]; exact hc123
          have ec : cnb (pQ md Wd Qs) (wi + 1) = cnb (pQ md Wd Qs) wi + 0 := by show _ + (if pQ md Wd Qs wi = true then 1 else 0) = _; rw [hp]; rfl
          have h9 := l4_M_countOf hA hW hU h8 hw1 hq8 hq20 hmd n9 (wi + 1) (by omega) KK
          rw [ec] at h9
          exact h9
        · refine g_iconst (pc := 126) (v := 1) dc_M_countOf_126 rfl ?_
          refine g_goto (pc := 127) (tgt := 131) dc_M_countOf_127 rfl ?_
          refine g_iadd (pc := 131) (v := (nI (cnb (pQ md Wd Qs) wi + 1))) dc_M_countOf_131 (nI_add (cnb (pQ md Wd Qs) wi) 1) ?_
          refine g_istore_n (pc := 132) dc_M_countOf_132 (by decide) ?_
          show am_G X mt_M_countOf _ 133 [some (.ref 84), some (.int (nI md)), some (.int (nI (cnb (pQ md Wd Qs) wi + 1))), some (.int (nI wi)), some (.int (b1 (anyQ Wd Qs wi))), some (.int (b1 (rowQ Wd Qs wi))), none] [] _ _
          refine g_iinc (pc := 133) (v := (nI (wi + 1))) dc_M_countOf_133 rfl (nI_add wi 1) (by decide) ?_
          show am_G X mt_M_countOf _ 136 [some (.ref 84), some (.int (nI md)), some (.int (nI (cnb (pQ md Wd Qs) wi + 1))), some (.int (nI (wi + 1))), some (.int (b1 (anyQ Wd Qs wi))), some (.int (b1 (rowQ Wd Qs wi))), none] [] _ _
          refine g_goto (pc := 136) (tgt := 4) dc_M_countOf_136 rfl ?_
          refine am_wk (am_le_s (am_le_s (am_le_s (am_le_s (am_le_n (am_le_n (am_le_n am_le_0))))))) ?_
          have hp : pQ md Wd Qs wi = true := by unfold pQ; rw [if_neg hc110]; exact hc123
          have ec : cnb (pQ md Wd Qs) (wi + 1) = cnb (pQ md Wd Qs) wi + 1 := by show _ + (if pQ md Wd Qs wi = true then 1 else 0) = _; rw [hp]; rfl
          have h9 := l4_M_countOf hA hW hU h8 hw1 hq8 hq20 hmd n9 (wi + 1) (by omega) KK
          rw [ec] at h9
          exact h9
      · refine g_iload (pc := 113) dc_M_countOf_113 rfl ?_
        refine q_ifb_eq (pc := 115) (tgt := 130) dc_M_countOf_115 rfl (fun hc115 => ?_) (fun hc115 => ?_)
        · refine g_iconst (pc := 130) (v := 0) dc_M_countOf_130 rfl ?_
          refine g_iadd (pc := 131) (v := (nI (cnb (pQ md Wd Qs) wi + 0))) dc_M_countOf_131 (nI_add (cnb (pQ md Wd Qs) wi) 0) ?_
          refine g_istore_n (pc := 132) dc_M_countOf_132 (by decide) ?_
          show am_G X mt_M_countOf _ 133 [some (.ref 84), some (.int (nI md)), some (.int (nI (cnb (pQ md Wd Qs) wi + 0))), some (.int (nI wi)), some (.int (b1 (anyQ Wd Qs wi))), some (.int (b1 (rowQ Wd Qs wi))), none] [] _ _
          refine g_iinc (pc := 133) (v := (nI (wi + 1))) dc_M_countOf_133 rfl (nI_add wi 1) (by decide) ?_
          show am_G X mt_M_countOf _ 136 [some (.ref 84), some (.int (nI md)), some (.int (nI (cnb (pQ md Wd Qs) wi + 0))), some (.int (nI (wi + 1))), some (.int (b1 (anyQ Wd Qs wi))), some (.int (b1 (rowQ Wd Qs wi))), none] [] _ _
          refine g_goto (pc := 136) (tgt := 4) dc_M_countOf_136 rfl ?_
          refine am_wk (am_le_s (am_le_s (am_le_s (am_le_s (am_le_n (am_le_n (am_le_n am_le_0))))))) ?_
          have hp : pQ md Wd Qs wi = false := by unfold pQ; rw [if_pos hc110]; exact hc115
          have ec : cnb (pQ md Wd Qs) (wi + 1) = cnb (pQ md Wd Qs) wi + 0 := by show _ + (if pQ md Wd Qs wi = true then 1 else 0) = _; rw [hp]; rfl
          have h9 := l4_M_countOf hA hW hU h8 hw1 hq8 hq20 hmd n9 (wi + 1) (by omega) KK
          rw [ec] at h9
          exact h9
        · refine g_goto (pc := 118) (tgt := 126) dc_M_countOf_118 rfl ?_
          refine g_iconst (pc := 126) (v := 1) dc_M_countOf_126 rfl ?_
          refine g_goto (pc := 127) (tgt := 131) dc_M_countOf_127 rfl ?_
          refine g_iadd (pc := 131) (v := (nI (cnb (pQ md Wd Qs) wi + 1))) dc_M_countOf_131 (nI_add (cnb (pQ md Wd Qs) wi) 1) ?_
          refine g_istore_n (pc := 132) dc_M_countOf_132 (by decide) ?_
          show am_G X mt_M_countOf _ 133 [some (.ref 84), some (.int (nI md)), some (.int (nI (cnb (pQ md Wd Qs) wi + 1))), some (.int (nI wi)), some (.int (b1 (anyQ Wd Qs wi))), some (.int (b1 (rowQ Wd Qs wi))), none] [] _ _
          refine g_iinc (pc := 133) (v := (nI (wi + 1))) dc_M_countOf_133 rfl (nI_add wi 1) (by decide) ?_
          show am_G X mt_M_countOf _ 136 [some (.ref 84), some (.int (nI md)), some (.int (nI (cnb (pQ md Wd Qs) wi + 1))), some (.int (nI (wi + 1))), some (.int (b1 (anyQ Wd Qs wi))), some (.int (b1 (rowQ Wd Qs wi))), none] [] _ _
          refine g_goto (pc := 136) (tgt := 4) dc_M_countOf_136 rfl ?_
          refine am_wk (am_le_s (am_le_s (am_le_s (am_le_s (am_le_n (am_le_n (am_le_n am_le_0))))))) ?_
          have hp : pQ md Wd Qs wi = true := by unfold pQ; rw [if_pos hc110]; exact hc115
          have ec : cnb (pQ md Wd Qs) (wi + 1) = cnb (pQ md Wd Qs) wi + 1 := by show _ + (if pQ md Wd Qs wi = true then 1 else 0) = _; rw [hp]; rfl
          have h9 := l4_M_countOf hA hW hU h8 hw1 hq8 hq20 hmd n9 (wi + 1) (by omega) KK
          rw [ec] at h9
          exact h9
    · refine g_iload_n (pc := 22) dc_M_countOf_22 rfl ?_
      refine g_aload_n (pc := 23) dc_M_countOf_23 rfl ?_
      refine g_getfield (pc := 24) (v := .int (nI Qs.length)) dc_M_countOf_24 fl_M_487 (mp_o hA) (congrArg (fun z => some (Value.int (nI z))) hU.1) ?_
      refine g_iadd (pc := 27) (v := (nI (wi + Qs.length))) dc_M_countOf_27 (nI_add wi Qs.length) ?_
      refine g_aload_n (pc := 28) dc_M_countOf_28 rfl ?_
      refine g_getfield (pc := 29) (v := .int (nI Wd.length)) dc_M_countOf_29 fl_M_223 (mp_o hA) (congrArg (fun z => some (Value.int (nI z))) hW.1) ?_
      refine q_icmp_gt (pc := 32) (tgt := 39) (wi + Qs.length) Wd.length dc_M_countOf_32 (by omega) (by omega) rfl (fun hc32 => ?_) (fun hc32 => ?_)
      · refine g_iconst (pc := 39) (v := 0) dc_M_countOf_39 rfl ?_
        refine g_istore (pc := 40) dc_M_countOf_40 (by decide) ?_
        show am_G X mt_M_countOf _ 42 [some (.ref 84), some (.int (nI md)), some (.int (nI (cnb (pQ md Wd Qs) wi))), some (.int (nI wi)), some (.int 0), some (.int 0), none] [] _ _
        refine g_iconst (pc := 42) (v := 0) dc_M_countOf_42 rfl ?_
        refine g_istore (pc := 43) dc_M_countOf_43 (by decide) ?_
        show am_G X mt_M_countOf _ 45 [some (.ref 84), some (.int (nI md)), some (.int (nI (cnb (pQ md Wd Qs) wi))), some (.int (nI wi)), some (.int 0), some (.int 0), some (.int 0)] [] _ _
        refine l45_M_countOf hA hW hU h8 hw1 hq8 hq20 hwi Qs.length 0 false false (Nat.zero_add _) rfl (by rw [show decide (0 < Qs.length ∧ wi + Qs.length ≤ Wd.length) = false from decide_eq_false (by omega)]; rfl) ?_
        refine g_iload_n (pc := 107) dc_M_countOf_107 rfl ?_
        refine g_iload_n (pc := 108) dc_M_countOf_108 rfl ?_
        refine g_iconst (pc := 109) (v := 2) dc_M_countOf_109 rfl ?_
        refine q_icmp_ne (pc := 110) (tgt := 121) md 2 dc_M_countOf_110 (by omega) (by omega) rfl (fun hc110 => ?_) (fun hc110 => ?_)
        · refine g_iload (pc := 121) dc_M_countOf_121 rfl ?_
          refine q_ifb_eq (pc := 123) (tgt := 130) dc_M_countOf_123 rfl (fun hc123 => ?_) (fun hc123 => ?_)
          · refine g_iconst (pc := 130) (v := 0) dc_M_countOf_130 rfl ?_
            refine g_iadd (pc := 131) (v := (nI (cnb (pQ md Wd Qs) wi + 0))) dc_M_countOf_131 (nI_add (cnb (pQ md Wd Qs) wi) 0) ?_
            refine g_istore_n (pc := 132) dc_M_countOf_132 (by decide) ?_
            show am_G X mt_M_countOf _ 133 [some (.ref 84), some (.int (nI md)), some (.int (nI (cnb (pQ md Wd Qs) wi + 0))), some (.int (nI wi)), some (.int (b1 (anyQ Wd Qs wi))), some (.int (b1 (rowQ Wd Qs wi))), none] [] _ _
            refine g_iinc (pc := 133) (v := (nI (wi + 1))) dc_M_countOf_133 rfl (nI_add wi 1) (by decide) ?_
            show am_G X mt_M_countOf _ 136 [some (.ref 84), some (.int (nI md)), some (.int (nI (cnb (pQ md Wd Qs) wi + 0))), some (.int (nI (wi + 1))), some (.int (b1 (anyQ Wd Qs wi))), some (.int (b1 (rowQ Wd Qs wi))), none] [] _ _
            refine g_goto (pc := 136) (tgt := 4) dc_M_countOf_136 rfl ?_
            refine am_wk (am_le_s (am_le_s (am_le_s (am_le_s (am_le_n (am_le_n (am_le_n am_le_0))))))) ?_
            have hp : pQ md Wd Qs wi = false := by unfold pQ; rw [if_neg hc110]; exact hc123
            have ec : cnb (pQ md Wd Qs) (wi + 1) = cnb (pQ md Wd Qs) wi + 0 := by show _ + (if pQ md Wd Qs wi = true then 1 else 0) = _; rw [hp]; rfl
            have h9 := l4_M_countOf hA hW hU h8 hw1 hq8 hq20 hmd n9 (wi + 1) (by omega) KK
            rw [ec] at h9
            exact h9
          · refine g_iconst (pc := 126) (v := 1) dc_M_countOf_126 rfl ?_
            refine g_goto (pc := 127) (tgt := 131) dc_M_countOf_127 rfl ?_
            refine g_iadd (pc := 131) (v := (nI (cnb (pQ md Wd Qs) wi + 1))) dc_M_countOf_131 (nI_add (cnb (pQ md Wd Qs) wi) 1) ?_
            refine g_istore_n (pc := 132) dc_M_countOf_132 (by decide) ?_
            show am_G X mt_M_countOf _ 133 [some (.ref 84), some (.int (nI md)), some (.int (nI (cnb (pQ md Wd Qs) wi + 1))), some (.int (nI wi)), some (.int (b1 (anyQ Wd Qs wi))), some (.int (b1 (rowQ Wd Qs wi))), none] [] _ _
            refine g_iinc (pc := 133) (v := (nI (wi + 1))) dc_M_countOf_133 rfl (nI_add wi 1) (by decide) ?_
            show am_G X mt_M_countOf _ 136 [some (.ref 84), some (.int (nI md)), some (.int (nI (cnb (pQ md Wd Qs) wi + 1))), some (.int (nI (wi + 1))), some (.int (b1 (anyQ Wd Qs wi))), some (.int (b1 (rowQ Wd Qs wi))), none] [] _ _
            refine g_goto (pc := 136) (tgt := 4) dc_M_countOf_136 rfl ?_
            refine am_wk (am_le_s (am_le_s (am_le_s (am_le_s (am_le_n (am_le_n (am_le_n am_le_0))))))) ?_
            have hp : pQ md Wd Qs wi = true := by unfold pQ; rw [if_neg hc110]; exact hc123
            have ec : cnb (pQ md Wd Qs) (wi + 1) = cnb (pQ md Wd Qs) wi + 1 := by show _ + (if pQ md Wd Qs wi = true then 1 else 0) = _; rw [hp]; rfl
            have h9 := l4_M_countOf hA hW hU h8 hw1 hq8 hq20 hmd n9 (wi + 1) (by omega) KK
            rw [ec] at h9
            exact h9
        · refine g_iload (pc := 113) dc_M_countOf_113 rfl ?_
          refine q_ifb_eq (pc := 115) (tgt := 130) dc_M_countOf_115 rfl (fun hc115 => ?_) (fun hc115 => ?_)
          · refine g_iconst (pc := 130) (v := 0) dc_M_countOf_130 rfl ?_
            refine g_iadd (pc := 131) (v := (nI (cnb (pQ md Wd Qs) wi + 0))) dc_M_countOf_131 (nI_add (cnb (pQ md Wd Qs) wi) 0) ?_
            refine g_istore_n (pc := 132) dc_M_countOf_132 (by decide) ?_
            show am_G X mt_M_countOf _ 133 [some (.ref 84), some (.int (nI md)), some (.int (nI (cnb (pQ md Wd Qs) wi + 0))), some (.int (nI wi)), some (.int (b1 (anyQ Wd Qs wi))), some (.int (b1 (rowQ Wd Qs wi))), none] [] _ _
            refine g_iinc (pc := 133) (v := (nI (wi + 1))) dc_M_countOf_133 rfl (nI_add wi 1) (by decide) ?_
            show am_G X mt_M_countOf _ 136 [some (.ref 84), some (.int (nI md)), some (.int (nI (cnb (pQ md Wd Qs) wi + 0))), some (.int (nI (wi + 1))), some (.int (b1 (anyQ Wd Qs wi))), some (.int (b1 (rowQ Wd Qs wi))), none] [] _ _
            refine g_goto (pc := 136) (tgt := 4) dc_M_countOf_136 rfl ?_
            refine am_wk (am_le_s (am_le_s (am_le_s (am_le_s (am_le_n (am_le_n (am_le_n am_le_0))))))) ?_
            have hp : pQ md Wd Qs wi = false := by unfold pQ; rw [if_pos hc110]; exact hc115
            have ec : cnb (pQ md Wd Qs) (wi + 1) = cnb (pQ md Wd Qs) wi + 0 := by show _ + (if pQ md Wd Qs wi = true then 1 else 0) = _; rw [hp]; rfl
            have h9 := l4_M_countOf hA hW hU h8 hw1 hq8 hq20 hmd n9 (wi + 1) (by omega) KK
            rw [ec] at h9
            exact h9
          · refine g_goto (pc := 118) (tgt := 126) dc_M_countOf_118 rfl ?_
            refine g_iconst (pc := 126) (v := 1) dc_M_countOf_126 rfl ?_
            refine g_goto (pc := 127) (tgt := 131) dc_M_countOf_127 rfl ?_
            refine g_iadd (pc := 131) (v := (nI (cnb (pQ md Wd Qs) wi + 1))) dc_M_countOf_131 (nI_add (cnb (pQ md Wd Qs) wi) 1) ?_
            refine g_istore_n (pc := 132) dc_M_countOf_132 (by decide) ?_
            show am_G X mt_M_countOf _ 133 [some (.ref 84), some (.int (nI md)), some (.int (nI (cnb (pQ md Wd Qs) wi + 1))), some (.int (nI wi)), some (.int (b1 (anyQ Wd Qs wi))), some (.int (b1 (rowQ Wd Qs wi))), none] [] _ _
            refine g_iinc (pc := 133) (v := (nI (wi + 1))) dc_M_countOf_133 rfl (nI_add wi 1) (by decide) ?_
            show am_G X mt_M_countOf _ 136 [some (.ref 84), some (.int (nI md)), some (.int (nI (cnb (pQ md Wd Qs) wi + 1))), some (.int (nI (wi + 1))), some (.int (b1 (anyQ Wd Qs wi))), some (.int (b1 (rowQ Wd Qs wi))), none] [] _ _
            refine g_goto (pc := 136) (tgt := 4) dc_M_countOf_136 rfl ?_
            refine am_wk (am_le_s (am_le_s (am_le_s (am_le_s (am_le_n (am_le_n (am_le_n am_le_0))))))) ?_
            have hp : pQ md Wd Qs wi = true := by unfold pQ; rw [if_pos hc110]; exact hc115
            have ec : cnb (pQ md Wd Qs) (wi + 1) = cnb (pQ md Wd Qs) wi + 1 := by show _ + (if pQ md Wd Qs wi = true then 1 else 0) = _; rw [hp]; rfl
            have h9 := l4_M_countOf hA hW hU h8 hw1 hq8 hq20 hmd n9 (wi + 1) (by omega) KK
            rw [ec] at h9
            exact h9
      · refine g_iconst (pc := 35) (v := 1) dc_M_countOf_35 rfl ?_
        refine g_goto (pc := 36) (tgt := 40) dc_M_countOf_36 rfl ?_
        refine g_istore (pc := 40) dc_M_countOf_40 (by decide) ?_
        show am_G X mt_M_countOf _ 42 [some (.ref 84), some (.int (nI md)), some (.int (nI (cnb (pQ md Wd Qs) wi))), some (.int (nI wi)), some (.int 0), some (.int 1), none] [] _ _
        refine g_iconst (pc := 42) (v := 0) dc_M_countOf_42 rfl ?_
        refine g_istore (pc := 43) dc_M_countOf_43 (by decide) ?_
        show am_G X mt_M_countOf _ 45 [some (.ref 84), some (.int (nI md)), some (.int (nI (cnb (pQ md Wd Qs) wi))), some (.int (nI wi)), some (.int 0), some (.int 1), some (.int 0)] [] _ _
        refine l45_M_countOf hA hW hU h8 hw1 hq8 hq20 hwi Qs.length 0 false true (Nat.zero_add _) rfl (by rw [show decide (0 < Qs.length ∧ wi + Qs.length ≤ Wd.length) = true from decide_eq_true (by omega)]; rfl) ?_
        refine g_iload_n (pc := 107) dc_M_countOf_107 rfl ?_
        refine g_iload_n (pc := 108) dc_M_countOf_108 rfl ?_
        refine g_iconst (pc := 109) (v := 2) dc_M_countOf_109 rfl ?_
        refine q_icmp_ne (pc := 110) (tgt := 121) md 2 dc_M_countOf_110 (by omega) (by omega) rfl (fun hc110 => ?_) (fun hc110 => ?_)
        · refine g_iload (pc := 121) dc_M_countOf_121 rfl ?_
          refine q_ifb_eq (pc := 123) (tgt := 130) dc_M_countOf_123 rfl (fun hc123 => ?_) (fun hc123 => ?_)
          · refine g_iconst (pc := 130) (v := 0) dc_M_countOf_130 rfl ?_
            refine g_iadd (pc := 131) (v := (nI (cnb (pQ md Wd Qs) wi + 0))) dc_M_countOf_131 (nI_add (cnb (pQ md Wd Qs) wi) 0) ?_
            refine g_istore_n (pc := 132) dc_M_countOf_132 (by decide) ?_
            show am_G X mt_M_countOf _ 133 [some (.ref 84), some (.int (nI md)), some (.int (nI (cnb (pQ md Wd Qs) wi + 0))), some (.int (nI wi)), some (.int (b1 (anyQ Wd Qs wi))), some (.int (b1 (rowQ Wd Qs wi))), none] [] _ _
            refine g_iinc (pc := 133) (v := (nI (wi + 1))) dc_M_countOf_133 rfl (nI_add wi 1) (by decide) ?_
            show am_G X mt_M_countOf _ 136 [some (.ref 84), some (.int (nI md)), some (.int (nI (cnb (pQ md Wd Qs) wi + 0))), some (.int (nI (wi + 1))), some (.int (b1 (anyQ Wd Qs wi))), some (.int (b1 (rowQ Wd Qs wi))), none] [] _ _
            refine g_goto (pc := 136) (tgt := 4) dc_M_countOf_136 rfl ?_
            refine am_wk (am_le_s (am_le_s (am_le_s (am_le_s (am_le_n (am_le_n (am_le_n am_le_0))))))) ?_
            have hp : pQ md Wd Qs wi = false := by unfold pQ; rw [if_neg hc110]; exact hc123
            have ec : cnb (pQ md Wd Qs) (wi + 1) = cnb (pQ md Wd Qs) wi + 0 := by show _ + (if pQ md Wd Qs wi = true then 1 else 0) = _; rw [hp]; rfl
            have h9 := l4_M_countOf hA hW hU h8 hw1 hq8 hq20 hmd n9 (wi + 1) (by omega) KK
            rw [ec] at h9
            exact h9
          · refine g_iconst (pc := 126) (v := 1) dc_M_countOf_126 rfl ?_
            refine g_goto (pc := 127) (tgt := 131) dc_M_countOf_127 rfl ?_
            refine g_iadd (pc := 131) (v := (nI (cnb (pQ md Wd Qs) wi + 1))) dc_M_countOf_131 (nI_add (cnb (pQ md Wd Qs) wi) 1) ?_
            refine g_istore_n (pc := 132) dc_M_countOf_132 (by decide) ?_
            show am_G X mt_M_countOf _ 133 [some (.ref 84), some (.int (nI md)), some (.int (nI (cnb (pQ md Wd Qs) wi + 1))), some (.int (nI wi)), some (.int (b1 (anyQ Wd Qs wi))), some (.int (b1 (rowQ Wd Qs wi))), none] [] _ _
            refine g_iinc (pc := 133) (v := (nI (wi + 1))) dc_M_countOf_133 rfl (nI_add wi 1) (by decide) ?_
            show am_G X mt_M_countOf _ 136 [some (.ref 84), some (.int (nI md)), some (.int (nI (cnb (pQ md Wd Qs) wi + 1))), some (.int (nI (wi + 1))), some (.int (b1 (anyQ Wd Qs wi))), some (.int (b1 (rowQ Wd Qs wi))), none] [] _ _
            refine g_goto (pc := 136) (tgt := 4) dc_M_countOf_136 rfl ?_
            refine am_wk (am_le_s (am_le_s (am_le_s (am_le_s (am_le_n (am_le_n (am_le_n am_le_0))))))) ?_
            have hp : pQ md Wd Qs wi = true := by unfold pQ; rw [if_neg hc110]; exact hc123
            have ec : cnb (pQ md Wd Qs) (wi + 1) = cnb (pQ md Wd Qs) wi + 1 := by show _ + (if pQ md Wd Qs wi = true then 1 else 0) = _; rw [hp]; rfl
            have h9 := l4_M_countOf hA hW hU h8 hw1 hq8 hq20 hmd n9 (wi + 1) (by omega) KK
            rw [ec] at h9
            exact h9
        · refine g_iload (pc := 113) dc_M_countOf_113 rfl ?_
          refine q_ifb_eq (pc := 115) (tgt := 130) dc_M_countOf_115 rfl (fun hc115 => ?_) (fun hc115 => ?_)
          · refine g_iconst (pc := 130) (v := 0) dc_M_countOf_130 rfl ?_
            refine g_iadd (pc := 131) (v := (nI (cnb (pQ md Wd Qs) wi + 0))) dc_M_countOf_131 (nI_add (cnb (pQ md Wd Qs) wi) 0) ?_
            refine g_istore_n (pc := 132) dc_M_countOf_132 (by decide) ?_
            show am_G X mt_M_countOf _ 133 [some (.ref 84), some (.int (nI md)), some (.int (nI (cnb (pQ md Wd Qs) wi + 0))), some (.int (nI wi)), some (.int (b1 (anyQ Wd Qs wi))), some (.int (b1 (rowQ Wd Qs wi))), none] [] _ _
            refine g_iinc (pc := 133) (v := (nI (wi + 1))) dc_M_countOf_133 rfl (nI_add wi 1) (by decide) ?_
            show am_G X mt_M_countOf _ 136 [some (.ref 84), some (.int (nI md)), some (.int (nI (cnb (pQ md Wd Qs) wi + 0))), some (.int (nI (wi + 1))), some (.int (b1 (anyQ Wd Qs wi))), some (.int (b1 (rowQ Wd Qs wi))), none] [] _ _
            refine g_goto (pc := 136) (tgt := 4) dc_M_countOf_136 rfl ?_
            refine am_wk (am_le_s (am_le_s (am_le_s (am_le_s (am_le_n (am_le_n (am_le_n am_le_0))))))) ?_
            have hp : pQ md Wd Qs wi = false := by unfold pQ; rw [if_pos hc110]; exact hc115
            have ec : cnb (pQ md Wd Qs) (wi + 1) = cnb (pQ md Wd Qs) wi + 0 := by show _ + (if pQ md Wd Qs wi = true then 1 else 0) = _; rw [hp]; rfl
            have h9 := l4_M_countOf hA hW hU h8 hw1 hq8 hq20 hmd n9 (wi + 1) (by omega) KK
            rw [ec] at h9
            exact h9
          · refine g_goto (pc := 118) (tgt := 126) dc_M_countOf_118 rfl ?_
            refine g_iconst (pc := 126) (v := 1) dc_M_countOf_126 rfl ?_
            refine g_goto (pc := 127) (tgt := 131) dc_M_countOf_127 rfl ?_
            refine g_iadd (pc := 131) (v := (nI (cnb (pQ md Wd Qs) wi + 1))) dc_M_countOf_131 (nI_add (cnb (pQ md Wd Qs) wi) 1) ?_
            refine g_istore_n (pc := 132) dc_M_countOf_132 (by decide) ?_
            show am_G X mt_M_countOf _ 133 [some (.ref 84), some (.int (nI md)), some (.int (nI (cnb (pQ md Wd Qs) wi + 1))), some (.int (nI wi)), some (.int (b1 (anyQ Wd Qs wi))), some (.int (b1 (rowQ Wd Qs wi))), none] [] _ _
            refine g_iinc (pc := 133) (v := (nI (wi + 1))) dc_M_countOf_133 rfl (nI_add wi 1) (by decide) ?_
            show am_G X mt_M_countOf _ 136 [some (.ref 84), some (.int (nI md)), some (.int (nI (cnb (pQ md Wd Qs) wi + 1))), some (.int (nI (wi + 1))), some (.int (b1 (anyQ Wd Qs wi))), some (.int (b1 (rowQ Wd Qs wi))), none] [] _ _
            refine g_goto (pc := 136) (tgt := 4) dc_M_countOf_136 rfl ?_
            refine am_wk (am_le_s (am_le_s (am_le_s (am_le_s (am_le_n (am_le_n (am_le_n am_le_0))))))) ?_
            have hp : pQ md Wd Qs wi = true := by unfold pQ; rw [if_pos hc110]; exact hc115
            have ec : cnb (pQ md Wd Qs) (wi + 1) = cnb (pQ md Wd Qs) wi + 1 := by show _ + (if pQ md Wd Qs wi = true then 1 else 0) = _; rw [hp]; rfl
            have h9 := l4_M_countOf hA hW hU h8 hw1 hq8 hq20 hmd n9 (wi + 1) (by omega) KK
            rw [ec] at h9
            exact h9
theorem l160_M_countOf (hA : A.length = 84) (hW : wdS S Wd) (hU : quM S Qs) (h8 : Wd.flatten.length ≤ 8000) (hw1 : Wd.length ≤ 4000) (hq8 : Qs.length ≤ 8) (hq20 : ∀ y, y ∈ Qs → y.length ≤ 20) (hq : qi < Qs.length) : ∀ (n9 k : Nat) (ba : Bool), k + n9 = Wd.length → ba = anb (fun w => isQ Wd Qs w qi) k → am_G X mt_M_countOf (d + 1) 197 [some (.ref 84), some (.int (nI md)), some (.int (nI cc)), some (.int (nI qi)), some (.int (b1 (hasQ Wd Qs qi))), none, none] [] (mput A S B) Q → am_G X mt_M_countOf (d + 1) 160 [some (.ref 84), some (.int (nI md)), some (.int (nI cc)), some (.int (nI qi)), some (.int (b1 ba)), some (.int (nI k)), none] [] (mput A S B) Q
  | 0, k, ba, e9, hba, KK => by
    refine g_iload (pc := 160) dc_M_countOf_160 rfl ?_
    refine g_aload_n (pc := 162) dc_M_countOf_162 rfl ?_
    refine g_getfield (pc := 163) (v := .int (nI Wd.length)) dc_M_countOf_163 fl_M_223 (mp_o hA) (congrArg (fun z => some (Value.int (nI z))) hW.1) ?_
    refine q_icmp_ge (pc := 166) (tgt := 197) k Wd.length dc_M_countOf_166 (by omega) (by omega) rfl (fun hc166 => ?_) (fun hc => absurd hc (by omega))
    refine am_wk (am_le_s (am_le_s (am_le_s (am_le_s (am_le_s (am_le_n (am_le_n am_le_0))))))) ?_
    rw [show ba = hasQ Wd Qs qi by rw [hba, show k = Wd.length by omega]; rfl]
    exact KK
  | n9 + 1, k, ba, e9, hba, KK => by
    have hk : k < Wd.length := by omega
    refine g_iload (pc := 160) dc_M_countOf_160 rfl ?_
    refine g_aload_n (pc := 162) dc_M_countOf_162 rfl ?_
    refine g_getfield (pc := 163) (v := .int (nI Wd.length)) dc_M_countOf_163 fl_M_223 (mp_o hA) (congrArg (fun z => some (Value.int (nI z))) hW.1) ?_
    refine q_icmp_ge (pc := 166) (tgt := 197) k Wd.length dc_M_countOf_166 (by omega) (by omega) rfl (fun hc => absurd hc (by omega)) (fun hc166 => ?_)
    refine g_iload (pc := 169) dc_M_countOf_169 rfl ?_
    refine q_ifb_ne (pc := 171) (tgt := 184) dc_M_countOf_171 rfl (fun hc171 => ?_) (fun hc171 => ?_)
    · refine g_iconst (pc := 184) (v := 1) dc_M_countOf_184 rfl ?_
      refine g_goto (pc := 185) (tgt := 189) dc_M_countOf_185 rfl ?_
      refine g_istore (pc := 189) dc_M_countOf_189 (by decide) ?_
      show am_G X mt_M_countOf _ 191 [some (.ref 84), some (.int (nI md)), some (.int (nI cc)), some (.int (nI qi)), some (.int 1), some (.int (nI k)), none] [] _ _
      refine g_iinc (pc := 191) (v := (nI (k + 1))) dc_M_countOf_191 rfl (nI_add k 1) (by decide) ?_
      show am_G X mt_M_countOf _ 194 [some (.ref 84), some (.int (nI md)), some (.int (nI cc)), some (.int (nI qi)), some (.int 1), some (.int (nI (k + 1))), none] [] _ _
      refine g_goto (pc := 194) (tgt := 160) dc_M_countOf_194 rfl ?_
      exact l160_M_countOf hA hW hU h8 hw1 hq8 hq20 hq n9 (k + 1) true (by omega) (by show true = (anb (fun w => isQ Wd Qs w qi) k || isQ Wd Qs k qi); rw [← hba, hc171]; rfl) KK
    · refine g_aload_n (pc := 174) dc_M_countOf_174 rfl ?_
      refine g_iload (pc := 175) dc_M_countOf_175 rfl ?_
      refine g_iload_n (pc := 177) dc_M_countOf_177 rfl ?_
      refine g_v2 (pc := 178) (M' := mt_M_isAsked) dc_M_countOf_178 mo_M_isAsked im_M_isAsked se_M_isAsked ln_M_490 (mp_o hA) rfl rfl (Nat.le_of_ble_eq_true rfl) (Nat.le_of_ble_eq_true rfl) (am_G.mono (c_M_isAsked (d := d) (wi := k) (qi := qi) hA hW hU hk hq h8 hw1 hq8 hq20) ?_)
      intro r h1 hq
      rw [hq.1, hq.2]
      clear hq h1 r
      refine ⟨am_nti _, ?_⟩
      refine q_ifb_eq (pc := 181) (tgt := 188) dc_M_countOf_181 rfl (fun hc181 => ?_) (fun hc181 => ?_)
      · refine g_iconst (pc := 188) (v := 0) dc_M_countOf_188 rfl ?_
        refine g_istore (pc := 189) dc_M_countOf_189 (by decide) ?_
        show am_G X mt_M_countOf _ 191 [some (.ref 84), some (.int (nI md)), some (.int (nI cc)), some (.int (nI qi)), some (.int 0), some (.int (nI k)), none] [] _ _
        refine g_iinc (pc := 191) (v := (nI (k + 1))) dc_M_countOf_191 rfl (nI_add k 1) (by decide) ?_
        show am_G X mt_M_countOf _ 194 [some (.ref 84), some (.int (nI md)), some (.int (nI cc)), some (.int (nI qi)), some (.int 0), some (.int (nI (k + 1))), none] [] _ _
        refine g_goto (pc := 194) (tgt := 160) dc_M_countOf_194 rfl ?_
        exact l160_M_countOf hA hW hU h8 hw1 hq8 hq20 hq n9 (k + 1) false (by omega) (by show false = (anb (fun w => isQ Wd Qs w qi) k || isQ Wd Qs k qi); rw [← hba, hc171, hc181]; rfl) KK
      · refine g_iconst (pc := 184) (v := 1) dc_M_countOf_184 rfl ?_
        refine g_goto (pc := 185) (tgt := 189) dc_M_countOf_185 rfl ?_
        refine g_istore (pc := 189) dc_M_countOf_189 (by decide) ?_
        show am_G X mt_M_countOf _ 191 [some (.ref 84), some (.int (nI md)), some (.int (nI cc)), some (.int (nI qi)), some (.int 1), some (.int (nI k)), none] [] _ _
        refine g_iinc (pc := 191) (v := (nI (k + 1))) dc_M_countOf_191 rfl (nI_add k 1) (by decide) ?_
        show am_G X mt_M_countOf _ 194 [some (.ref 84), some (.int (nI md)), some (.int (nI cc)), some (.int (nI qi)), some (.int 1), some (.int (nI (k + 1))), none] [] _ _
        refine g_goto (pc := 194) (tgt := 160) dc_M_countOf_194 rfl ?_
        exact l160_M_countOf hA hW hU h8 hw1 hq8 hq20 hq n9 (k + 1) true (by omega) (by show true = (anb (fun w => isQ Wd Qs w qi) k || isQ Wd Qs k qi); rw [← hba, hc171, hc181]; rfl) KK
theorem l141_M_countOf (hA : A.length = 84) (hW : wdS S Wd) (hU : quM S Qs) (h8 : Wd.flatten.length ≤ 8000) (hw1 : Wd.length ≤ 4000) (hq8 : Qs.length ≤ 8) (hq20 : ∀ y, y ∈ Qs → y.length ≤ 20) : ∀ (n9 qi : Nat), qi + n9 = Qs.length → am_G X mt_M_countOf (d + 1) 141 [some (.ref 84), some (.int 1), some (.int (nI (if alb (hasQ Wd Qs) qi = true then cnb (pQ 1 Wd Qs) Wd.length else 0))), some (.int (nI qi)), none, none, none] [] (mput A S B) (fun r h1 => r = some (.int (nI (cntQ 1 Wd Qs))) ∧ h1 = mput A S B)
  | 0, qi, e9 => by
    refine g_iload_n (pc := 141) dc_M_countOf_141 rfl ?_
    refine g_aload_n (pc := 142) dc_M_countOf_142 rfl ?_
    refine g_getfield (pc := 143) (v := .int (nI Qs.length)) dc_M_countOf_143 fl_M_487 (mp_o hA) (congrArg (fun z => some (Value.int (nI z))) hU.1) ?_
    refine q_icmp_ge (pc := 146) (tgt := 214) qi Qs.length dc_M_countOf_146 (by omega) (by omega) rfl (fun hc146 => ?_) (fun hc => absurd hc (by omega))
    refine g_iload_n (pc := 214) dc_M_countOf_214 rfl ?_
    exact g_ireturn dc_M_countOf_215 rfl ⟨by rw [cntQ_1, show qi = Qs.length by omega], rfl⟩
  | n9 + 1, qi, e9 => by
    have hq : qi < Qs.length := by omega
    refine g_iload_n (pc := 141) dc_M_countOf_141 rfl ?_
    refine g_aload_n (pc := 142) dc_M_countOf_142 rfl ?_
    refine g_getfield (pc := 143) (v := .int (nI Qs.length)) dc_M_countOf_143 fl_M_487 (mp_o hA) (congrArg (fun z => some (Value.int (nI z))) hU.1) ?_
    refine q_icmp_ge (pc := 146) (tgt := 214) qi Qs.length dc_M_countOf_146 (by omega) (by omega) rfl (fun hc => absurd hc (by omega)) (fun hc146 => ?_)
    refine g_iload_n (pc := 149) dc_M_countOf_149 rfl ?_
    refine g_iconst (pc := 150) (v := 1) dc_M_countOf_150 rfl ?_
    refine g_icmp_ne (pc := 151) (tgt := 214) dc_M_countOf_151 rfl (fun hc => absurd hc (by decide)) (fun _ => ?_)
    refine g_iconst (pc := 154) (v := 0) dc_M_countOf_154 rfl ?_
    refine g_istore (pc := 155) dc_M_countOf_155 (by decide) ?_
    show am_G X mt_M_countOf _ 157 [some (.ref 84), some (.int 1), some (.int (nI (if alb (hasQ Wd Qs) qi = true then cnb (pQ 1 Wd Qs) Wd.length else 0))), some (.int (nI qi)), some (.int 0), none, none] [] _ _
    refine g_iconst (pc := 157) (v := 0) dc_M_countOf_157 rfl ?_
    refine g_istore (pc := 158) dc_M_countOf_158 (by decide) ?_
    show am_G X mt_M_countOf _ 160 [some (.ref 84), some (.int 1), some (.int (nI (if alb (hasQ Wd Qs) qi = true then cnb (pQ 1 Wd Qs) Wd.length else 0))), some (.int (nI qi)), some (.int 0), some (.int 0), none] [] _ _
    refine l160_M_countOf (md := 1) hA hW hU h8 hw1 hq8 hq20 hq Wd.length 0 false (Nat.zero_add _) rfl ?_
    refine g_iload (pc := 197) dc_M_countOf_197 rfl ?_
    refine q_ifb_eq (pc := 199) (tgt := 206) dc_M_countOf_199 rfl (fun hc199 => ?_) (fun hc199 => ?_)
    · refine g_iconst (pc := 206) (v := 0) dc_M_countOf_206 rfl ?_
      refine g_istore_n (pc := 207) dc_M_countOf_207 (by decide) ?_
      show am_G X mt_M_countOf _ 208 [some (.ref 84), some (.int 1), some (.int 0), some (.int (nI qi)), some (.int (b1 (hasQ Wd Qs qi))), none, none] [] _ _
      refine g_iinc (pc := 208) (v := (nI (qi + 1))) dc_M_countOf_208 rfl (nI_add qi 1) (by decide) ?_
      show am_G X mt_M_countOf _ 211 [some (.ref 84), some (.int 1), some (.int 0), some (.int (nI (qi + 1))), some (.int (b1 (hasQ Wd Qs qi))), none, none] [] _ _
      refine g_goto (pc := 211) (tgt := 141) dc_M_countOf_211 rfl ?_
      refine am_wk (am_le_s (am_le_s (am_le_s (am_le_s (am_le_n (am_le_n (am_le_n am_le_0))))))) ?_
      have ec : (if alb (hasQ Wd Qs) (qi + 1) = true then cnb (pQ 1 Wd Qs) Wd.length else 0) = 0 := by show (if (alb (hasQ Wd Qs) qi && hasQ Wd Qs qi) = true then _ else _) = _; rw [hc199, Bool.and_false]; rfl
      have h9 := l141_M_countOf hA hW hU h8 hw1 hq8 hq20 n9 (qi + 1) (by omega)
      rw [ec] at h9
      exact h9
    · refine g_iload_n (pc := 202) dc_M_countOf_202 rfl ?_
      refine g_goto (pc := 203) (tgt := 207) dc_M_countOf_203 rfl ?_
      refine g_istore_n (pc := 207) dc_M_countOf_207 (by decide) ?_
      show am_G X mt_M_countOf _ 208 [some (.ref 84), some (.int 1), some (.int (nI (if alb (hasQ Wd Qs) qi = true then cnb (pQ 1 Wd Qs) Wd.length else 0))), some (.int (nI qi)), some (.int (b1 (hasQ Wd Qs qi))), none, none] [] _ _
      refine g_iinc (pc := 208) (v := (nI (qi + 1))) dc_M_countOf_208 rfl (nI_add qi 1) (by decide) ?_
      show am_G X mt_M_countOf _ 211 [some (.ref 84), some (.int 1), some (.int (nI (if alb (hasQ Wd Qs) qi = true then cnb (pQ 1 Wd Qs) Wd.length else 0))), some (.int (nI (qi + 1))), some (.int (b1 (hasQ Wd Qs qi))), none, none] [] _ _
      refine g_goto (pc := 211) (tgt := 141) dc_M_countOf_211 rfl ?_
      refine am_wk (am_le_s (am_le_s (am_le_s (am_le_s (am_le_n (am_le_n (am_le_n am_le_0))))))) ?_
      have ec : (if alb (hasQ Wd Qs) (qi + 1) = true then cnb (pQ 1 Wd Qs) Wd.length else 0) = (if alb (hasQ Wd Qs) qi = true then cnb (pQ 1 Wd Qs) Wd.length else 0) := by show (if (alb (hasQ Wd Qs) qi && hasQ Wd Qs qi) = true then _ else _) = _; rw [hc199, Bool.and_true]
      have h9 := l141_M_countOf hA hW hU h8 hw1 hq8 hq20 n9 (qi + 1) (by omega)
      rw [ec] at h9
      exact h9
theorem c_M_countOf (hA : A.length = 84) (hW : wdS S Wd) (hU : quM S Qs) (h8 : Wd.flatten.length ≤ 8000) (hw1 : Wd.length ≤ 4000) (hq8 : Qs.length ≤ 8) (hq20 : ∀ y, y ∈ Qs → y.length ≤ 20) (hmd : md ≤ 2) : am_C X mt_M_countOf (d + 1) [.ref 84, .int (nI md)] (mput A S B) (fun r h1 => r = some (.int (nI (cntQ md Wd Qs))) ∧ h1 = mput A S B) := by
  show am_G X mt_M_countOf (d + 1) 0 [some (.ref 84), some (.int (nI md)), none, none, none, none, none] [] (mput A S B) _
  refine g_iconst (pc := 0) (v := 0) dc_M_countOf_0 rfl ?_
  refine g_istore_n (pc := 1) dc_M_countOf_1 (by decide) ?_
  show am_G X mt_M_countOf _ 2 [some (.ref 84), some (.int (nI md)), some (.int 0), none, none, none, none] [] _ _
  refine g_iconst (pc := 2) (v := 0) dc_M_countOf_2 rfl ?_
  refine g_istore_n (pc := 3) dc_M_countOf_3 (by decide) ?_
  show am_G X mt_M_countOf _ 4 [some (.ref 84), some (.int (nI md)), some (.int 0), some (.int 0), none, none, none] [] _ _
  refine l4_M_countOf hA hW hU h8 hw1 hq8 hq20 hmd Wd.length 0 (Nat.zero_add _) ?_
  have hcl := cnb_le (p := (pQ md Wd Qs)) Wd.length
  by_cases h1 : md = 1
  · rw [h1]
    rw [h1] at hcl
    refine g_iconst (pc := 139) (v := 0) dc_M_countOf_139 rfl ?_
    refine g_istore_n (pc := 140) dc_M_countOf_140 (by decide) ?_
    show am_G X mt_M_countOf _ 141 [some (.ref 84), some (.int 1), some (.int (nI (cnb (pQ 1 Wd Qs) Wd.length))), some (.int 0), none, none, none] [] _ _
    exact l141_M_countOf hA hW hU h8 hw1 hq8 hq20 Qs.length 0 (Nat.zero_add _)
  · refine g_iconst (pc := 139) (v := 0) dc_M_countOf_139 rfl ?_
    refine g_istore_n (pc := 140) dc_M_countOf_140 (by decide) ?_
    show am_G X mt_M_countOf _ 141 [some (.ref 84), some (.int (nI md)), some (.int (nI (cnb (pQ md Wd Qs) Wd.length))), some (.int 0), none, none, none] [] _ _
    refine g_iload_n (pc := 141) dc_M_countOf_141 rfl ?_
    refine g_aload_n (pc := 142) dc_M_countOf_142 rfl ?_
    refine g_getfield (pc := 143) (v := .int (nI Qs.length)) dc_M_countOf_143 fl_M_487 (mp_o hA) (congrArg (fun z => some (Value.int (nI z))) hU.1) ?_
    refine q_icmp_ge (pc := 146) (tgt := 214) 0 Qs.length dc_M_countOf_146 (by omega) (by omega) rfl (fun hc146 => ?_) (fun hc146 => ?_)
    · refine g_iload_n (pc := 214) dc_M_countOf_214 rfl ?_
      exact g_ireturn dc_M_countOf_215 rfl ⟨by rw [cntQ_p h1], rfl⟩
    · refine g_iload_n (pc := 149) dc_M_countOf_149 rfl ?_
      refine g_iconst (pc := 150) (v := 1) dc_M_countOf_150 rfl ?_
      refine q_icmp_ne (pc := 151) (tgt := 214) md 1 dc_M_countOf_151 (by omega) (by omega) rfl (fun hc151 => ?_) (fun hc => absurd hc (by omega))
      refine g_iload_n (pc := 214) dc_M_countOf_214 rfl ?_
      exact g_ireturn dc_M_countOf_215 rfl ⟨by rw [cntQ_p h1], rfl⟩
end GDS
