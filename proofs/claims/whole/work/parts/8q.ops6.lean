/-! ===== the model: set, end, feed; all of a call that only asks ===== -/
section OP6
variable {X : am_X} {d k ka j i : Nat} {A B h : List va_E} {S : MS} {T Y U Ls Rs Rt Sd : List (List Int32)} {sett : Nat → Nat} {P : List Pg} {D L E : List Int32} {p w a1 a2 a3 a4 a5 : Int32}
theorem tdM_set {S1 : MS} {v : Nat} (h : tdM S sett) (hk : k < 4) (hv : v ≤ stmx k) (e : S1.told = upd S.told k (nI v)) : tdM S1 (upf sett k v) := by
  obtain ⟨h1, h2, h3, h4, h5⟩ := h
  unfold tdM
  rw [e]
  refine ⟨fun i hi => ?_, ?_⟩
  · by_cases q : i = k
    · rw [q, upd_s, upf_s]
    · rw [upd_n q, upf_n q]; exact h1 i hi
  · rcases (by omega : k = 0 ∨ k = 1 ∨ k = 2 ∨ k = 3) with rfl | rfl | rfl | rfl
    · exact ⟨by rw [upf_s]; exact hv, by rw [upf_n (by decide)]; exact h3, by rw [upf_n (by decide)]; exact h4, by rw [upf_n (by decide)]; exact h5⟩
    · exact ⟨by rw [upf_n (by decide)]; exact h2, by rw [upf_s]; exact hv, by rw [upf_n (by decide)]; exact h4, by rw [upf_n (by decide)]; exact h5⟩
    · exact ⟨by rw [upf_n (by decide)]; exact h2, by rw [upf_n (by decide)]; exact h3, by rw [upf_s]; exact hv, by rw [upf_n (by decide)]; exact h5⟩
    · exact ⟨by rw [upf_n (by decide)]; exact h2, by rw [upf_n (by decide)]; exact h3, by rw [upf_n (by decide)]; exact h4, by rw [upf_s]; exact hv⟩
theorem c_M_set (hA : A.length = 84) (ht : tdM S sett) : am_C X mt_M_set d [.ref 84, .int p, .int w] (mput A S B) (fun r h1 => match stG p w with | none => r = some (.int 0) ∧ h1 = mput A (S.s_fault 0) B | some z => r = some (.int 1) ∧ ∃ S1, h1 = mput A S1 B ∧ mA [2, 57] S S1 ∧ tdM S1 (upf sett z.1 z.2)) := by
  show am_G X mt_M_set d 0 [some (.ref 84), some (.int p), some (.int w), none] [] (mput A S B) _
  cases e : ixo p 4 with
  | none =>
    have e5 : stG p w = none := by unfold stG; rw [e]
    rw [e5]
    have hn0 : ¬ p = 0 := fun h9 => by rw [h9] at e; cases e
    have hn1 : ¬ p = 1 := fun h9 => by rw [h9] at e; cases e
    have hn2 : ¬ p = 2 := fun h9 => by rw [h9] at e; cases e
    have hn3 : ¬ p = 3 := fun h9 => by rw [h9] at e; cases e
    refine g_aload_n (pc := 0) dc_M_set_0 rfl ?_
    refine g_iconst (pc := 1) (v := 0) dc_M_set_1 rfl ?_
    refine pf_fault (pc := 2) (v := 0) hA dc_M_set_2 fp_M_set_1 ?_
    refine g_iload_n (pc := 5) dc_M_set_5 rfl ?_
    refine g_if_ne (pc := 6) (tgt := 19) dc_M_set_6 rfl (fun hc6 => ?_) (fun hc => absurd hc (hn0))
    refine g_iload_n (pc := 19) dc_M_set_19 rfl ?_
    refine g_iconst (pc := 20) (v := 1) dc_M_set_20 rfl ?_
    refine g_icmp_ne (pc := 21) (tgt := 34) dc_M_set_21 rfl (fun hc21 => ?_) (fun hc => absurd hc (hn1))
    refine g_iload_n (pc := 34) dc_M_set_34 rfl ?_
    refine g_iconst (pc := 35) (v := 2) dc_M_set_35 rfl ?_
    refine g_icmp_ne (pc := 36) (tgt := 50) dc_M_set_36 rfl (fun hc36 => ?_) (fun hc => absurd hc (hn2))
    refine g_iload_n (pc := 50) dc_M_set_50 rfl ?_
    refine g_iconst (pc := 51) (v := 3) dc_M_set_51 rfl ?_
    refine g_icmp_ne (pc := 52) (tgt := 70) dc_M_set_52 rfl (fun hc52 => ?_) (fun hc => absurd hc (hn3))
    refine g_iconst (pc := 70) (v := 0) dc_M_set_70 rfl ?_
    refine g_istore_n (pc := 71) dc_M_set_71 (by decide) ?_
    show am_G X mt_M_set _ 72 [some (.ref 84), some (.int p), some (.int w), some (.int 0)] [] _ _
    refine g_iload_n (pc := 72) dc_M_set_72 rfl ?_
    refine g_if_eq (pc := 73) (tgt := 83) dc_M_set_73 rfl (fun _ => ?_) (fun hc => absurd hc (by decide))
    refine g_iload_n (pc := 83) dc_M_set_83 rfl ?_
    exact g_zreturn dc_M_set_84 rfl rfl ⟨rfl, rfl⟩
  | some k =>
    obtain ⟨hk4, rfl⟩ := ixo_s e
    rcases (by omega : k = 0 ∨ k = 1 ∨ k = 2 ∨ k = 3) with rfl | rfl | rfl | rfl
    · show am_G X mt_M_set d 0 [some (.ref 84), some (.int 0), some (.int w), none] [] (mput A S B) _
      cases e2 : ixo w 21 with
      | none =>
        have e5 : stG (nI 0) w = none := by unfold stG; rw [e]; dsimp only; rw [show stmx 0 + 1 = 21 from rfl, e2]
        rw [e5]
        have hout := ixo_n (by decide) e2
        refine g_aload_n (pc := 0) dc_M_set_0 rfl ?_
        refine g_iconst (pc := 1) (v := 0) dc_M_set_1 rfl ?_
        refine pf_fault (pc := 2) (v := 0) hA dc_M_set_2 fp_M_set_1 ?_
        refine g_iload_n (pc := 5) dc_M_set_5 rfl ?_
        refine g_if_ne (pc := 6) (tgt := 19) dc_M_set_6 rfl (fun hc => absurd hc (by decide)) (fun _ => ?_)
        refine g_iload_n (pc := 9) dc_M_set_9 rfl ?_
        refine g_if_lt (pc := 10) (tgt := 19) dc_M_set_10 rfl (fun hc10 => ?_) (fun hc10 => ?_)
        · have hi10 : (w).toInt < (0 : Int) := Int32.lt_iff_toInt_lt.mp hc10
          refine g_iload_n (pc := 19) dc_M_set_19 rfl ?_
          refine g_iconst (pc := 20) (v := 1) dc_M_set_20 rfl ?_
          refine g_icmp_ne (pc := 21) (tgt := 34) dc_M_set_21 rfl (fun _ => ?_) (fun hc => absurd hc (by decide))
          refine g_iload_n (pc := 34) dc_M_set_34 rfl ?_
          refine g_iconst (pc := 35) (v := 2) dc_M_set_35 rfl ?_
          refine g_icmp_ne (pc := 36) (tgt := 50) dc_M_set_36 rfl (fun _ => ?_) (fun hc => absurd hc (by decide))
          refine g_iload_n (pc := 50) dc_M_set_50 rfl ?_
          refine g_iconst (pc := 51) (v := 3) dc_M_set_51 rfl ?_
          refine g_icmp_ne (pc := 52) (tgt := 70) dc_M_set_52 rfl (fun _ => ?_) (fun hc => absurd hc (by decide))
          refine g_iconst (pc := 70) (v := 0) dc_M_set_70 rfl ?_
          refine g_istore_n (pc := 71) dc_M_set_71 (by decide) ?_
          show am_G X mt_M_set _ 72 [some (.ref 84), some (.int 0), some (.int w), some (.int 0)] [] _ _
          refine g_iload_n (pc := 72) dc_M_set_72 rfl ?_
          refine g_if_eq (pc := 73) (tgt := 83) dc_M_set_73 rfl (fun _ => ?_) (fun hc => absurd hc (by decide))
          refine g_iload_n (pc := 83) dc_M_set_83 rfl ?_
          exact g_zreturn dc_M_set_84 rfl rfl ⟨rfl, rfl⟩
        · have hi10 : ¬ ((w).toInt < (0 : Int)) := fun h9 => hc10 (Int32.lt_iff_toInt_lt.mpr h9)
          refine g_iload_n (pc := 13) dc_M_set_13 rfl ?_
          refine g_bipush (pc := 14) (v := 20) dc_M_set_14 rfl ?_
          refine g_icmp_le (pc := 16) (tgt := 66) dc_M_set_16 rfl (fun hc => absurd hc (fun h8 => absurd (hout.resolve_left hc10) (Int32.not_le.mpr (Int32.lt_of_le_of_lt h8 (by decide))))) (fun hc16 => ?_)
          refine g_iload_n (pc := 19) dc_M_set_19 rfl ?_
          refine g_iconst (pc := 20) (v := 1) dc_M_set_20 rfl ?_
          refine g_icmp_ne (pc := 21) (tgt := 34) dc_M_set_21 rfl (fun _ => ?_) (fun hc => absurd hc (by decide))
          refine g_iload_n (pc := 34) dc_M_set_34 rfl ?_
          refine g_iconst (pc := 35) (v := 2) dc_M_set_35 rfl ?_
          refine g_icmp_ne (pc := 36) (tgt := 50) dc_M_set_36 rfl (fun _ => ?_) (fun hc => absurd hc (by decide))
          refine g_iload_n (pc := 50) dc_M_set_50 rfl ?_
          refine g_iconst (pc := 51) (v := 3) dc_M_set_51 rfl ?_
          refine g_icmp_ne (pc := 52) (tgt := 70) dc_M_set_52 rfl (fun _ => ?_) (fun hc => absurd hc (by decide))
          refine g_iconst (pc := 70) (v := 0) dc_M_set_70 rfl ?_
          refine g_istore_n (pc := 71) dc_M_set_71 (by decide) ?_
          show am_G X mt_M_set _ 72 [some (.ref 84), some (.int 0), some (.int w), some (.int 0)] [] _ _
          refine g_iload_n (pc := 72) dc_M_set_72 rfl ?_
          refine g_if_eq (pc := 73) (tgt := 83) dc_M_set_73 rfl (fun _ => ?_) (fun hc => absurd hc (by decide))
          refine g_iload_n (pc := 83) dc_M_set_83 rfl ?_
          exact g_zreturn dc_M_set_84 rfl rfl ⟨rfl, rfl⟩
      | some v =>
        obtain ⟨hv, rfl⟩ := ixo_s e2
        have e5 : stG (nI 0) (nI v) = some (0, v) := by unfold stG; rw [e]; dsimp only; rw [show stmx 0 + 1 = 21 from rfl, e2]; dsimp only; rw [if_pos (show stmn 0 ≤ v from Nat.zero_le v)]
        rw [e5]
        refine g_aload_n (pc := 0) dc_M_set_0 rfl ?_
        refine g_iconst (pc := 1) (v := 0) dc_M_set_1 rfl ?_
        refine pf_fault (pc := 2) (v := 0) hA dc_M_set_2 fp_M_set_1 ?_
        refine g_iload_n (pc := 5) dc_M_set_5 rfl ?_
        refine g_if_ne (pc := 6) (tgt := 19) dc_M_set_6 rfl (fun hc => absurd hc (by decide)) (fun _ => ?_)
        refine g_iload_n (pc := 9) dc_M_set_9 rfl ?_
        refine q_if_lt (pc := 10) (tgt := 19) v dc_M_set_10 (by omega) rfl ?_
        refine g_iload_n (pc := 13) dc_M_set_13 rfl ?_
        refine g_bipush (pc := 14) (v := 20) dc_M_set_14 rfl ?_
        refine q_icmp_le (pc := 16) (tgt := 66) v 20 dc_M_set_16 (by omega) (by omega) rfl (fun hc16 => ?_) (fun hc => absurd hc (by omega))
        refine g_iconst (pc := 66) (v := 1) dc_M_set_66 rfl ?_
        refine g_goto (pc := 67) (tgt := 71) dc_M_set_67 rfl ?_
        refine g_istore_n (pc := 71) dc_M_set_71 (by decide) ?_
        show am_G X mt_M_set _ 72 [some (.ref 84), some (.int 0), some (.int (nI v)), some (.int 1)] [] _ _
        refine g_iload_n (pc := 72) dc_M_set_72 rfl ?_
        refine g_if_eq (pc := 73) (tgt := 83) dc_M_set_73 rfl (fun hc => absurd hc (by decide)) (fun _ => ?_)
        refine g_aload_n (pc := 76) dc_M_set_76 rfl ?_
        refine g_getfield (pc := 77) dc_M_set_77 fl_M_347 (mp_o hA) rfl ?_
        refine g_iload_n (pc := 80) dc_M_set_80 rfl ?_
        refine g_iload_n (pc := 81) dc_M_set_81 rfl ?_
        refine asE_told (pc := 82) 0 (g := upd S.told 0 (nI v)) hA dc_M_set_82 (by omega) (rfl) ?_
        refine g_iload_n (pc := 83) dc_M_set_83 rfl ?_
        exact g_zreturn dc_M_set_84 rfl rfl ⟨rfl, _, rfl, ((mA.rf S).a_fault _ (by decide)).a_told _ (by decide), tdM_set ht (show 0 < 4 by decide) (show v ≤ stmx 0 by show v ≤ 20; omega) rfl⟩
    · show am_G X mt_M_set d 0 [some (.ref 84), some (.int 1), some (.int w), none] [] (mput A S B) _
      cases e2 : ixo w 9 with
      | none =>
        have e5 : stG (nI 1) w = none := by unfold stG; rw [e]; dsimp only; rw [show stmx 1 + 1 = 9 from rfl, e2]
        rw [e5]
        have hout := ixo_n (by decide) e2
        refine g_aload_n (pc := 0) dc_M_set_0 rfl ?_
        refine g_iconst (pc := 1) (v := 0) dc_M_set_1 rfl ?_
        refine pf_fault (pc := 2) (v := 0) hA dc_M_set_2 fp_M_set_1 ?_
        refine g_iload_n (pc := 5) dc_M_set_5 rfl ?_
        refine g_if_ne (pc := 6) (tgt := 19) dc_M_set_6 rfl (fun _ => ?_) (fun hc => absurd hc (by decide))
        refine g_iload_n (pc := 19) dc_M_set_19 rfl ?_
        refine g_iconst (pc := 20) (v := 1) dc_M_set_20 rfl ?_
        refine g_icmp_ne (pc := 21) (tgt := 34) dc_M_set_21 rfl (fun hc => absurd hc (by decide)) (fun _ => ?_)
        refine g_iload_n (pc := 24) dc_M_set_24 rfl ?_
        refine g_if_lt (pc := 25) (tgt := 34) dc_M_set_25 rfl (fun hc25 => ?_) (fun hc25 => ?_)
        · have hi25 : (w).toInt < (0 : Int) := Int32.lt_iff_toInt_lt.mp hc25
          refine g_iload_n (pc := 34) dc_M_set_34 rfl ?_
          refine g_iconst (pc := 35) (v := 2) dc_M_set_35 rfl ?_
          refine g_icmp_ne (pc := 36) (tgt := 50) dc_M_set_36 rfl (fun _ => ?_) (fun hc => absurd hc (by decide))
          refine g_iload_n (pc := 50) dc_M_set_50 rfl ?_
          refine g_iconst (pc := 51) (v := 3) dc_M_set_51 rfl ?_
          refine g_icmp_ne (pc := 52) (tgt := 70) dc_M_set_52 rfl (fun _ => ?_) (fun hc => absurd hc (by decide))
          refine g_iconst (pc := 70) (v := 0) dc_M_set_70 rfl ?_
          refine g_istore_n (pc := 71) dc_M_set_71 (by decide) ?_
          show am_G X mt_M_set _ 72 [some (.ref 84), some (.int 1), some (.int w), some (.int 0)] [] _ _
          refine g_iload_n (pc := 72) dc_M_set_72 rfl ?_
          refine g_if_eq (pc := 73) (tgt := 83) dc_M_set_73 rfl (fun _ => ?_) (fun hc => absurd hc (by decide))
          refine g_iload_n (pc := 83) dc_M_set_83 rfl ?_
          exact g_zreturn dc_M_set_84 rfl rfl ⟨rfl, rfl⟩
        · have hi25 : ¬ ((w).toInt < (0 : Int)) := fun h9 => hc25 (Int32.lt_iff_toInt_lt.mpr h9)
          refine g_iload_n (pc := 28) dc_M_set_28 rfl ?_
          refine g_bipush (pc := 29) (v := 8) dc_M_set_29 rfl ?_
          refine g_icmp_le (pc := 31) (tgt := 66) dc_M_set_31 rfl (fun hc => absurd hc (fun h8 => absurd (hout.resolve_left hc25) (Int32.not_le.mpr (Int32.lt_of_le_of_lt h8 (by decide))))) (fun hc31 => ?_)
          refine g_iload_n (pc := 34) dc_M_set_34 rfl ?_
          refine g_iconst (pc := 35) (v := 2) dc_M_set_35 rfl ?_
          refine g_icmp_ne (pc := 36) (tgt := 50) dc_M_set_36 rfl (fun _ => ?_) (fun hc => absurd hc (by decide))
          refine g_iload_n (pc := 50) dc_M_set_50 rfl ?_
          refine g_iconst (pc := 51) (v := 3) dc_M_set_51 rfl ?_
          refine g_icmp_ne (pc := 52) (tgt := 70) dc_M_set_52 rfl (fun _ => ?_) (fun hc => absurd hc (by decide))
          refine g_iconst (pc := 70) (v := 0) dc_M_set_70 rfl ?_
          refine g_istore_n (pc := 71) dc_M_set_71 (by decide) ?_
          show am_G X mt_M_set _ 72 [some (.ref 84), some (.int 1), some (.int w), some (.int 0)] [] _ _
          refine g_iload_n (pc := 72) dc_M_set_72 rfl ?_
          refine g_if_eq (pc := 73) (tgt := 83) dc_M_set_73 rfl (fun _ => ?_) (fun hc => absurd hc (by decide))
          refine g_iload_n (pc := 83) dc_M_set_83 rfl ?_
          exact g_zreturn dc_M_set_84 rfl rfl ⟨rfl, rfl⟩
      | some v =>
        obtain ⟨hv, rfl⟩ := ixo_s e2
        have e5 : stG (nI 1) (nI v) = some (1, v) := by unfold stG; rw [e]; dsimp only; rw [show stmx 1 + 1 = 9 from rfl, e2]; dsimp only; rw [if_pos (show stmn 1 ≤ v from Nat.zero_le v)]
        rw [e5]
        refine g_aload_n (pc := 0) dc_M_set_0 rfl ?_
        refine g_iconst (pc := 1) (v := 0) dc_M_set_1 rfl ?_
        refine pf_fault (pc := 2) (v := 0) hA dc_M_set_2 fp_M_set_1 ?_
        refine g_iload_n (pc := 5) dc_M_set_5 rfl ?_
        refine g_if_ne (pc := 6) (tgt := 19) dc_M_set_6 rfl (fun _ => ?_) (fun hc => absurd hc (by decide))
        refine g_iload_n (pc := 19) dc_M_set_19 rfl ?_
        refine g_iconst (pc := 20) (v := 1) dc_M_set_20 rfl ?_
        refine g_icmp_ne (pc := 21) (tgt := 34) dc_M_set_21 rfl (fun hc => absurd hc (by decide)) (fun _ => ?_)
        refine g_iload_n (pc := 24) dc_M_set_24 rfl ?_
        refine q_if_lt (pc := 25) (tgt := 34) v dc_M_set_25 (by omega) rfl ?_
        refine g_iload_n (pc := 28) dc_M_set_28 rfl ?_
        refine g_bipush (pc := 29) (v := 8) dc_M_set_29 rfl ?_
        refine q_icmp_le (pc := 31) (tgt := 66) v 8 dc_M_set_31 (by omega) (by omega) rfl (fun hc31 => ?_) (fun hc => absurd hc (by omega))
        refine g_iconst (pc := 66) (v := 1) dc_M_set_66 rfl ?_
        refine g_goto (pc := 67) (tgt := 71) dc_M_set_67 rfl ?_
        refine g_istore_n (pc := 71) dc_M_set_71 (by decide) ?_
        show am_G X mt_M_set _ 72 [some (.ref 84), some (.int 1), some (.int (nI v)), some (.int 1)] [] _ _
        refine g_iload_n (pc := 72) dc_M_set_72 rfl ?_
        refine g_if_eq (pc := 73) (tgt := 83) dc_M_set_73 rfl (fun hc => absurd hc (by decide)) (fun _ => ?_)
        refine g_aload_n (pc := 76) dc_M_set_76 rfl ?_
        refine g_getfield (pc := 77) dc_M_set_77 fl_M_347 (mp_o hA) rfl ?_
        refine g_iload_n (pc := 80) dc_M_set_80 rfl ?_
        refine g_iload_n (pc := 81) dc_M_set_81 rfl ?_
        refine asE_told (pc := 82) 1 (g := upd S.told 1 (nI v)) hA dc_M_set_82 (by omega) (rfl) ?_
        refine g_iload_n (pc := 83) dc_M_set_83 rfl ?_
        exact g_zreturn dc_M_set_84 rfl rfl ⟨rfl, _, rfl, ((mA.rf S).a_fault _ (by decide)).a_told _ (by decide), tdM_set ht (show 1 < 4 by decide) (show v ≤ stmx 1 by show v ≤ 8; omega) rfl⟩
    · show am_G X mt_M_set d 0 [some (.ref 84), some (.int 2), some (.int w), none] [] (mput A S B) _
      cases e2 : ixo w 1001 with
      | none =>
        have e5 : stG (nI 2) w = none := by unfold stG; rw [e]; dsimp only; rw [show stmx 2 + 1 = 1001 from rfl, e2]
        rw [e5]
        have hout := ixo_n (by decide) e2
        refine g_aload_n (pc := 0) dc_M_set_0 rfl ?_
        refine g_iconst (pc := 1) (v := 0) dc_M_set_1 rfl ?_
        refine pf_fault (pc := 2) (v := 0) hA dc_M_set_2 fp_M_set_1 ?_
        refine g_iload_n (pc := 5) dc_M_set_5 rfl ?_
        refine g_if_ne (pc := 6) (tgt := 19) dc_M_set_6 rfl (fun _ => ?_) (fun hc => absurd hc (by decide))
        refine g_iload_n (pc := 19) dc_M_set_19 rfl ?_
        refine g_iconst (pc := 20) (v := 1) dc_M_set_20 rfl ?_
        refine g_icmp_ne (pc := 21) (tgt := 34) dc_M_set_21 rfl (fun _ => ?_) (fun hc => absurd hc (by decide))
        refine g_iload_n (pc := 34) dc_M_set_34 rfl ?_
        refine g_iconst (pc := 35) (v := 2) dc_M_set_35 rfl ?_
        refine g_icmp_ne (pc := 36) (tgt := 50) dc_M_set_36 rfl (fun hc => absurd hc (by decide)) (fun _ => ?_)
        refine g_iload_n (pc := 39) dc_M_set_39 rfl ?_
        refine g_if_lt (pc := 40) (tgt := 50) dc_M_set_40 rfl (fun hc40 => ?_) (fun hc40 => ?_)
        · have hi40 : (w).toInt < (0 : Int) := Int32.lt_iff_toInt_lt.mp hc40
          refine g_iload_n (pc := 50) dc_M_set_50 rfl ?_
          refine g_iconst (pc := 51) (v := 3) dc_M_set_51 rfl ?_
          refine g_icmp_ne (pc := 52) (tgt := 70) dc_M_set_52 rfl (fun _ => ?_) (fun hc => absurd hc (by decide))
          refine g_iconst (pc := 70) (v := 0) dc_M_set_70 rfl ?_
          refine g_istore_n (pc := 71) dc_M_set_71 (by decide) ?_
          show am_G X mt_M_set _ 72 [some (.ref 84), some (.int 2), some (.int w), some (.int 0)] [] _ _
          refine g_iload_n (pc := 72) dc_M_set_72 rfl ?_
          refine g_if_eq (pc := 73) (tgt := 83) dc_M_set_73 rfl (fun _ => ?_) (fun hc => absurd hc (by decide))
          refine g_iload_n (pc := 83) dc_M_set_83 rfl ?_
          exact g_zreturn dc_M_set_84 rfl rfl ⟨rfl, rfl⟩
        · have hi40 : ¬ ((w).toInt < (0 : Int)) := fun h9 => hc40 (Int32.lt_iff_toInt_lt.mpr h9)
          refine g_iload_n (pc := 43) dc_M_set_43 rfl ?_
          refine g_sipush (pc := 44) (v := 1000) dc_M_set_44 rfl ?_
          refine g_icmp_le (pc := 47) (tgt := 66) dc_M_set_47 rfl (fun hc => absurd hc (fun h8 => absurd (hout.resolve_left hc40) (Int32.not_le.mpr (Int32.lt_of_le_of_lt h8 (by decide))))) (fun hc47 => ?_)
          refine g_iload_n (pc := 50) dc_M_set_50 rfl ?_
          refine g_iconst (pc := 51) (v := 3) dc_M_set_51 rfl ?_
          refine g_icmp_ne (pc := 52) (tgt := 70) dc_M_set_52 rfl (fun _ => ?_) (fun hc => absurd hc (by decide))
          refine g_iconst (pc := 70) (v := 0) dc_M_set_70 rfl ?_
          refine g_istore_n (pc := 71) dc_M_set_71 (by decide) ?_
          show am_G X mt_M_set _ 72 [some (.ref 84), some (.int 2), some (.int w), some (.int 0)] [] _ _
          refine g_iload_n (pc := 72) dc_M_set_72 rfl ?_
          refine g_if_eq (pc := 73) (tgt := 83) dc_M_set_73 rfl (fun _ => ?_) (fun hc => absurd hc (by decide))
          refine g_iload_n (pc := 83) dc_M_set_83 rfl ?_
          exact g_zreturn dc_M_set_84 rfl rfl ⟨rfl, rfl⟩
      | some v =>
        obtain ⟨hv, rfl⟩ := ixo_s e2
        have e5 : stG (nI 2) (nI v) = some (2, v) := by unfold stG; rw [e]; dsimp only; rw [show stmx 2 + 1 = 1001 from rfl, e2]; dsimp only; rw [if_pos (show stmn 2 ≤ v from Nat.zero_le v)]
        rw [e5]
        refine g_aload_n (pc := 0) dc_M_set_0 rfl ?_
        refine g_iconst (pc := 1) (v := 0) dc_M_set_1 rfl ?_
        refine pf_fault (pc := 2) (v := 0) hA dc_M_set_2 fp_M_set_1 ?_
        refine g_iload_n (pc := 5) dc_M_set_5 rfl ?_
        refine g_if_ne (pc := 6) (tgt := 19) dc_M_set_6 rfl (fun _ => ?_) (fun hc => absurd hc (by decide))
        refine g_iload_n (pc := 19) dc_M_set_19 rfl ?_
        refine g_iconst (pc := 20) (v := 1) dc_M_set_20 rfl ?_
        refine g_icmp_ne (pc := 21) (tgt := 34) dc_M_set_21 rfl (fun _ => ?_) (fun hc => absurd hc (by decide))
        refine g_iload_n (pc := 34) dc_M_set_34 rfl ?_
        refine g_iconst (pc := 35) (v := 2) dc_M_set_35 rfl ?_
        refine g_icmp_ne (pc := 36) (tgt := 50) dc_M_set_36 rfl (fun hc => absurd hc (by decide)) (fun _ => ?_)
        refine g_iload_n (pc := 39) dc_M_set_39 rfl ?_
        refine q_if_lt (pc := 40) (tgt := 50) v dc_M_set_40 (by omega) rfl ?_
        refine g_iload_n (pc := 43) dc_M_set_43 rfl ?_
        refine g_sipush (pc := 44) (v := 1000) dc_M_set_44 rfl ?_
        refine q_icmp_le (pc := 47) (tgt := 66) v 1000 dc_M_set_47 (by omega) (by omega) rfl (fun hc47 => ?_) (fun hc => absurd hc (by omega))
        refine g_iconst (pc := 66) (v := 1) dc_M_set_66 rfl ?_
        refine g_goto (pc := 67) (tgt := 71) dc_M_set_67 rfl ?_
        refine g_istore_n (pc := 71) dc_M_set_71 (by decide) ?_
        show am_G X mt_M_set _ 72 [some (.ref 84), some (.int 2), some (.int (nI v)), some (.int 1)] [] _ _
        refine g_iload_n (pc := 72) dc_M_set_72 rfl ?_
        refine g_if_eq (pc := 73) (tgt := 83) dc_M_set_73 rfl (fun hc => absurd hc (by decide)) (fun _ => ?_)
        refine g_aload_n (pc := 76) dc_M_set_76 rfl ?_
        refine g_getfield (pc := 77) dc_M_set_77 fl_M_347 (mp_o hA) rfl ?_
        refine g_iload_n (pc := 80) dc_M_set_80 rfl ?_
        refine g_iload_n (pc := 81) dc_M_set_81 rfl ?_
        refine asE_told (pc := 82) 2 (g := upd S.told 2 (nI v)) hA dc_M_set_82 (by omega) (rfl) ?_
        refine g_iload_n (pc := 83) dc_M_set_83 rfl ?_
        exact g_zreturn dc_M_set_84 rfl rfl ⟨rfl, _, rfl, ((mA.rf S).a_fault _ (by decide)).a_told _ (by decide), tdM_set ht (show 2 < 4 by decide) (show v ≤ stmx 2 by show v ≤ 1000; omega) rfl⟩
    · show am_G X mt_M_set d 0 [some (.ref 84), some (.int 3), some (.int w), none] [] (mput A S B) _
      cases e2 : ixo w 51 with
      | none =>
        have e5 : stG (nI 3) w = none := by unfold stG; rw [e]; dsimp only; rw [show stmx 3 + 1 = 51 from rfl, e2]
        rw [e5]
        have hout := ixo_n (by decide) e2
        refine g_aload_n (pc := 0) dc_M_set_0 rfl ?_
        refine g_iconst (pc := 1) (v := 0) dc_M_set_1 rfl ?_
        refine pf_fault (pc := 2) (v := 0) hA dc_M_set_2 fp_M_set_1 ?_
        refine g_iload_n (pc := 5) dc_M_set_5 rfl ?_
        refine g_if_ne (pc := 6) (tgt := 19) dc_M_set_6 rfl (fun _ => ?_) (fun hc => absurd hc (by decide))
        refine g_iload_n (pc := 19) dc_M_set_19 rfl ?_
        refine g_iconst (pc := 20) (v := 1) dc_M_set_20 rfl ?_
        refine g_icmp_ne (pc := 21) (tgt := 34) dc_M_set_21 rfl (fun _ => ?_) (fun hc => absurd hc (by decide))
        refine g_iload_n (pc := 34) dc_M_set_34 rfl ?_
        refine g_iconst (pc := 35) (v := 2) dc_M_set_35 rfl ?_
        refine g_icmp_ne (pc := 36) (tgt := 50) dc_M_set_36 rfl (fun _ => ?_) (fun hc => absurd hc (by decide))
        refine g_iload_n (pc := 50) dc_M_set_50 rfl ?_
        refine g_iconst (pc := 51) (v := 3) dc_M_set_51 rfl ?_
        refine g_icmp_ne (pc := 52) (tgt := 70) dc_M_set_52 rfl (fun hc => absurd hc (by decide)) (fun _ => ?_)
        refine g_iload_n (pc := 55) dc_M_set_55 rfl ?_
        refine g_iconst (pc := 56) (v := 1) dc_M_set_56 rfl ?_
        refine g_icmp_lt (pc := 57) (tgt := 70) dc_M_set_57 rfl (fun hc57 => ?_) (fun hc57 => ?_)
        · have hi57 : (w).toInt < (1 : Int) := Int32.lt_iff_toInt_lt.mp hc57
          refine g_iconst (pc := 70) (v := 0) dc_M_set_70 rfl ?_
          refine g_istore_n (pc := 71) dc_M_set_71 (by decide) ?_
          show am_G X mt_M_set _ 72 [some (.ref 84), some (.int 3), some (.int w), some (.int 0)] [] _ _
          refine g_iload_n (pc := 72) dc_M_set_72 rfl ?_
          refine g_if_eq (pc := 73) (tgt := 83) dc_M_set_73 rfl (fun _ => ?_) (fun hc => absurd hc (by decide))
          refine g_iload_n (pc := 83) dc_M_set_83 rfl ?_
          exact g_zreturn dc_M_set_84 rfl rfl ⟨rfl, rfl⟩
        · have hi57 : ¬ ((w).toInt < (1 : Int)) := fun h9 => hc57 (Int32.lt_iff_toInt_lt.mpr h9)
          refine g_iload_n (pc := 60) dc_M_set_60 rfl ?_
          refine g_bipush (pc := 61) (v := 50) dc_M_set_61 rfl ?_
          refine g_icmp_gt (pc := 63) (tgt := 70) dc_M_set_63 rfl (fun hc63 => ?_) (fun hc => absurd hc (fun h8 => h8 (hout.elim (fun h7 => absurd (Int32.lt_trans h7 (by decide)) hc57) (fun h7 => Int32.lt_of_lt_of_le (by decide) h7))))
          refine g_iconst (pc := 70) (v := 0) dc_M_set_70 rfl ?_
          refine g_istore_n (pc := 71) dc_M_set_71 (by decide) ?_
          show am_G X mt_M_set _ 72 [some (.ref 84), some (.int 3), some (.int w), some (.int 0)] [] _ _
          refine g_iload_n (pc := 72) dc_M_set_72 rfl ?_
          refine g_if_eq (pc := 73) (tgt := 83) dc_M_set_73 rfl (fun _ => ?_) (fun hc => absurd hc (by decide))
          refine g_iload_n (pc := 83) dc_M_set_83 rfl ?_
          exact g_zreturn dc_M_set_84 rfl rfl ⟨rfl, rfl⟩
      | some v =>
        obtain ⟨hv, rfl⟩ := ixo_s e2
        by_cases hv1 : 1 ≤ v
        · have e5 : stG (nI 3) (nI v) = some (3, v) := by unfold stG; rw [e]; dsimp only; rw [show stmx 3 + 1 = 51 from rfl, e2]; dsimp only; rw [if_pos (show stmn 3 ≤ v from hv1)]
          rw [e5]
          refine g_aload_n (pc := 0) dc_M_set_0 rfl ?_
          refine g_iconst (pc := 1) (v := 0) dc_M_set_1 rfl ?_
          refine pf_fault (pc := 2) (v := 0) hA dc_M_set_2 fp_M_set_1 ?_
          refine g_iload_n (pc := 5) dc_M_set_5 rfl ?_
          refine g_if_ne (pc := 6) (tgt := 19) dc_M_set_6 rfl (fun _ => ?_) (fun hc => absurd hc (by decide))
          refine g_iload_n (pc := 19) dc_M_set_19 rfl ?_
          refine g_iconst (pc := 20) (v := 1) dc_M_set_20 rfl ?_
          refine g_icmp_ne (pc := 21) (tgt := 34) dc_M_set_21 rfl (fun _ => ?_) (fun hc => absurd hc (by decide))
          refine g_iload_n (pc := 34) dc_M_set_34 rfl ?_
          refine g_iconst (pc := 35) (v := 2) dc_M_set_35 rfl ?_
          refine g_icmp_ne (pc := 36) (tgt := 50) dc_M_set_36 rfl (fun _ => ?_) (fun hc => absurd hc (by decide))
          refine g_iload_n (pc := 50) dc_M_set_50 rfl ?_
          refine g_iconst (pc := 51) (v := 3) dc_M_set_51 rfl ?_
          refine g_icmp_ne (pc := 52) (tgt := 70) dc_M_set_52 rfl (fun hc => absurd hc (by decide)) (fun _ => ?_)
          refine g_iload_n (pc := 55) dc_M_set_55 rfl ?_
          refine g_iconst (pc := 56) (v := 1) dc_M_set_56 rfl ?_
          refine q_icmp_lt (pc := 57) (tgt := 70) v 1 dc_M_set_57 (by omega) (by omega) rfl (fun hc => absurd hc (by omega)) (fun hc57 => ?_)
          refine g_iload_n (pc := 60) dc_M_set_60 rfl ?_
          refine g_bipush (pc := 61) (v := 50) dc_M_set_61 rfl ?_
          refine q_icmp_gt (pc := 63) (tgt := 70) v 50 dc_M_set_63 (by omega) (by omega) rfl (fun hc => absurd hc (by omega)) (fun hc63 => ?_)
          refine g_iconst (pc := 66) (v := 1) dc_M_set_66 rfl ?_
          refine g_goto (pc := 67) (tgt := 71) dc_M_set_67 rfl ?_
          refine g_istore_n (pc := 71) dc_M_set_71 (by decide) ?_
          show am_G X mt_M_set _ 72 [some (.ref 84), some (.int 3), some (.int (nI v)), some (.int 1)] [] _ _
          refine g_iload_n (pc := 72) dc_M_set_72 rfl ?_
          refine g_if_eq (pc := 73) (tgt := 83) dc_M_set_73 rfl (fun hc => absurd hc (by decide)) (fun _ => ?_)
          refine g_aload_n (pc := 76) dc_M_set_76 rfl ?_
          refine g_getfield (pc := 77) dc_M_set_77 fl_M_347 (mp_o hA) rfl ?_
          refine g_iload_n (pc := 80) dc_M_set_80 rfl ?_
          refine g_iload_n (pc := 81) dc_M_set_81 rfl ?_
          refine asE_told (pc := 82) 3 (g := upd S.told 3 (nI v)) hA dc_M_set_82 (by omega) (rfl) ?_
          refine g_iload_n (pc := 83) dc_M_set_83 rfl ?_
          exact g_zreturn dc_M_set_84 rfl rfl ⟨rfl, _, rfl, ((mA.rf S).a_fault _ (by decide)).a_told _ (by decide), tdM_set ht (show 3 < 4 by decide) (show v ≤ stmx 3 by show v ≤ 50; omega) rfl⟩
        · have e5 : stG (nI 3) (nI v) = none := by unfold stG; rw [e]; dsimp only; rw [show stmx 3 + 1 = 51 from rfl, e2]; dsimp only; rw [if_neg (show ¬ stmn 3 ≤ v from hv1)]
          rw [e5]
          refine g_aload_n (pc := 0) dc_M_set_0 rfl ?_
          refine g_iconst (pc := 1) (v := 0) dc_M_set_1 rfl ?_
          refine pf_fault (pc := 2) (v := 0) hA dc_M_set_2 fp_M_set_1 ?_
          refine g_iload_n (pc := 5) dc_M_set_5 rfl ?_
          refine g_if_ne (pc := 6) (tgt := 19) dc_M_set_6 rfl (fun _ => ?_) (fun hc => absurd hc (by decide))
          refine g_iload_n (pc := 19) dc_M_set_19 rfl ?_
          refine g_iconst (pc := 20) (v := 1) dc_M_set_20 rfl ?_
          refine g_icmp_ne (pc := 21) (tgt := 34) dc_M_set_21 rfl (fun _ => ?_) (fun hc => absurd hc (by decide))
          refine g_iload_n (pc := 34) dc_M_set_34 rfl ?_
          refine g_iconst (pc := 35) (v := 2) dc_M_set_35 rfl ?_
          refine g_icmp_ne (pc := 36) (tgt := 50) dc_M_set_36 rfl (fun _ => ?_) (fun hc => absurd hc (by decide))
          refine g_iload_n (pc := 50) dc_M_set_50 rfl ?_
          refine g_iconst (pc := 51) (v := 3) dc_M_set_51 rfl ?_
          refine g_icmp_ne (pc := 52) (tgt := 70) dc_M_set_52 rfl (fun hc => absurd hc (by decide)) (fun _ => ?_)
          refine g_iload_n (pc := 55) dc_M_set_55 rfl ?_
          refine g_iconst (pc := 56) (v := 1) dc_M_set_56 rfl ?_
          refine q_icmp_lt (pc := 57) (tgt := 70) v 1 dc_M_set_57 (by omega) (by omega) rfl (fun hc57 => ?_) (fun hc => absurd hc (by omega))
          refine g_iconst (pc := 70) (v := 0) dc_M_set_70 rfl ?_
          refine g_istore_n (pc := 71) dc_M_set_71 (by decide) ?_
          show am_G X mt_M_set _ 72 [some (.ref 84), some (.int 3), some (.int (nI v)), some (.int 0)] [] _ _
          refine g_iload_n (pc := 72) dc_M_set_72 rfl ?_
          refine g_if_eq (pc := 73) (tgt := 83) dc_M_set_73 rfl (fun _ => ?_) (fun hc => absurd hc (by decide))
          refine g_iload_n (pc := 83) dc_M_set_83 rfl ?_
          exact g_zreturn dc_M_set_84 rfl rfl ⟨rfl, rfl⟩
theorem c_M_end (hA : A.length = 84) (hL : tpM S L) : am_C X mt_M_end d [.ref 84, .int p] (mput A S B) (fun r h1 => match ixo p (L.length + 1) with | none => r = some (.int 0) ∧ h1 = mput A (S.s_fault 1) B | some n => r = some (.int (nI L.length)) ∧ ∃ S1, h1 = mput A S1 B ∧ mA [1, 2] S S1 ∧ S1.fault = 0 ∧ tpM S1 (L.take n)) := by
  show am_G X mt_M_end d 0 [some (.ref 84), some (.int p), none] [] (mput A S B) _
  have h8 := hL.2.2.1
  cases e : ixo p (L.length + 1) with
  | none =>
    have hout := ixo_n (by omega) e
    refine g_aload_n (pc := 0) dc_M_end_0 rfl ?_
    refine g_iload_n (pc := 1) dc_M_end_1 rfl ?_
    refine g_if_lt (pc := 2) (tgt := 13) dc_M_end_2 rfl (fun hc2 => ?_) (fun hc2 => ?_)
    · have hi2 : (p).toInt < (0 : Int) := Int32.lt_iff_toInt_lt.mp hc2
      refine g_iconst (pc := 13) (v := 1) dc_M_end_13 rfl ?_
      refine g_goto (pc := 14) (tgt := 18) dc_M_end_14 rfl ?_
      refine pf_fault (pc := 18) (v := 1) hA dc_M_end_18 fp_M_end_1 ?_
      refine g_aload_n (pc := 21) dc_M_end_21 rfl ?_
      refine g_getfield (pc := 22) (v := .int 1) dc_M_end_22 fl_M_1 (mp_o hA) rfl ?_
      refine g_if_le (pc := 25) (tgt := 30) dc_M_end_25 rfl (fun hc => absurd hc (by decide)) (fun _ => ?_)
      refine g_iconst (pc := 28) (v := 0) dc_M_end_28 rfl ?_
      exact g_ireturn dc_M_end_29 rfl ⟨rfl, rfl⟩
    · have hi2 : ¬ ((p).toInt < (0 : Int)) := fun h9 => hc2 (Int32.lt_iff_toInt_lt.mpr h9)
      refine g_iload_n (pc := 5) dc_M_end_5 rfl ?_
      refine g_aload_n (pc := 6) dc_M_end_6 rfl ?_
      refine g_getfield (pc := 7) (v := .int (nI L.length)) dc_M_end_7 fl_M_493 (mp_o hA) (congrArg (fun z => some (Value.int (nI z))) hL.2.1) ?_
      refine g_icmp_le (pc := 10) (tgt := 17) dc_M_end_10 rfl (fun hc => absurd hc (fun h8 => absurd (hout.resolve_left hc2) (Int32.not_le.mpr (Int32.lt_of_le_of_lt h8 (nI_lt (by omega) (by omega)))))) (fun hc10 => ?_)
      refine g_iconst (pc := 13) (v := 1) dc_M_end_13 rfl ?_
      refine g_goto (pc := 14) (tgt := 18) dc_M_end_14 rfl ?_
      refine pf_fault (pc := 18) (v := 1) hA dc_M_end_18 fp_M_end_1 ?_
      refine g_aload_n (pc := 21) dc_M_end_21 rfl ?_
      refine g_getfield (pc := 22) (v := .int 1) dc_M_end_22 fl_M_1 (mp_o hA) rfl ?_
      refine g_if_le (pc := 25) (tgt := 30) dc_M_end_25 rfl (fun hc => absurd hc (by decide)) (fun _ => ?_)
      refine g_iconst (pc := 28) (v := 0) dc_M_end_28 rfl ?_
      exact g_ireturn dc_M_end_29 rfl ⟨rfl, rfl⟩
  | some n =>
    obtain ⟨hn, rfl⟩ := ixo_s e
    refine g_aload_n (pc := 0) dc_M_end_0 rfl ?_
    refine g_iload_n (pc := 1) dc_M_end_1 rfl ?_
    refine q_if_lt (pc := 2) (tgt := 13) n dc_M_end_2 (by omega) rfl ?_
    refine g_iload_n (pc := 5) dc_M_end_5 rfl ?_
    refine g_aload_n (pc := 6) dc_M_end_6 rfl ?_
    refine g_getfield (pc := 7) (v := .int (nI L.length)) dc_M_end_7 fl_M_493 (mp_o hA) (congrArg (fun z => some (Value.int (nI z))) hL.2.1) ?_
    refine q_icmp_le (pc := 10) (tgt := 17) n L.length dc_M_end_10 (by omega) (by omega) rfl (fun hc10 => ?_) (fun hc => absurd hc (by omega))
    refine g_iconst (pc := 17) (v := 0) dc_M_end_17 rfl ?_
    refine pf_fault (pc := 18) (v := 0) hA dc_M_end_18 fp_M_end_1 ?_
    refine g_aload_n (pc := 21) dc_M_end_21 rfl ?_
    refine g_getfield (pc := 22) (v := .int 0) dc_M_end_22 fl_M_1 (mp_o hA) rfl ?_
    refine g_if_le (pc := 25) (tgt := 30) dc_M_end_25 rfl (fun _ => ?_) (fun hc => absurd hc (by decide))
    refine g_aload_n (pc := 30) dc_M_end_30 rfl ?_
    refine g_getfield (pc := 31) (v := .int (nI L.length)) dc_M_end_31 fl_M_493 (mp_o hA) (congrArg (fun z => some (Value.int (nI z))) hL.2.1) ?_
    refine g_istore_n (pc := 34) dc_M_end_34 (by decide) ?_
    show am_G X mt_M_end _ 35 [some (.ref 84), some (.int (nI n)), some (.int (nI L.length))] [] _ _
    refine g_aload_n (pc := 35) dc_M_end_35 rfl ?_
    refine g_iload_n (pc := 36) dc_M_end_36 rfl ?_
    refine pf_size (pc := 37) (v := n) hA dc_M_end_37 fp_M_end_493 ?_
    refine g_iload_n (pc := 40) dc_M_end_40 rfl ?_
    exact g_ireturn dc_M_end_41 rfl ⟨rfl, _, rfl, ((mA.rf S).a_fault _ (by decide)).a_size _ (by decide), rfl, tx_take hL.1 (by omega), by show n = (L.take n).length; rw [List.length_take]; omega, by rw [List.length_take]; omega, btg_take hL.2.2.2⟩
theorem f_M_feed (hA : A.length = 84) (hL : tpM S L) (h20 : L.length + 20 ≤ 8000) : am_C X mt_M_feed (d + 1) [.ref 84, .int a1, .int a2, .int a3, .int a4, .int a5] (mput A S B) (fun r h1 => r = none ∧ ∃ S1, h1 = mput A S1 B ∧ mA [0, 1, 2] S S1 ∧ S1.fault = 0 ∧ tpM S1 (L ++ by20 a1 a2 a3 a4 a5)) := by
  have hs : (mput A S B)[84]? = some (.inr (12, mfl S)) := mp_o hA
  have hc : (mput A S B)[85]? = some (.inl (0, 8020, .inl S.coming)) := mp_a hA 1 rfl
  have h1 : (mfl S)[1]? = some (.int (nI L.length)) := by rw [← hL.2.1]; rfl
  have hi := hC_is (n := L.length) hs h1 hc
  have h0 := c_M_feed0 (X := X) (d := d) (h := mput A S B) (a := 84) (c := 85) (fs := mfl S) (g := S.coming) (n := L.length) (v1 := a1) (v2 := a2) (v3 := a3) (v4 := a4) (v5 := a5) (by decide) (am_lt hs) (am_lt hc) rfl rfl h20
  rw [hi] at h0
  refine am_G.mono h0 (fun r h9 hz => ?_)
  obtain ⟨y1, y2⟩ := hz
  refine ⟨y1, ((S.s_fault 0).s_coming (up20 S.coming L.length a1 a2 a3 a4 a5)).s_size (L.length + 20), ?_, (((mA.rf S).a_fault _ (by decide)).a_coming _ (by decide)).a_size _ (by decide), rfl, tx_up20 hL.1 rfl, ?_, ?_, btg_app hL.2.2.2 btg_by20⟩
  · have e1 : (mput A S B).set 85 (.inl (0, 8020, .inl (up20 S.coming L.length a1 a2 a3 a4 a5))) = mput A (S.s_coming (up20 S.coming L.length a1 a2 a3 a4 a5)) B := mp_set (S := S) hA 1 (by decide) rfl
    have e2 : (mput A (S.s_coming (up20 S.coming L.length a1 a2 a3 a4 a5)) B).set 84 (.inr (12, ((mfl S).set 2 (.int 0)).set 1 (.int (nI (L.length + 20))))) = mput A (((S.s_fault 0).s_coming (up20 S.coming L.length a1 a2 a3 a4 a5)).s_size (L.length + 20)) B := mp_set (S := S.s_coming (up20 S.coming L.length a1 a2 a3 a4 a5)) hA 0 (by decide) rfl
    rw [y2]
    unfold hC
    rw [e1, e2]
  · show L.length + 20 = _
    rw [List.length_append]; rfl
  · rw [List.length_append, by20_len]; exact h20
theorem n_M_feed (hA : A.length = 84) (hL : tpM S L) (h20 : ¬ L.length + 20 ≤ 8000) : am_C X mt_M_feed (d + 1) [.ref 84, .int a1, .int a2, .int a3, .int a4, .int a5] (mput A S B) (fun r h1 => r = none ∧ h1 = mput A (S.s_fault 1) B) := by
  show am_G X mt_M_feed (d + 1) 0 [some (.ref 84), some (.int a1), some (.int a2), some (.int a3), some (.int a4), some (.int a5)] [] (mput A S B) _
  have h8 := hL.2.2.1
  refine g_aload_n (pc := 0) dc_M_feed_0 rfl ?_
  refine g_aload_n (pc := 1) dc_M_feed_1 rfl ?_
  refine g_getfield (pc := 2) (v := .int (nI L.length)) dc_M_feed_2 fl_M_493 (mp_o hA) (congrArg (fun z => some (Value.int (nI z))) hL.2.1) ?_
  refine g_bipush (pc := 5) (v := 20) dc_M_feed_5 rfl ?_
  refine g_iadd (pc := 7) (v := (nI (L.length + 20))) dc_M_feed_7 (nI_add L.length 20) ?_
  refine g_sipush (pc := 8) (v := 8000) dc_M_feed_8 rfl ?_
  refine q_icmp_le (pc := 11) (tgt := 18) (L.length + 20) 8000 dc_M_feed_11 (by omega) (by omega) rfl (fun hc => absurd hc (by omega)) (fun hc11 => ?_)
  refine g_iconst (pc := 14) (v := 1) dc_M_feed_14 rfl ?_
  refine g_goto (pc := 15) (tgt := 19) dc_M_feed_15 rfl ?_
  refine pf_fault (pc := 19) (v := 1) hA dc_M_feed_19 fp_M_feed_1 ?_
  refine g_aload_n (pc := 22) dc_M_feed_22 rfl ?_
  refine g_getfield (pc := 23) (v := .int 1) dc_M_feed_23 fl_M_1 (mp_o hA) rfl ?_
  refine g_if_ne (pc := 26) (tgt := 56) dc_M_feed_26 rfl (fun _ => ?_) (fun hc => absurd hc (by decide))
  exact g_return dc_M_feed_56 rfl ⟨rfl, rfl⟩
theorem c_M_thrown (hA : A.length = 84) : am_C X mt_M_thrown d [.ref 84] (mput A S B) (fun r h1 => r = some (.int (nI S.fault)) ∧ h1 = mput A S B) := by
  show am_G X mt_M_thrown d 0 [some (.ref 84)] [] (mput A S B) _
  refine g_aload_n (pc := 0) dc_M_thrown_0 rfl ?_
  refine g_getfield (pc := 1) dc_M_thrown_1 fl_M_1 (mp_o hA) rfl ?_
  exact g_ireturn dc_M_thrown_4 rfl ⟨rfl, rfl⟩
end OP6
