/-! ===== the model connects the documents ===== -/
abbrev XC : List Nat := [5, 6, 7, 8, 9, 10, 11, 12, 13, 14, 15, 16, 17, 18, 35, 36, 37, 38, 39, 40, 41, 42, 43, 44, 45, 46, 47, 48, 49, 50, 55, 56, 80, 83]
/-- the leads of the documents below m -/
def ldm (S : MS) (n m : Nat) (L : Nat → List Nat) : Prop := ∀ a b, a < m → b < n → S.leads (250 * a + b) = b1 (decide (b ∈ L a))
section G3S
variable {X : am_X} {d n dd k t e mq : Nat} {A B h : List va_E} {S S1 : MS} {T Y U Ls : List (List Int32)} {K : Kn} {L : Nat → List Nat} {Q : Option Value → List va_E → Prop} {Z : List Nat} {acc : List Nat} {v3 : Option Value}
theorem ldm.m (z : ldm S n mq L) (e : mA Z S S1) (h : ¬ 83 ∈ Z) : ldm S1 n mq L := fun a b ha hb => by rw [e.leads h]; exact z a b ha hb
theorem ldm_M (z : ldm S n n L) : ldM S n (fun a b => decide (b ∈ L a)) := z
theorem l12_M_connect (hA : A.length = 84) (hn : n ≤ 250) (hdd : dd < n) : ∀ (n9 t : Nat) (S : MS), t + n9 = n → S.documents = n → (∀ b, b < t → S.leads (250 * dd + b) = 0) → (∀ S2, mA [83] S S2 → (∀ a b, a < dd → b < n → S2.leads (250 * a + b) = S.leads (250 * a + b)) → (∀ b, b < n → S2.leads (250 * dd + b) = 0) → am_G X mt_M_connect d 39 [some (.ref 84), some (.int (nI dd)), none, none] [] (mput A S2 B) Q) → am_G X mt_M_connect d 12 [some (.ref 84), some (.int (nI dd)), some (.int (nI t)), none] [] (mput A S B) Q
  | 0, t, S, e9, hd, hz, hQ => by
    refine g_iload_n (pc := 12) dc_M_connect_12 rfl ?_
    refine g_aload_n (pc := 13) dc_M_connect_13 rfl ?_
    refine g_getfield (pc := 14) (v := .int (nI n)) dc_M_connect_14 fl_M_467 (mp_o hA) (congrArg (fun z => some (Value.int (nI z))) hd) ?_
    refine q_icmp_ge (pc := 17) (tgt := 39) t n dc_M_connect_17 (by omega) (by omega) rfl (fun hc17 => ?_) (fun hc => absurd hc (by omega))
    refine am_wk (am_le_s (am_le_s (am_le_n (am_le_n am_le_0)))) ?_
    exact hQ S (mA.rf S) (fun _ _ _ _ => rfl) (fun b hb => hz b (by omega))
  | n9 + 1, t, S, e9, hd, hz, hQ => by
    refine g_iload_n (pc := 12) dc_M_connect_12 rfl ?_
    refine g_aload_n (pc := 13) dc_M_connect_13 rfl ?_
    refine g_getfield (pc := 14) (v := .int (nI n)) dc_M_connect_14 fl_M_467 (mp_o hA) (congrArg (fun z => some (Value.int (nI z))) hd) ?_
    refine q_icmp_ge (pc := 17) (tgt := 39) t n dc_M_connect_17 (by omega) (by omega) rfl (fun hc => absurd hc (by omega)) (fun hc17 => ?_)
    refine g_aload_n (pc := 20) dc_M_connect_20 rfl ?_
    refine g_getfield (pc := 21) dc_M_connect_21 fl_M_397 (mp_o hA) rfl ?_
    refine g_sipush (pc := 24) (v := 250) dc_M_connect_24 rfl ?_
    refine g_iload_n (pc := 27) dc_M_connect_27 rfl ?_
    refine g_imul (pc := 28) (v := (nI (250 * dd))) dc_M_connect_28 (pk_mul 250 dd) ?_
    refine g_iload_n (pc := 29) dc_M_connect_29 rfl ?_
    refine g_iadd (pc := 30) (v := (nI (250 * dd + t))) dc_M_connect_30 (nI_add (250 * dd) t) ?_
    refine g_iconst (pc := 31) (v := 0) dc_M_connect_31 rfl ?_
    refine asE_leads (pc := 32) (250 * dd + t) (g := upd S.leads (250 * dd + t) 0) hA dc_M_connect_32 (by omega) (rfl) ?_
    refine g_iinc (pc := 33) (v := (nI (t + 1))) dc_M_connect_33 rfl (nI_add t 1) (by decide) ?_
    show am_G X mt_M_connect _ 36 [some (.ref 84), some (.int (nI dd)), some (.int (nI (t + 1))), none] [] _ _
    refine g_goto (pc := 36) (tgt := 12) dc_M_connect_36 rfl ?_
    have hm1 : mA [83] S (S.s_leads (upd S.leads (250 * dd + t) 0)) := (mA.rf S).a_leads _ (by decide)
    refine l12_M_connect hA hn hdd n9 (t + 1) _ (by omega) hd (fun b hb => ?_) (fun S2 e2 z1 z2 => hQ S2 (hm1.tr e2) (fun a b ha hb => (z1 a b ha hb).trans ?_) z2)
    · show upd S.leads (250 * dd + t) 0 (250 * dd + b) = 0
      by_cases q : b = t
      · rw [q, upd_s]
      · rw [upd_n (by omega)]; exact hz b (by omega)
    · show upd S.leads (250 * dd + t) 0 (250 * a + b) = _
      exact upd_n (by omega)
theorem ldm_add (z : ldm S n (dd + 1) (uL K dd acc)) (hn : n ≤ 250) (he : e < n) {S1 : MS} (h : S1.leads = upd S.leads (250 * dd + e) 1) {acc2 : List Nat} (ha : ∀ b, b ∈ acc2 ↔ b = e ∨ b ∈ acc) : ldm S1 n (dd + 1) (uL K dd acc2) := fun a b h1 h2 => by
  rw [h]
  by_cases q : a = dd
  · rw [q, uL_s]
    by_cases q2 : b = e
    · rw [q2, upd_s, decide_eq_true ((ha e).mpr (Or.inl rfl))]; rfl
    · rw [upd_n (by omega)]
      have h3 := z dd b (by omega) h2
      rw [uL_s] at h3
      rw [h3]
      by_cases q3 : b ∈ acc
      · rw [decide_eq_true q3, decide_eq_true ((ha b).mpr (Or.inr q3))]
      · rw [decide_eq_false q3, decide_eq_false (fun h9 => ((ha b).mp h9).elim q2 q3)]
  · rw [uL_n q, upd_n (by omega)]
    have h3 := z a b h1 h2
    rw [uL_n q] at h3
    exact h3
theorem l67_M_connect (hA : A.length = 84) (hY : yOK Y) (hw : wfK K) (hlt : ldT K) (hdd : dd < (dcs K).length) (h60 : Ls.length ≤ 60) : ∀ (n9 k : Nat) (S : MS) (v3 : Option Value), k + n9 = Ls.length → adT S T → txT S Y → knM S T Y K → S.documents = (dcs K).length → ar3 S (dcs K) S.known → lkI S T Ls → ldm S (dcs K).length (dd + 1) (uL K dd ((Ls.take k).foldl (ldF K dd) [])) → (∀ S2, mA [83] S S2 → ldm S2 (dcs K).length (dd + 1) (uL K dd (Ls.foldl (ldF K dd) [])) → am_G X mt_M_connect (d + 3) 114 [some (.ref 84), some (.int (nI dd)), none, none] [] (mput A S2 B) Q) → am_G X mt_M_connect (d + 3) 67 [some (.ref 84), some (.int (nI dd)), some (.int (nI k)), none] [] (mput A S B) Q
  | 0, k, S, v3, e9, hT, hX, hK, hd, ha, hL, hz, hQ => by
    rw [show Ls.take k = Ls from List.take_of_length_le (by omega)] at hz
    refine g_iload_n (pc := 67) dc_M_connect_67 rfl ?_
    refine g_aload_n (pc := 68) dc_M_connect_68 rfl ?_
    refine g_getfield (pc := 69) (v := .int (nI Ls.length)) dc_M_connect_69 fl_M_322 (mp_o hA) (congrArg (fun z => some (Value.int (nI z))) hL.1) ?_
    refine q_icmp_ge (pc := 72) (tgt := 114) k Ls.length dc_M_connect_72 (by omega) (by omega) rfl (fun hc72 => ?_) (fun hc => absurd hc (by omega))
    refine am_wk (am_le_s (am_le_s (am_le_n (am_le_n am_le_0)))) ?_
    exact hQ S (mA.rf S) hz
  | n9 + 1, k, S, v3, e9, hT, hX, hK, hd, ha, hL, hz, hQ => by
    have h250 := dcs_250 hw
    have hk : k < Ls.length := by omega
    obtain ⟨kk, kk1, kk2, kk3⟩ := hL.2 k hk
    have hf : (Ls.take (k + 1)).foldl (ldF K dd) [] = ldF K dd ((Ls.take k).foldl (ldF K dd) []) (gT Ls k) := by rw [tkT hk, List.foldl_append]; rfl
    obtain ⟨acc, hacc⟩ : ∃ acc, acc = ((Ls.take k).foldl (ldF K dd) []) := ⟨_, rfl⟩
    rw [← hacc] at hf hz
    obtain ⟨oc, hoc⟩ : ∃ oc, oc = cmo K (nbr K.ad (gT Ls k)) := ⟨_, rfl⟩
    have hcb : ∀ j, oc = some j → j < 2 ^ 31 := fun j hj => by have := cmo_lt hw (hoc.symm.trans hj); omega
    refine g_iload_n (pc := 67) dc_M_connect_67 rfl ?_
    refine g_aload_n (pc := 68) dc_M_connect_68 rfl ?_
    refine g_getfield (pc := 69) (v := .int (nI Ls.length)) dc_M_connect_69 fl_M_322 (mp_o hA) (congrArg (fun z => some (Value.int (nI z))) hL.1) ?_
    refine q_icmp_ge (pc := 72) (tgt := 114) k Ls.length dc_M_connect_72 (by omega) (by omega) rfl (fun hc => absurd hc (by omega)) (fun hc72 => ?_)
    refine g_aload_n (pc := 75) dc_M_connect_75 rfl ?_
    refine g_aload_n (pc := 76) dc_M_connect_76 rfl ?_
    refine g_getfield (pc := 77) dc_M_connect_77 fl_M_328 (mp_o hA) rfl ?_
    refine g_iload_n (pc := 80) dc_M_connect_80 rfl ?_
    refine q_ialoadV (pc := 81) k dc_M_connect_81 (mp_a hA 29 rfl) (by omega) (by omega) (v := (nI kk)) kk2 ?_
    refine g_v1 (pc := 82) (M' := mt_M_comesTo) dc_M_connect_82 mo_M_comesTo im_M_comesTo se_M_comesTo ln_M_473 (mp_o hA) rfl rfl (Nat.le_of_ble_eq_true rfl) (Nat.le_of_ble_eq_true rfl) (am_G.mono (c_M_comesTo (d := d) hA hT hX hY.1 (fun j hj => (hY.2 j hj).1) hK hw hd ha hlt kk1) ?_)
    intro r h9 hq
    rw [hq.1, hq.2, kk3, ← hoc]
    clear hq h9 r
    refine ⟨am_nti _, ?_⟩
    refine g_istore_n (pc := 85) dc_M_connect_85 (by decide) ?_
    show am_G X mt_M_connect _ 86 [some (.ref 84), some (.int (nI dd)), some (.int (nI k)), some (.int (er oc))] [] _ _
    refine g_iload_n (pc := 86) dc_M_connect_86 rfl ?_
    refine q_o_lt (pc := 87) (tgt := 108) dc_M_connect_87 hcb rfl (fun hc87 => ?_) (fun k87 hc87 => ?_)
    · rw [hc87]
      refine g_iinc (pc := 108) (v := (nI (k + 1))) dc_M_connect_108 rfl (nI_add k 1) (by decide) ?_
      show am_G X mt_M_connect _ 111 [some (.ref 84), some (.int (nI dd)), some (.int (nI (k + 1))), some (.int (-1))] [] _ _
      refine g_goto (pc := 111) (tgt := 67) dc_M_connect_111 rfl ?_
      refine am_wk (am_le_s (am_le_s (am_le_s (am_le_n am_le_0)))) ?_
      have hE : ldF K dd acc (gT Ls k) = acc := by unfold ldF; rw [← hoc, hc87]
      exact l67_M_connect hA hY hw hlt hdd h60 n9 (k + 1) S none (by omega) hT hX hK hd ha hL (by rw [hf, hE]; exact hz) hQ
    · rw [hc87]
      rw [show er (some k87) = nI k87 from rfl]
      have hk87 := hcb k87 hc87
      have he := cmo_lt hw (hoc.symm.trans hc87)
      refine g_iload_n (pc := 90) dc_M_connect_90 rfl ?_
      refine g_iload_n (pc := 91) dc_M_connect_91 rfl ?_
      refine q_icmp_eq (pc := 92) (tgt := 108) k87 dd dc_M_connect_92 (by omega) (by omega) rfl (fun hc92 => ?_) (fun hc92 => ?_)
      · refine g_iinc (pc := 108) (v := (nI (k + 1))) dc_M_connect_108 rfl (nI_add k 1) (by decide) ?_
        show am_G X mt_M_connect _ 111 [some (.ref 84), some (.int (nI dd)), some (.int (nI (k + 1))), some (.int (nI k87))] [] _ _
        refine g_goto (pc := 111) (tgt := 67) dc_M_connect_111 rfl ?_
        refine am_wk (am_le_s (am_le_s (am_le_s (am_le_n am_le_0)))) ?_
        have hE : ldF K dd acc (gT Ls k) = acc := by unfold ldF; rw [← hoc, hc87]; exact if_pos (Or.inl hc92)
        exact l67_M_connect hA hY hw hlt hdd h60 n9 (k + 1) S none (by omega) hT hX hK hd ha hL (by rw [hf, hE]; exact hz) hQ
      · refine g_aload_n (pc := 95) dc_M_connect_95 rfl ?_
        refine g_getfield (pc := 96) dc_M_connect_96 fl_M_397 (mp_o hA) rfl ?_
        refine g_sipush (pc := 99) (v := 250) dc_M_connect_99 rfl ?_
        refine g_iload_n (pc := 102) dc_M_connect_102 rfl ?_
        refine g_imul (pc := 103) (v := (nI (250 * dd))) dc_M_connect_103 (pk_mul 250 dd) ?_
        refine g_iload_n (pc := 104) dc_M_connect_104 rfl ?_
        refine g_iadd (pc := 105) (v := (nI (250 * dd + k87))) dc_M_connect_105 (nI_add (250 * dd) k87) ?_
        refine g_iconst (pc := 106) (v := 1) dc_M_connect_106 rfl ?_
        refine asE_leads (pc := 107) (250 * dd + k87) (g := upd S.leads (250 * dd + k87) 1) hA dc_M_connect_107 (by omega) (rfl) ?_
        refine g_iinc (pc := 108) (v := (nI (k + 1))) dc_M_connect_108 rfl (nI_add k 1) (by decide) ?_
        show am_G X mt_M_connect _ 111 [some (.ref 84), some (.int (nI dd)), some (.int (nI (k + 1))), some (.int (nI k87))] [] _ _
        refine g_goto (pc := 111) (tgt := 67) dc_M_connect_111 rfl ?_
        refine am_wk (am_le_s (am_le_s (am_le_s (am_le_n am_le_0)))) ?_
        have hE : ∀ b, b ∈ ldF K dd acc (gT Ls k) ↔ b = k87 ∨ b ∈ acc := fun b => by
          unfold ldF
          rw [← hoc, hc87]
          dsimp only
          by_cases q : k87 ∈ acc
          · rw [if_pos (Or.inr q)]
            exact ⟨Or.inr, fun h9 => h9.elim (fun e => by rw [e]; exact q) id⟩
          · rw [if_neg (fun h9 => h9.elim hc92 q)]
            exact ⟨fun h9 => (List.mem_append.mp h9).elim Or.inr (fun h8 => Or.inl (List.mem_singleton.mp h8)), fun h9 => h9.elim (fun e => by rw [e]; exact List.mem_append_right _ (List.mem_singleton_self _)) (fun h8 => List.mem_append_left _ h8)⟩
        have hm1 : mA [83] S (S.s_leads (upd S.leads (250 * dd + k87) 1)) := (mA.rf S).a_leads _ (by decide)
        exact l67_M_connect hA hY hw hlt hdd h60 n9 (k + 1) _ none (by omega) (hT.m hm1 (by decide) (by decide) (by decide) (by decide)) (hX.m hm1 (by decide) (by decide) (by decide) (by decide) (by decide)) (hK.m hm1 (by decide) (by decide)) hd (ha.m hm1 (by decide) (by decide) (by decide) (by decide)) ⟨hL.1, hL.2⟩ (by rw [hf]; exact ldm_add hz h250 he rfl hE) (fun S2 e2 z2 => hQ S2 (hm1.tr e2) z2)
theorem l2_M_connect (hA : A.length = 84) (hUl : U.length < 3500) (hY : yOK Y) (hw : wfK K) (hlt : ldT K) (hgU : ∀ i, i < K.ad.length → K.st i = 2 → pgU U (gT K.ad i) (K.tx i)) : ∀ (n9 dd : Nat) (S : MS) (T : List (List Int32)), dd + n9 = (dcs K).length → tbM S T Y U → knM S T Y K → S.documents = (dcs K).length → ar3 S (dcs K) S.known → ldm S (dcs K).length dd (ldd K) → (∀ e, e < dd → S.documentWords e = nI (pgW (K.tx (gN (dcs K) e))).length) → am_G X mt_M_connect (d + 10) 2 [some (.ref 84), some (.int (nI dd)), none, none] [] (mput A S B) (fun r h1 => r = none ∧ ∃ S1 T1, h1 = mput A S1 B ∧ mA XC S S1 ∧ tbM S1 T1 Y U ∧ T <+: T1 ∧ ldm S1 (dcs K).length (dcs K).length (ldd K) ∧ ∀ e, e < (dcs K).length → S1.documentWords e = nI (pgW (K.tx (gN (dcs K) e))).length)
  | 0, dd, S, T, e9, hM, hK, hd, ha, hz, hwd => by
    have h250 := dcs_250 hw
    have edd : dd = (dcs K).length := by omega
    rw [edd] at hz
    refine g_iload_n (pc := 2) dc_M_connect_2 rfl ?_
    refine g_aload_n (pc := 3) dc_M_connect_3 rfl ?_
    refine g_getfield (pc := 4) (v := .int (nI ((dcs K).length))) dc_M_connect_4 fl_M_467 (mp_o hA) (congrArg (fun z => some (Value.int (nI z))) hd) ?_
    refine q_icmp_ge (pc := 7) (tgt := 120) dd ((dcs K).length) dc_M_connect_7 (by omega) (by omega) rfl (fun hc7 => ?_) (fun hc => absurd hc (by omega))
    exact g_return dc_M_connect_120 rfl ⟨rfl, S, T, rfl, mA.rf S, hM, List.prefix_refl T, hz, fun e he => hwd e (by omega)⟩
  | n9 + 1, dd, S, T, e9, hM, hK, hd, ha, hz, hwd => by
    have h250 := dcs_250 hw
    have hdd : dd < (dcs K).length := by omega
    refine g_iload_n (pc := 2) dc_M_connect_2 rfl ?_
    refine g_aload_n (pc := 3) dc_M_connect_3 rfl ?_
    refine g_getfield (pc := 4) (v := .int (nI ((dcs K).length))) dc_M_connect_4 fl_M_467 (mp_o hA) (congrArg (fun z => some (Value.int (nI z))) hd) ?_
    refine q_icmp_ge (pc := 7) (tgt := 120) dd ((dcs K).length) dc_M_connect_7 (by omega) (by omega) rfl (fun hc => absurd hc (by omega)) (fun hc7 => ?_)
    refine g_iconst (pc := 10) (v := 0) dc_M_connect_10 rfl ?_
    refine g_istore_n (pc := 11) dc_M_connect_11 (by decide) ?_
    show am_G X mt_M_connect _ 12 [some (.ref 84), some (.int (nI dd)), some (.int 0), none] [] _ _
    refine l12_M_connect hA h250 hdd (dcs K).length 0 S (Nat.zero_add _) hd (fun b hb => absurd hb (Nat.not_lt_zero b)) (fun S2 e2 z1 z2 => ?_)
    have hM2 : tbM S2 T Y U := ⟨hM.1.m e2 (by decide) (by decide) (by decide) (by decide), hM.2.1, hM.2.2.1, hM.2.2.2.m e2 (by decide) (by decide) (by decide) (by decide) (by decide)⟩
    have hK2 := hK.m e2 (by decide) (by decide)
    have hd2 := (e2.documents (by decide)).trans hd
    have ha2 := ha.m e2 (by decide) (by decide) (by decide) (by decide)
    have hz2 : ldm S2 (dcs K).length (dd + 1) (uL K dd []) := fun a b h1 h2 => by
      by_cases q : a = dd
      · rw [q, uL_s, z2 b h2, decide_eq_false List.not_mem_nil]; rfl
      · rw [uL_n q, z1 a b (by omega) h2]; exact hz a b (by omega) h2
    have hwd2 : ∀ e, e < dd → S2.documentWords e = nI (pgW (K.tx (gN (dcs K) e))).length := fun e he => by rw [e2.documentWords (by decide)]; exact hwd e he
    have hmm := dcs_mem (gN_mem hdd)
    obtain ⟨y0, y1, y2, y3⟩ := (hK2.2 _ hmm.1).2.2.2.2.2 hmm.2
    obtain ⟨k0, k1, k2, k3⟩ := (hK2.2 _ hmm.1).1
    have ht : S2.documentText dd = nI y0 := (ha2.2.1 dd hdd).trans y2
    have hda : S2.documentAddress dd = nI k0 := (ha2.1 dd hdd).trans k2
    have hpU := hgU _ hmm.1 hmm.2
    have hyy := hY.2 y0 y1
    have h3500 := tb_lt hM2 hUl
    refine g_aload_n (pc := 39) dc_M_connect_39 rfl ?_
    refine g_aload_n (pc := 40) dc_M_connect_40 rfl ?_
    refine g_getfield (pc := 41) dc_M_connect_41 fl_M_377 (mp_o hA) rfl ?_
    refine g_iload_n (pc := 44) dc_M_connect_44 rfl ?_
    refine q_ialoadV (pc := 45) dd dc_M_connect_45 (mp_a hA 40 rfl) (by omega) (by omega) (v := (nI y0)) ht ?_
    refine g_aload_n (pc := 46) dc_M_connect_46 rfl ?_
    refine g_getfield (pc := 47) dc_M_connect_47 fl_M_374 (mp_o hA) rfl ?_
    refine g_iload_n (pc := 50) dc_M_connect_50 rfl ?_
    refine q_ialoadV (pc := 51) dd dc_M_connect_51 (mp_a hA 39 rfl) (by omega) (by omega) (v := (nI k0)) hda ?_
    refine g_v2 (pc := 52) (M' := mt_M_findLinks) dc_M_connect_52 mo_M_findLinks im_M_findLinks se_M_findLinks ln_M_449 (mp_o hA) rfl rfl (Nat.le_of_ble_eq_true rfl) (Nat.le_of_ble_eq_true rfl) (am_G.mono (c_M_findLinks (d := d) (S := S2) (T := T) (Y := Y) (U := U) (j := y0) (ka := k0) (D := gT K.ad (gN (dcs K) dd)) hA hUl hM2.2.2.2 hY.1 y1 hyy.1 hyy.2 hM2.1 hM2.2.1 ⟨k1, k3⟩ hM2.2.2.1 (by rw [y3]; exact hpU.1) (by rw [y3]; exact hpU.2.1)) ?_)
    intro r h9 hz9
    obtain ⟨x1, S3, T1, x2, x3, x4, x5, x6, x7⟩ := hz9
    rw [x1, x2]
    clear x1 x2 h9 r
    rw [y3] at x4 x7
    refine ⟨am_nt0, ?_⟩
    refine g_aload_n (pc := 55) dc_M_connect_55 rfl ?_
    refine g_getfield (pc := 56) dc_M_connect_56 fl_M_386 (mp_o hA) rfl ?_
    refine g_iload_n (pc := 59) dc_M_connect_59 rfl ?_
    refine g_aload_n (pc := 60) dc_M_connect_60 rfl ?_
    refine g_getfield (pc := 61) (v := .int (nI ((pgW (K.tx (gN (dcs K) dd))).length))) dc_M_connect_61 fl_M_223 (mp_o hA) (congrArg (fun z => some (Value.int (nI z))) x4.2.2.2.1.1) ?_
    refine as_documentWords (pc := 64) dd hA dc_M_connect_64 (by omega) ?_
    refine g_iconst (pc := 65) (v := 0) dc_M_connect_65 rfl ?_
    refine g_istore_n (pc := 66) dc_M_connect_66 (by decide) ?_
    show am_G X mt_M_connect _ 67 [some (.ref 84), some (.int (nI dd)), some (.int 0), none] [] _ _
    have hm9 : mA XC S2 (S3.s_documentWords (upd S3.documentWords dd (nI ((pgW (K.tx (gN (dcs K) dd))).length)))) := (x3.m.mo (by decide)).a_documentWords _ (by decide)
    have hmw : mA [80] S3 (S3.s_documentWords (upd S3.documentWords dd (nI ((pgW (K.tx (gN (dcs K) dd))).length)))) := (mA.rf S3).a_documentWords _ (by decide)
    have hw9 : ∀ e, e < dd + 1 → (S3.s_documentWords (upd S3.documentWords dd (nI ((pgW (K.tx (gN (dcs K) dd))).length)))).documentWords e = nI (pgW (K.tx (gN (dcs K) e))).length := fun e he => by
      show upd S3.documentWords dd _ e = _
      by_cases q : e = dd
      · rw [q, upd_s]
      · rw [upd_n q, x3.documentWords]; exact hwd2 e (by omega)
    have hz9 : ldm (S3.s_documentWords (upd S3.documentWords dd (nI ((pgW (K.tx (gN (dcs K) dd))).length)))) (dcs K).length (dd + 1) (uL K dd []) := fun a b h1 h2 => by show S3.leads _ = _; rw [x3.leads]; exact hz2 a b h1 h2
    have hM9 : tbM (S3.s_documentWords (upd S3.documentWords dd (nI ((pgW (K.tx (gN (dcs K) dd))).length)))) T1 Y U := ⟨x4.1.m hmw (by decide) (by decide) (by decide) (by decide), x4.2.1, x6, hM2.2.2.2.m hm9 (by decide) (by decide) (by decide) (by decide) (by decide)⟩
    have hL9 : lkI (S3.s_documentWords (upd S3.documentWords dd (nI ((pgW (K.tx (gN (dcs K) dd))).length)))) T1 (pgL (K.tx (gN (dcs K) dd)) (gT K.ad (gN (dcs K) dd))) := ⟨x7.1, x7.2⟩
    have hK9 := (hK2.m hm9 (by decide) (by decide)).pre x5 (List.prefix_refl Y)
    have hd9 := (hm9.documents (by decide)).trans hd2
    have ha9 := ha2.m hm9 (by decide) (by decide) (by decide) (by decide)
    generalize (S3.s_documentWords (upd S3.documentWords dd (nI ((pgW (K.tx (gN (dcs K) dd))).length)))) = S9 at hm9 hmw hw9 hz9 hM9 hL9 hK9 hd9 ha9 ⊢
    refine l67_M_connect (d := d + 7) hA hY hw hlt hdd lkf_len _ 0 S9 none (Nat.zero_add _) hM9.1 hM9.2.2.2 hK9 hd9 ha9 hL9 hz9 (fun S4 e4 z4 => ?_)
    have z5 : ldm S4 (dcs K).length (dd + 1) (uL K dd (ldd K dd)) := z4
    rw [uL_all] at z5
    refine g_iinc (pc := 114) (v := (nI (dd + 1))) dc_M_connect_114 rfl (nI_add dd 1) (by decide) ?_
    show am_G X mt_M_connect _ 117 [some (.ref 84), some (.int (nI (dd + 1))), none, none] [] _ _
    refine g_goto (pc := 117) (tgt := 2) dc_M_connect_117 rfl ?_
    have hm4 : mA XC S S4 := ((e2.mo (by decide)).tr hm9).tr (e4.mo (by decide))
    refine am_G.mono (l2_M_connect hA hUl hY hw hlt hgU n9 (dd + 1) S4 T1 (by omega) ⟨hM9.1.m e4 (by decide) (by decide) (by decide) (by decide), hM9.2.1, hM9.2.2.1, hM9.2.2.2.m e4 (by decide) (by decide) (by decide) (by decide) (by decide)⟩ (hK9.m e4 (by decide) (by decide)) ((e4.documents (by decide)).trans hd9) (ha9.m e4 (by decide) (by decide) (by decide) (by decide)) z5 (fun e he => by rw [e4.documentWords (by decide)]; exact hw9 e he)) (fun r h9 hy9 => ?_)
    obtain ⟨u1, S5, T2, u2, u3, u4, u5, u6⟩ := hy9
    exact ⟨u1, S5, T2, u2, hm4.tr u3, u4, x5.trans u5, u6⟩
theorem c_M_connect (hA : A.length = 84) (hUl : U.length < 3500) (hY : yOK Y) (hw : wfK K) (hlt : ldT K) (hgU : ∀ i, i < K.ad.length → K.st i = 2 → pgU U (gT K.ad i) (K.tx i)) (hM : tbM S T Y U) (hK : knM S T Y K) (hd : S.documents = (dcs K).length) (ha : ar3 S (dcs K) S.known) : am_C X mt_M_connect (d + 10) [.ref 84] (mput A S B) (fun r h1 => r = none ∧ ∃ S1 T1, h1 = mput A S1 B ∧ mA XC S S1 ∧ tbM S1 T1 Y U ∧ T <+: T1 ∧ ldm S1 (dcs K).length (dcs K).length (ldd K) ∧ ∀ e, e < (dcs K).length → S1.documentWords e = nI (pgW (K.tx (gN (dcs K) e))).length) := by
  show am_G X mt_M_connect (d + 10) 0 [some (.ref 84), none, none, none] [] (mput A S B) _
  refine g_iconst (pc := 0) (v := 0) dc_M_connect_0 rfl ?_
  refine g_istore_n (pc := 1) dc_M_connect_1 (by decide) ?_
  show am_G X mt_M_connect _ 2 [some (.ref 84), some (.int 0), none, none] [] _ _
  exact l2_M_connect hA hUl hY hw hlt hgU (dcs K).length 0 S T (Nat.zero_add _) hM hK hd ha (fun a b h1 => absurd h1 (Nat.not_lt_zero a)) (fun e he => absurd he (Nat.not_lt_zero e))
end G3S
