/-! ===== the class follows the links of a document ===== -/
/-- the leads of the documents below m, and how many of them lead to each -/
def lsF (gt gl gb : Nat → Int32) (n m : Nat) (L : Nat → List Nat) : Prop := (∀ a, a < m → gt a = nI (L a).length ∧ ∀ t, t < (L a).length → gl (a * 60 + t) = nI (gN (L a) t)) ∧ ∀ e, e < n → gb e = nI (cnb (fun a => decide (e ∈ L a)) m)
def lsP (w : Gw) (h : List va_E) (n m : Nat) (L : Nat → List Nat) : Prop := ∃ gt gl gb, iA w h 63 250 gt ∧ iA w h 73 15000 gl ∧ iA w h 64 250 gb ∧ lsF gt gl gb n m L
def uL (K : Kn) (dd : Nat) (acc : List Nat) (a : Nat) : List Nat := if a = dd then acc else ldd K a
section G1S
variable {X : am_X} {d e n m t dd k : Nat} {w w1 : Gw} {h h1 : List va_E} {I : List Nat} {K V : Kn} {gt gl gb go : Nat → Int32} {l acc : List Nat} {L : Nat → List Nat} {Ls : List (List Int32)} {st9 : Bool} {ck an sv sn : Nat} {cr : Option Nat} {c : Cw} {lim : Nat → Nat}
theorem lsP.fr (z : lsP w h n m L) (f : fr w w1 h h1 I) (i1 : ¬ 63 ∈ I) (i2 : ¬ 73 ∈ I) (i3 : ¬ 64 ∈ I) : lsP w1 h1 n m L := by
  obtain ⟨gt, gl, gb, a1, a2, a3, a4⟩ := z
  exact ⟨gt, gl, gb, a1.fr f i1, a2.fr f i2, a3.fr f i3, a4⟩
theorem tkT {T : List (List Int32)} (h : k < T.length) : T.take (k + 1) = T.take k ++ [gT T k] := by
  rw [List.take_succ_eq_append_getElem h]
  unfold gT
  rw [List.getD_eq_getElem?_getD, List.getElem?_eq_getElem h]
  rfl
theorem cnb_eq {p q : Nat → Bool} : ∀ n, (∀ a, a < n → p a = q a) → cnb p n = cnb q n
  | 0, _ => rfl
  | n + 1, h => by
    show cnb p n + _ = cnb q n + _
    rw [cnb_eq n (fun a ha => h a (by omega)), h n (by omega)]
theorem dcs_250 (hw : wfK K) : (dcs K).length ≤ 250 := by
  have h1 : (dcs K).length ≤ (srtK K K.ad.length).length := dfk_len
  have h2 := srtK_len (K := K) K.ad.length
  have h3 := hw.1
  omega
theorem uL_s : uL K dd acc dd = acc := if_pos rfl
theorem uL_n {a : Nat} (h : ¬ a = dd) : uL K dd acc a = ldd K a := if_neg h
theorem uL_all : uL K dd (ldd K dd) = ldd K := by
  funext a
  by_cases h : a = dd
  · rw [h, uL_s]
  · rw [uL_n h]
theorem lsF_0 (z : lsF gt gl gb n dd (ldd K)) : lsF (upd gt dd 0) gl gb n (dd + 1) (uL K dd []) := by
  refine ⟨fun a ha => ?_, fun e he => ?_⟩
  · by_cases q : a = dd
    · rw [q, upd_s, uL_s]
      exact ⟨rfl, fun t ht => absurd ht (Nat.not_lt_zero t)⟩
    · rw [upd_n q, uL_n q]
      exact z.1 a (by omega)
  · rw [z.2 e he]
    show _ = nI (cnb _ dd + (if decide (e ∈ uL K dd [] dd) = true then 1 else 0))
    rw [uL_s, if_neg (by rw [decide_eq_false List.not_mem_nil]; decide), Nat.add_zero, cnb_eq (p := fun a => decide (e ∈ uL K dd [] a)) (q := fun a => decide (e ∈ ldd K a)) dd (fun a ha => by rw [uL_n (show ¬ a = dd by omega)])]
theorem lsF_add (hw : wfK K) (z : lsF gt gl gb n (dd + 1) (uL K dd acc)) (hn : ¬ e ∈ acc) (h60 : acc.length < 60) : lsF (upd gt dd (nI (acc.length + 1))) (upd gl (dd * 60 + acc.length) (nI e)) (upd gb e (nI (cnb (fun a => decide (e ∈ uL K dd acc a)) (dd + 1) + 1))) n (dd + 1) (uL K dd (acc ++ [e])) := by
  have hs : ∀ x : Nat, cnb (fun a => decide (x ∈ uL K dd (acc ++ [e]) a)) dd = cnb (fun a => decide (x ∈ uL K dd acc a)) dd := fun x => cnb_eq dd (fun a ha => by rw [uL_n (show ¬ a = dd by omega), uL_n (show ¬ a = dd by omega)])
  refine ⟨fun a ha => ?_, fun x hx => ?_⟩
  · by_cases q : a = dd
    · rw [q, upd_s, uL_s]
      refine ⟨by rw [List.length_append]; rfl, fun t ht => ?_⟩
      rw [List.length_append] at ht
      by_cases q2 : t = acc.length
      · rw [q2, upd_s, gN_new]
      · have ht2 : t < acc.length := by have : t < acc.length + 1 := ht; omega
        have h2 := (z.1 dd (by omega)).2 t (by rw [uL_s]; exact ht2)
        rw [uL_s] at h2
        rw [upd_n (by omega), gN_app ht2]
        exact h2
    · have h2 := z.1 a ha
      rw [uL_n q] at h2
      rw [upd_n q, uL_n q]
      refine ⟨h2.1, fun t ht => ?_⟩
      have h3 := (ldd_inv (dd := a) hw).2.2
      rw [upd_n (by omega)]
      exact h2.2 t ht
  · have hc : ∀ (x : Nat) (l9 : List Nat), cnb (fun a => decide (x ∈ uL K dd l9 a)) (dd + 1) = cnb (fun a => decide (x ∈ uL K dd l9 a)) dd + (if x ∈ l9 then 1 else 0) := fun x l9 => by
      show _ + (if decide (x ∈ uL K dd l9 dd) = true then 1 else 0) = _
      rw [uL_s]
      by_cases q : x ∈ l9
      · rw [if_pos (decide_eq_true q), if_pos q]
      · rw [if_neg (by rw [decide_eq_false q]; decide), if_neg q]
    rw [hc x (acc ++ [e]), hs x]
    by_cases q : x = e
    · rw [q, upd_s, hc e acc, if_neg hn, if_pos (List.mem_append_right _ (List.mem_singleton_self e))]
    · rw [upd_n q, z.2 x hx, hc x acc]
      by_cases q2 : x ∈ acc
      · rw [if_pos q2, if_pos (List.mem_append_left _ q2)]
      · rw [if_neg q2, if_neg (fun h9 => (List.mem_append.mp h9).elim q2 (fun h8 => q (List.mem_singleton.mp h8)))]
theorem l71_D_followLinks (hw : wfK K) (hdd : dd < (dcs K).length) (h60 : Ls.length ≤ 60) (hoN : ∀ i, i ∈ srtK K K.ad.length → go i = er (nbr (txs K (dcs K)) (K.tx i))) : ∀ (n9 k : Nat) (w0 : Gw) (h0 : List va_E), k + n9 = Ls.length → dO w0 h0 (dcs K).length → cO w0 h0 34 34 (cr7 st9 ck an sv sn cr) → gr4 w0 h0 39 → mk4 w0 h0 39 K → rE w0 h0 35 36 35 36 K.ad [] → iA w0 h0 75 250 go → rE w0 h0 13 14 13 14 Ls [] → lsP w0 h0 (dcs K).length (dd + 1) (uL K dd ((Ls.take k).foldl (ldF K dd) [])) → am_G X mt_D_followLinks (d + 3) 71 [some (.ref 59), some (.ref 34), some (.int (nI dd)), none, some (.ref 13), some (.int (nI k)), none, none] [] h0 (fun r h1 => r = none ∧ ∃ w1, fr w0 w1 h0 h1 [63, 64, 73] ∧ lsP w1 h1 (dcs K).length (dd + 1) (uL K dd (Ls.foldl (ldF K dd) [])))
  | 0, k, w0, h0, e8, hD_0, hO_0, hG_0, hK_0, hR_0, ho_0, hL_0, hs => by
    have hL9 := hL_0
    obtain ⟨b9, e9, hLr⟩ := hL9
    have hLo := hLr.1.1
    have hLb := hLr.1.2.1.ha
    have h250 := dcs_250 hw
    rw [show Ls.take k = Ls from List.take_of_length_le (by omega)] at hs
    refine g_iload (pc := 71) dc_D_followLinks_71 rfl ?_
    refine g_aload (pc := 73) dc_D_followLinks_73 rfl ?_
    refine g_getfield (pc := 75) dc_D_followLinks_75 fl_D_75 hLo rfl ?_
    refine q_icmp_ge (pc := 78) (tgt := 188) k Ls.length dc_D_followLinks_78 (by omega) (by omega) rfl (fun hc78 => ?_) (fun hc => absurd hc (by omega))
    exact g_return dc_D_followLinks_188 rfl ⟨rfl, w0, fr.rf, hs⟩
  | n9 + 1, k, w0, h0, e8, hD_0, hO_0, hG_0, hK_0, hR_0, ho_0, hL_0, hs => by
    have hL9 := hL_0
    obtain ⟨b9, e9, hLr⟩ := hL9
    have hLo := hLr.1.1
    have hLb := hLr.1.2.1.ha
    have h250 := dcs_250 hw
    have hk : k < Ls.length := by omega
    have hos := ofs_s (T := Ls) hk
    have hsa : sub (gT Ls k) 0 (gT Ls k).length = gT Ls k := sub_all rfl
    have hof := hLr.1.of (k := k + 1) (by omega)
    have hR9 := hR_0
    obtain ⟨rb, re, hRr⟩ := hR9
    have hRo := hRr.1.1
    have hf : (Ls.take (k + 1)).foldl (ldF K dd) [] = ldF K dd ((Ls.take k).foldl (ldF K dd) []) (gT Ls k) := by rw [tkT hk, List.foldl_append]; rfl
    have hiv := ldF_inv (dd := dd) hw (Ls.take k) [] List.nodup_nil (fun x hx => absurd hx List.not_mem_nil)
    obtain ⟨acc, hacc⟩ : ∃ acc, acc = ((Ls.take k).foldl (ldF K dd) []) := ⟨_, rfl⟩
    rw [← hacc] at hf hiv hs
    have hal : acc.length ≤ 0 + (Ls.take k).length := hiv.2.2
    rw [List.length_take] at hal
    have hal : acc.length < 60 := by omega
    have hs0 := hs
    obtain ⟨gt, gl, gb, a3_0, a7_0, a4_0, hsF⟩ := hs
    have htd : gt dd = nI acc.length := by have := (hsF.1 dd (by omega)).1; rw [uL_s] at this; exact this
    have hld : ∀ t, t < acc.length → gl (dd * 60 + t) = nI (gN acc t) := fun t ht => by have := (hsF.1 dd (by omega)).2 t (by rw [uL_s]; exact ht); rw [uL_s] at this; exact this
    have G0 : fr w0 w0 h0 h0 [63, 64, 73] := fr.rf
    obtain ⟨oc, hoc⟩ : ∃ oc, oc = cmo K (nbr K.ad (gT Ls k)) := ⟨_, rfl⟩
    have hcb : ∀ j, oc = some j → j < 2 ^ 31 := fun j hj => by have := cmo_lt hw (hoc.symm.trans hj); omega
    refine g_iload (pc := 71) dc_D_followLinks_71 rfl ?_
    refine g_aload (pc := 73) dc_D_followLinks_73 rfl ?_
    refine g_getfield (pc := 75) dc_D_followLinks_75 fl_D_75 hLo rfl ?_
    refine q_icmp_ge (pc := 78) (tgt := 188) k Ls.length dc_D_followLinks_78 (by omega) (by omega) rfl (fun hc => absurd hc (by omega)) (fun hc78 => ?_)
    refine g_aload_n (pc := 81) dc_D_followLinks_81 rfl ?_
    refine g_getfield (pc := 82) dc_D_followLinks_82 fl_D_70 hO_0.1 rfl ?_
    refine g_aload (pc := 85) dc_D_followLinks_85 rfl ?_
    refine g_getfield (pc := 87) dc_D_followLinks_87 fl_D_124 hLo rfl ?_
    refine g_getfield (pc := 90) dc_D_followLinks_90 fl_D_127 hLb rfl ?_
    refine g_aload (pc := 93) dc_D_followLinks_93 rfl ?_
    refine g_iload (pc := 95) dc_D_followLinks_95 rfl ?_
    refine g_v1 (pc := 97) (M' := mt_R_from) dc_D_followLinks_97 mo_R_from im_R_from se_R_from ln_D_130 hLo rfl rfl (Nat.le_of_ble_eq_true rfl) (Nat.le_of_ble_eq_true rfl) (am_G.mono (c_R_from (d := d + 2) (i := k) hLr.1 (by omega)) ?_)
    intro r h1 hq
    rw [hq.1, hq.2]
    clear hq h1 r
    refine ⟨am_nti _, ?_⟩
    refine g_aload (pc := 100) dc_D_followLinks_100 rfl ?_
    refine g_iload (pc := 102) dc_D_followLinks_102 rfl ?_
    refine g_v1 (pc := 104) (M' := mt_R_to) dc_D_followLinks_104 mo_R_to im_R_to se_R_to ln_D_134 hLo rfl rfl (Nat.le_of_ble_eq_true rfl) (Nat.le_of_ble_eq_true rfl) (am_G.mono (c_R_to (d := d + 2) (i := k) hLr.1 hk) ?_)
    intro r h1 hq
    rw [hq.1, hq.2, hos]
    clear hq h1 r
    refine ⟨am_nti _, ?_⟩
    refine g_v3 (pc := 107) (M' := mt_R_numberOf) dc_D_followLinks_107 mo_R_numberOf im_R_numberOf se_R_numberOf ln_D_137 hRo rfl rfl (Nat.le_of_ble_eq_true rfl) (Nat.le_of_ble_eq_true rfl) (am_G.mono (w_R_numberOf (d := d) (f := 0) (t := (gT Ls k).length) hR_0 (rR.tO hLr hk) (Nat.zero_le _) (Nat.le_refl _)) ?_)
    intro r h1 hq
    rw [hq.1, hq.2, hsa]
    clear hq h1 r
    refine ⟨am_nti _, ?_⟩
    refine g_istore (pc := 110) dc_D_followLinks_110 (by decide) ?_
    show am_G X mt_D_followLinks _ 112 [some (.ref 59), some (.ref 34), some (.int (nI dd)), none, some (.ref 13), some (.int (nI k)), some (.int (er (nbr K.ad (gT Ls k)))), none] [] _ _
    refine g_aload_n (pc := 112) dc_D_followLinks_112 rfl ?_
    refine g_aload_n (pc := 113) dc_D_followLinks_113 rfl ?_
    refine g_iload (pc := 114) dc_D_followLinks_114 rfl ?_
    refine g_v2 (pc := 116) (M' := mt_D_comesTo) dc_D_followLinks_116 mo_D_comesTo im_D_comesTo se_D_comesTo ln_D_141 hD_0.1 rfl rfl (Nat.le_of_ble_eq_true rfl) (Nat.le_of_ble_eq_true rfl) (am_G.mono (c_D_comesTo (d := d + 2) hD_0 hO_0 hG_0 hK_0 hw ho_0 hoN (oo := nbr K.ad (gT Ls k)) (fun j hj => (nbr_s hj).1)) ?_)
    intro r h1 hq
    rw [hq.1, hq.2, ← hoc]
    clear hq h1 r
    refine ⟨am_nti _, ?_⟩
    refine g_istore (pc := 119) dc_D_followLinks_119 (by decide) ?_
    show am_G X mt_D_followLinks _ 121 [some (.ref 59), some (.ref 34), some (.int (nI dd)), none, some (.ref 13), some (.int (nI k)), some (.int (er (nbr K.ad (gT Ls k)))), some (.int (er oc))] [] _ _
    refine g_iload (pc := 121) dc_D_followLinks_121 rfl ?_
    refine g_iconst (pc := 123) (v := (-1)) dc_D_followLinks_123 rfl ?_
    refine q_o_eq (pc := 124) (tgt := 182) dc_D_followLinks_124 hcb rfl (fun hc124 => ?_) (fun k124 hc124 => ?_)
    · rw [hc124]
      refine g_iinc (pc := 182) (v := (nI (k + 1))) dc_D_followLinks_182 rfl (nI_add k 1) (by decide) ?_
      show am_G X mt_D_followLinks _ 185 [some (.ref 59), some (.ref 34), some (.int (nI dd)), none, some (.ref 13), some (.int (nI (k + 1))), some (.int (er (nbr K.ad (gT Ls k)))), some (.int (-1))] [] _ _
      refine g_goto (pc := 185) (tgt := 71) dc_D_followLinks_185 rfl ?_
      refine am_wk (am_le_s (am_le_s (am_le_s (am_le_n (am_le_s (am_le_s (am_le_n (am_le_n am_le_0)))))))) ?_
      have hE : ldF K dd acc (gT Ls k) = acc := by unfold ldF; rw [← hoc, hc124]
      refine am_G.mono (l71_D_followLinks hw hdd h60 hoN n9 (k + 1) w0 h0 (by omega) hD_0 hO_0 hG_0 hK_0 hR_0 ho_0 hL_0 (by rw [hf, hE]; exact hs0)) (fun r h9 hz => ?_)
      obtain ⟨y1, w9, y2, y3⟩ := hz
      exact ⟨y1, w9, G0.tr y2, y3⟩
    · rw [hc124]
      rw [show er (some k124) = nI k124 from rfl]
      have hk124 := hcb k124 hc124
      have he := cmo_lt hw (hoc.symm.trans hc124)
      have hcl := cnb_le (p := fun a => decide (k124 ∈ uL K dd acc a)) (dd + 1)
      refine g_iload (pc := 127) dc_D_followLinks_127 rfl ?_
      refine g_iload_n (pc := 129) dc_D_followLinks_129 rfl ?_
      refine q_icmp_eq (pc := 130) (tgt := 182) k124 dd dc_D_followLinks_130 (by omega) (by omega) rfl (fun hc130 => ?_) (fun hc130 => ?_)
      · refine g_iinc (pc := 182) (v := (nI (k + 1))) dc_D_followLinks_182 rfl (nI_add k 1) (by decide) ?_
        show am_G X mt_D_followLinks _ 185 [some (.ref 59), some (.ref 34), some (.int (nI dd)), none, some (.ref 13), some (.int (nI (k + 1))), some (.int (er (nbr K.ad (gT Ls k)))), some (.int (nI k124))] [] _ _
        refine g_goto (pc := 185) (tgt := 71) dc_D_followLinks_185 rfl ?_
        refine am_wk (am_le_s (am_le_s (am_le_s (am_le_n (am_le_s (am_le_s (am_le_n (am_le_n am_le_0)))))))) ?_
        have hE : ldF K dd acc (gT Ls k) = acc := by unfold ldF; rw [← hoc, hc124]; exact if_pos (Or.inl hc130)
        refine am_G.mono (l71_D_followLinks hw hdd h60 hoN n9 (k + 1) w0 h0 (by omega) hD_0 hO_0 hG_0 hK_0 hR_0 ho_0 hL_0 (by rw [hf, hE]; exact hs0)) (fun r h9 hz => ?_)
        obtain ⟨y1, w9, y2, y3⟩ := hz
        exact ⟨y1, w9, G0.tr y2, y3⟩
      · refine g_aload_n (pc := 133) dc_D_followLinks_133 rfl ?_
        refine g_iload_n (pc := 134) dc_D_followLinks_134 rfl ?_
        refine g_iload (pc := 135) dc_D_followLinks_135 rfl ?_
        refine g_v2 (pc := 137) (M' := mt_D_alreadyLeads) dc_D_followLinks_137 mo_D_alreadyLeads im_D_alreadyLeads se_D_alreadyLeads ln_D_145 hD_0.1 rfl rfl (Nat.le_of_ble_eq_true rfl) (Nat.le_of_ble_eq_true rfl) (am_G.mono (c_D_alreadyLeads (d := d + 2) (l := acc) hD_0 a3_0 a7_0 (by omega) (by omega) htd hld (fun x hx => by have := (hiv.2.1 x hx).1; omega) (by omega)) ?_)
        intro r h1 hq
        rw [hq.1, hq.2]
        clear hq h1 r
        refine ⟨am_nti _, ?_⟩
        refine q_ifb_ne (pc := 140) (tgt := 182) dc_D_followLinks_140 rfl (fun hc140 => ?_) (fun hc140 => ?_)
        · refine g_iinc (pc := 182) (v := (nI (k + 1))) dc_D_followLinks_182 rfl (nI_add k 1) (by decide) ?_
          show am_G X mt_D_followLinks _ 185 [some (.ref 59), some (.ref 34), some (.int (nI dd)), none, some (.ref 13), some (.int (nI (k + 1))), some (.int (er (nbr K.ad (gT Ls k)))), some (.int (nI k124))] [] _ _
          refine g_goto (pc := 185) (tgt := 71) dc_D_followLinks_185 rfl ?_
          refine am_wk (am_le_s (am_le_s (am_le_s (am_le_n (am_le_s (am_le_s (am_le_n (am_le_n am_le_0)))))))) ?_
          have hE : ldF K dd acc (gT Ls k) = acc := by unfold ldF; rw [← hoc, hc124]; exact if_pos (Or.inr (of_decide_eq_true hc140))
          refine am_G.mono (l71_D_followLinks hw hdd h60 hoN n9 (k + 1) w0 h0 (by omega) hD_0 hO_0 hG_0 hK_0 hR_0 ho_0 hL_0 (by rw [hf, hE]; exact hs0)) (fun r h9 hz => ?_)
          obtain ⟨y1, w9, y2, y3⟩ := hz
          exact ⟨y1, w9, G0.tr y2, y3⟩
        · refine g_aload_n (pc := 143) dc_D_followLinks_143 rfl ?_
          refine g_getfield (pc := 144) dc_D_followLinks_144 fl_D_54 hD_0.1 rfl ?_
          refine g_iload_n (pc := 147) dc_D_followLinks_147 rfl ?_
          refine g_bipush (pc := 148) (v := 60) dc_D_followLinks_148 rfl ?_
          refine g_imul (pc := 150) (v := (nI (dd * 60))) dc_D_followLinks_150 (pk_mul dd 60) ?_
          refine g_aload_n (pc := 151) dc_D_followLinks_151 rfl ?_
          refine g_getfield (pc := 152) dc_D_followLinks_152 fl_D_24 hD_0.1 rfl ?_
          refine g_iload_n (pc := 155) dc_D_followLinks_155 rfl ?_
          refine q_ialoadV (pc := 156) dd dc_D_followLinks_156 a3_0.1 (by omega) (by decide) (v := (nI acc.length)) htd ?_
          refine g_iadd (pc := 157) (v := (nI (dd * 60 + acc.length))) dc_D_followLinks_157 (nI_add (dd * 60) acc.length) ?_
          refine g_iload (pc := 158) dc_D_followLinks_158 rfl ?_
          refine q_iastore (pc := 160) (dd * 60 + acc.length) dc_D_followLinks_160 a7_0.1 (by omega) (by decide) ?_
          have g1 : fr w0 w0 h0 (h0.set 73 (.inl (1, 15000, .inl (upd gl (dd * 60 + acc.length) (nI k124))))) [73] := fr.st a7_0.1 rfl a7_0.2
          have a7_1 : iA w0 (h0.set 73 (.inl (1, 15000, .inl (upd gl (dd * 60 + acc.length) (nI k124))))) 73 15000 (upd gl (dd * 60 + acc.length) (nI k124)) := ⟨am_se (am_lt a7_0.1), a7_0.2⟩
          obtain ⟨w1, hw1⟩ : ∃ w9, w9 = w0 := ⟨_, rfl⟩
          generalize (h0.set 73 (.inl (1, 15000, .inl (upd gl (dd * 60 + acc.length) (nI k124))))) = h1 at g1 a7_1 ⊢
          have g1 : fr w0 w1 h0 h1 [73] := by rw [hw1]; exact g1
          have a7_1 : iA w1 h1 73 15000 (upd gl (dd * 60 + acc.length) (nI k124)) := by rw [hw1]; exact a7_1
          have hD_1 := hD_0.fr g1 (by decide)
          have hO_1 := hO_0.fr g1 (by decide)
          have hG_1 := hG_0.fr g1 (by decide)
          have hK_1 := hK_0.fr g1 (by decide) (by decide) (by decide) (by decide)
          have hR_1 := hR_0.fr g1 (by decide) (by decide)
          have ho_1 := ho_0.fr g1 (by decide)
          have hL_1 := hL_0.fr g1 (by decide) (by decide)
          have a3_1 := a3_0.fr g1 (by decide)
          have a4_1 := a4_0.fr g1 (by decide)
          have G1 := G0.tr (g1.mo (by decide : ∀ x, x ∈ [73] → x ∈ [63, 64, 73]))
          refine g_aload_n (pc := 161) dc_D_followLinks_161 rfl ?_
          refine g_getfield (pc := 162) dc_D_followLinks_162 fl_D_24 hD_1.1 rfl ?_
          refine g_iload_n (pc := 165) dc_D_followLinks_165 rfl ?_
          refine g_dup2 (pc := 166) dc_D_followLinks_166 rfl rfl ?_
          refine q_ialoadV (pc := 167) dd dc_D_followLinks_167 a3_1.1 (by omega) (by decide) (v := (nI acc.length)) htd ?_
          refine g_iconst (pc := 168) (v := 1) dc_D_followLinks_168 rfl ?_
          refine g_iadd (pc := 169) (v := (nI (acc.length + 1))) dc_D_followLinks_169 (nI_add acc.length 1) ?_
          refine q_iastore (pc := 170) dd dc_D_followLinks_170 a3_1.1 (by omega) (by decide) ?_
          have g2 : fr w1 w1 h1 (h1.set 63 (.inl (1, 250, .inl (upd gt dd (nI (acc.length + 1)))))) [63] := fr.st a3_1.1 rfl a3_1.2
          have a3_2 : iA w1 (h1.set 63 (.inl (1, 250, .inl (upd gt dd (nI (acc.length + 1)))))) 63 250 (upd gt dd (nI (acc.length + 1))) := ⟨am_se (am_lt a3_1.1), a3_1.2⟩
          obtain ⟨w2, hw2⟩ : ∃ w9, w9 = w1 := ⟨_, rfl⟩
          generalize (h1.set 63 (.inl (1, 250, .inl (upd gt dd (nI (acc.length + 1)))))) = h2 at g2 a3_2 ⊢
          have g2 : fr w1 w2 h1 h2 [63] := by rw [hw2]; exact g2
          have a3_2 : iA w2 h2 63 250 (upd gt dd (nI (acc.length + 1))) := by rw [hw2]; exact a3_2
          have hD_2 := hD_1.fr g2 (by decide)
          have hO_2 := hO_1.fr g2 (by decide)
          have hG_2 := hG_1.fr g2 (by decide)
          have hK_2 := hK_1.fr g2 (by decide) (by decide) (by decide) (by decide)
          have hR_2 := hR_1.fr g2 (by decide) (by decide)
          have ho_2 := ho_1.fr g2 (by decide)
          have hL_2 := hL_1.fr g2 (by decide) (by decide)
          have a7_2 := a7_1.fr g2 (by decide)
          have a4_2 := a4_1.fr g2 (by decide)
          have G2 := G1.tr (g2.mo (by decide : ∀ x, x ∈ [63] → x ∈ [63, 64, 73]))
          refine g_aload_n (pc := 171) dc_D_followLinks_171 rfl ?_
          refine g_getfield (pc := 172) dc_D_followLinks_172 fl_D_27 hD_2.1 rfl ?_
          refine g_iload (pc := 175) dc_D_followLinks_175 rfl ?_
          refine g_dup2 (pc := 177) dc_D_followLinks_177 rfl rfl ?_
          refine q_ialoadV (pc := 178) k124 dc_D_followLinks_178 a4_2.1 (by omega) (by decide) (v := (nI (cnb (fun a => decide (k124 ∈ uL K dd acc a)) (dd + 1)))) (hsF.2 _ he) ?_
          refine g_iconst (pc := 179) (v := 1) dc_D_followLinks_179 rfl ?_
          refine g_iadd (pc := 180) (v := (nI (cnb (fun a => decide (k124 ∈ uL K dd acc a)) (dd + 1) + 1))) dc_D_followLinks_180 (nI_add (cnb (fun a => decide (k124 ∈ uL K dd acc a)) (dd + 1)) 1) ?_
          refine q_iastore (pc := 181) k124 dc_D_followLinks_181 a4_2.1 (by omega) (by decide) ?_
          have g3 : fr w2 w2 h2 (h2.set 64 (.inl (1, 250, .inl (upd gb k124 (nI (cnb (fun a => decide (k124 ∈ uL K dd acc a)) (dd + 1) + 1)))))) [64] := fr.st a4_2.1 rfl a4_2.2
          have a4_3 : iA w2 (h2.set 64 (.inl (1, 250, .inl (upd gb k124 (nI (cnb (fun a => decide (k124 ∈ uL K dd acc a)) (dd + 1) + 1)))))) 64 250 (upd gb k124 (nI (cnb (fun a => decide (k124 ∈ uL K dd acc a)) (dd + 1) + 1))) := ⟨am_se (am_lt a4_2.1), a4_2.2⟩
          obtain ⟨w3, hw3⟩ : ∃ w9, w9 = w2 := ⟨_, rfl⟩
          generalize (h2.set 64 (.inl (1, 250, .inl (upd gb k124 (nI (cnb (fun a => decide (k124 ∈ uL K dd acc a)) (dd + 1) + 1)))))) = h3 at g3 a4_3 ⊢
          have g3 : fr w2 w3 h2 h3 [64] := by rw [hw3]; exact g3
          have a4_3 : iA w3 h3 64 250 (upd gb k124 (nI (cnb (fun a => decide (k124 ∈ uL K dd acc a)) (dd + 1) + 1))) := by rw [hw3]; exact a4_3
          have hD_3 := hD_2.fr g3 (by decide)
          have hO_3 := hO_2.fr g3 (by decide)
          have hG_3 := hG_2.fr g3 (by decide)
          have hK_3 := hK_2.fr g3 (by decide) (by decide) (by decide) (by decide)
          have hR_3 := hR_2.fr g3 (by decide) (by decide)
          have ho_3 := ho_2.fr g3 (by decide)
          have hL_3 := hL_2.fr g3 (by decide) (by decide)
          have a3_3 := a3_2.fr g3 (by decide)
          have a7_3 := a7_2.fr g3 (by decide)
          have G3 := G2.tr (g3.mo (by decide : ∀ x, x ∈ [64] → x ∈ [63, 64, 73]))
          refine g_iinc (pc := 182) (v := (nI (k + 1))) dc_D_followLinks_182 rfl (nI_add k 1) (by decide) ?_
          show am_G X mt_D_followLinks _ 185 [some (.ref 59), some (.ref 34), some (.int (nI dd)), none, some (.ref 13), some (.int (nI (k + 1))), some (.int (er (nbr K.ad (gT Ls k)))), some (.int (nI k124))] [] _ _
          refine g_goto (pc := 185) (tgt := 71) dc_D_followLinks_185 rfl ?_
          refine am_wk (am_le_s (am_le_s (am_le_s (am_le_n (am_le_s (am_le_s (am_le_n (am_le_n am_le_0)))))))) ?_
          have hE : ldF K dd acc (gT Ls k) = acc ++ [k124] := by unfold ldF; rw [← hoc, hc124]; exact if_neg (fun h9 => h9.elim hc130 (of_decide_eq_false hc140))
          refine am_G.mono (l71_D_followLinks hw hdd h60 hoN n9 (k + 1) w3 h3 (by omega) hD_3 hO_3 hG_3 hK_3 hR_3 ho_3 hL_3 (by rw [hf, hE]; exact ⟨_, _, _, a3_3, a7_3, a4_3, lsF_add hw hsF (of_decide_eq_false hc140) hal⟩)) (fun r h9 hz => ?_)
          obtain ⟨y1, w9, y2, y3⟩ := hz
          exact ⟨y1, w9, G3.tr y2, y3⟩
theorem w_D_followLinks {w0 : Gw} {h0 : List va_E} (hw : wfK K) (hdd : dd < (dcs K).length) (hT8 : (K.tx (gN (dcs K) dd)).length ≤ 7999) (hoN : ∀ i, i ∈ srtK K K.ad.length → go i = er (nbr (txs K (dcs K)) (K.tx i))) (hD_0 : dO w0 h0 (dcs K).length) (hC_0 : cqC w0 h0 st9 lim K c V) (hP_0 : dpC w0 h0 K (dcs K)) (ho_0 : iA w0 h0 75 250 go) (hB_0 : eB w0 h0 71 71) (hS_0 : rdC w0 h0) (hs_0 : lsP w0 h0 (dcs K).length dd (ldd K)) : am_C X mt_D_followLinks (d + 10) [.ref 59, .ref 34, .int (nI dd)] h0 (fun r h1 => r = none ∧ ∃ w1, fr w0 w1 h0 h1 [8, 10, 13, 14, 21, 22, 24, 63, 64, 71, 73] ∧ lsP w1 h1 (dcs K).length (dd + 1) (ldd K) ∧ eB w1 h1 71 71 ∧ rdC w1 h1) := by
  show am_G X mt_D_followLinks (d + 10) 0 [some (.ref 59), some (.ref 34), some (.int (nI dd)), none, none, none, none, none] [] h0 _
  have h250 := dcs_250 hw
  have G0 : fr w0 w0 h0 h0 [8, 10, 13, 14, 21, 22, 24, 63, 64, 71, 73] := fr.rf
  have hin := prO_mem (List.prefix_refl _) (dfk_sub (gN_mem hdd))
  have hod : okD (gT K.ad (gN (dcs K) dd)) := hw.2.2.1 _ (gT_mem hin.1)
  have d3 := hod.2.2.2.2.1
  have hP9 := hP_0
  obtain ⟨gp, hg, hg2⟩ := hP9
  obtain ⟨pg, hp1, hp2⟩ := hg2 dd hdd
  obtain ⟨pa1, pa2, pq_0, x1_0, x2_0⟩ := hp2
  have hB9 := hB_0
  obtain ⟨L71, hBx⟩ := hB9
  obtain ⟨b71, hBy⟩ := hBx
  have hb71_0 := hBy.1.ha
  have hBx : bE w0 h0 71 71 L71 := ⟨b71, hBy⟩
  refine g_aload_n (pc := 0) dc_D_followLinks_0 rfl ?_
  refine g_getfield (pc := 1) dc_D_followLinks_1 fl_D_11 hD_0.1 rfl ?_
  refine g_iload_n (pc := 4) dc_D_followLinks_4 rfl ?_
  refine q_aaload4 (pc := 5) dd dc_D_followLinks_5 hg.1 (by omega) (by omega) hp1 ?_
  refine g_astore_n (pc := 6) dc_D_followLinks_6 (by decide) ?_
  show am_G X mt_D_followLinks _ 7 [some (.ref 59), some (.ref 34), some (.int (nI dd)), some (.ref pg), none, none, none, none] [] _ _
  refine g_aload_n (pc := 7) dc_D_followLinks_7 rfl ?_
  refine g_getfield (pc := 8) dc_D_followLinks_8 fl_D_50 hD_0.1 rfl ?_
  refine g_v0 (pc := 11) (M' := mt_B_clear) dc_D_followLinks_11 mo_B_clear im_B_clear se_B_clear ln_D_101 hb71_0 rfl rfl (Nat.le_of_ble_eq_true rfl) (Nat.le_of_ble_eq_true rfl) (am_G.mono (w_B_clear (d := d + 9) (i := 71) (by decide) hBx) ?_)
  intro r h1 hz
  obtain ⟨hz1, w1, g1, hB_1⟩ := hz
  rw [hz1]
  have hD_1 := hD_0.fr g1 (by decide)
  have hC_1 := hC_0.fr g1 (by decide)
  have hP_1 := hP_0.fr g1 (by decide) (by decide)
  have ho_1 := ho_0.fr g1 (by decide)
  have hS_1 := hS_0.fr g1 (by decide)
  have hs_1 := hs_0.fr g1 (by decide) (by decide) (by decide)
  have pq_1 := pq_0.fr g1 (by decide)
  have x1_1 := x1_0.fr g1 (by decide)
  have x2_1 := x2_0.fr g1 (by decide)
  have G1 := G0.tr (g1.mo (by decide : ∀ x, x ∈ [71] → x ∈ [8, 10, 13, 14, 21, 22, 24, 63, 64, 71, 73]))
  clear hz1 r
  have hBz := hB_1
  obtain ⟨b71z, q71⟩ := hBz
  have hb71_1 := q71.1.ha
  have xx1 := x1_1
  obtain ⟨xg1, xe1_1, -⟩ := xx1
  have xx2 := x2_1
  obtain ⟨xg2, xe2_1, -⟩ := xx2
  refine ⟨am_nt0, ?_⟩
  refine g_aload_n (pc := 14) dc_D_followLinks_14 rfl ?_
  refine g_getfield (pc := 15) dc_D_followLinks_15 fl_D_50 hD_1.1 rfl ?_
  refine g_aload_n (pc := 18) dc_D_followLinks_18 rfl ?_
  refine g_getfield (pc := 19) dc_D_followLinks_19 fl_D_104 pq_1.1 rfl ?_
  refine g_iconst (pc := 22) (v := 0) dc_D_followLinks_22 rfl ?_
  refine g_aload_n (pc := 23) dc_D_followLinks_23 rfl ?_
  refine g_getfield (pc := 24) dc_D_followLinks_24 fl_D_104 pq_1.1 rfl ?_
  refine g_alen (pc := 27) dc_D_followLinks_27 xe1_1.1 (by decide) ?_
  refine g_v3 (pc := 28) (M' := mt_B_putAll) dc_D_followLinks_28 mo_B_putAll im_B_putAll se_B_putAll ln_D_108 hb71_1 rfl rfl (Nat.le_of_ble_eq_true rfl) (Nat.le_of_ble_eq_true rfl) (am_G.mono (w_B_putAll0 (d := d + 7) (i := 71) (f := 0) (t := (gT K.ad (gN (dcs K) dd)).length) (by decide) hB_1 x1_1.tO (by decide) (Nat.zero_le _) (Nat.le_refl _) (by show 2 * (0 + _) + 16 ≤ 40016; omega)) ?_)
  intro r h2 hz
  obtain ⟨hz1, w2, g2, hB_2⟩ := hz
  rw [hz1]
  have hD_2 := hD_1.fr g2 (by decide)
  have hC_2 := hC_1.fr g2 (by decide)
  have hP_2 := hP_1.fr g2 (by decide) (by decide)
  have ho_2 := ho_1.fr g2 (by decide)
  have hS_2 := hS_1.fr g2 (by decide)
  have hs_2 := hs_1.fr g2 (by decide) (by decide) (by decide)
  have pq_2 := pq_1.fr g2 (by decide)
  have x1_2 := x1_1.fr g2 (by decide)
  have x2_2 := x2_1.fr g2 (by decide)
  have G2 := G1.tr (g2.mo (by decide : ∀ x, x ∈ [71] → x ∈ [8, 10, 13, 14, 21, 22, 24, 63, 64, 71, 73]))
  clear hz1 r
  rw [List.nil_append, show sub (gT K.ad (gN (dcs K) dd)) 0 (gT K.ad (gN (dcs K) dd)).length = (gT K.ad (gN (dcs K) dd)) from sub_all rfl] at hB_2
  have hSc := hS_2
  obtain ⟨Lsx, hSx_2⟩ := hSc
  have xx1 := x1_2
  obtain ⟨xg1, xe1_2, -⟩ := xx1
  have xx2 := x2_2
  obtain ⟨xg2, xe2_2, -⟩ := xx2
  refine ⟨am_nt0, ?_⟩
  refine g_aload_n (pc := 31) dc_D_followLinks_31 rfl ?_
  refine g_getfield (pc := 32) dc_D_followLinks_32 fl_D_66 hD_2.1 rfl ?_
  refine g_aload_n (pc := 35) dc_D_followLinks_35 rfl ?_
  refine g_getfield (pc := 36) dc_D_followLinks_36 fl_D_112 pq_2.1 rfl ?_
  refine g_iconst (pc := 39) (v := 0) dc_D_followLinks_39 rfl ?_
  refine g_aload_n (pc := 40) dc_D_followLinks_40 rfl ?_
  refine g_getfield (pc := 41) dc_D_followLinks_41 fl_D_112 pq_2.1 rfl ?_
  refine g_alen (pc := 44) dc_D_followLinks_44 xe2_2.1 (by decide) ?_
  refine g_aload_n (pc := 45) dc_D_followLinks_45 rfl ?_
  refine g_getfield (pc := 46) dc_D_followLinks_46 fl_D_50 hD_2.1 rfl ?_
  refine g_v4 (pc := 49) (M' := mt_P_readLinks) dc_D_followLinks_49 mo_P_readLinks im_P_readLinks se_P_readLinks ln_D_115 hSx_2.1.1 rfl rfl (Nat.le_of_ble_eq_true rfl) (Nat.le_of_ble_eq_true rfl) (am_G.mono (w_P_readLinks0 (d := d) (L := (K.tx (gN (dcs K) dd))) (D := (gT K.ad (gN (dcs K) dd))) (c := pa2) (q := 99) (ja := 71) (aa := 71) (by decide) (by decide) hod hT8 hSx_2 x2_2.tO hB_2) ?_)
  intro r h3 hz
  obtain ⟨hz1, w3, g3, hS_3⟩ := hz
  rw [hz1]
  have hD_3 := hD_2.fr g3 (by decide)
  have hC_3 := hC_2.fr g3 (by decide)
  have hP_3 := hP_2.fr g3 (by decide) (by decide)
  have ho_3 := ho_2.fr g3 (by decide)
  have hB_3 := hB_2.fr g3 (by decide)
  have hs_3 := hs_2.fr g3 (by decide) (by decide) (by decide)
  have pq_3 := pq_2.fr g3 (by decide)
  have x1_3 := x1_2.fr g3 (by decide)
  have x2_3 := x2_2.fr g3 (by decide)
  have G3 := G2.tr (g3.mo (by decide : ∀ x, x ∈ [8, 10, 13, 14, 21, 22, 24] → x ∈ [8, 10, 13, 14, 21, 22, 24, 63, 64, 71, 73]))
  clear hz1 r
  have hSx_3 := hS_3
  have hS_3 : rdC w3 h3 := ⟨_, hSx_3⟩
  have hsc := hs_3
  obtain ⟨gt, gl, gb, a3_3, a7_3, a4_3, hsF⟩ := hsc
  refine ⟨am_nt0, ?_⟩
  refine g_aload_n (pc := 52) dc_D_followLinks_52 rfl ?_
  refine g_getfield (pc := 53) dc_D_followLinks_53 fl_D_66 hD_3.1 rfl ?_
  refine g_getfield (pc := 56) dc_D_followLinks_56 fl_D_121 hSx_3.1.1 rfl ?_
  refine g_astore (pc := 59) dc_D_followLinks_59 (by decide) ?_
  show am_G X mt_D_followLinks _ 61 [some (.ref 59), some (.ref 34), some (.int (nI dd)), some (.ref pg), some (.ref 13), none, none, none] [] _ _
  refine g_aload_n (pc := 61) dc_D_followLinks_61 rfl ?_
  refine g_getfield (pc := 62) dc_D_followLinks_62 fl_D_24 hD_3.1 rfl ?_
  refine g_iload_n (pc := 65) dc_D_followLinks_65 rfl ?_
  refine g_iconst (pc := 66) (v := 0) dc_D_followLinks_66 rfl ?_
  refine q_iastore (pc := 67) dd dc_D_followLinks_67 a3_3.1 (by omega) (by decide) ?_
  have g4 : fr w3 w3 h3 (h3.set 63 (.inl (1, 250, .inl (upd gt dd 0)))) [63] := fr.st a3_3.1 rfl a3_3.2
  have a3_4 : iA w3 (h3.set 63 (.inl (1, 250, .inl (upd gt dd 0)))) 63 250 (upd gt dd 0) := ⟨am_se (am_lt a3_3.1), a3_3.2⟩
  obtain ⟨w4, hw4⟩ : ∃ w9, w9 = w3 := ⟨_, rfl⟩
  generalize (h3.set 63 (.inl (1, 250, .inl (upd gt dd 0)))) = h4 at g4 a3_4 ⊢
  have g4 : fr w3 w4 h3 h4 [63] := by rw [hw4]; exact g4
  have a3_4 : iA w4 h4 63 250 (upd gt dd 0) := by rw [hw4]; exact a3_4
  have hD_4 := hD_3.fr g4 (by decide)
  have hC_4 := hC_3.fr g4 (by decide)
  have hP_4 := hP_3.fr g4 (by decide) (by decide)
  have ho_4 := ho_3.fr g4 (by decide)
  have hB_4 := hB_3.fr g4 (by decide)
  have hS_4 := hS_3.fr g4 (by decide)
  have pq_4 := pq_3.fr g4 (by decide)
  have x1_4 := x1_3.fr g4 (by decide)
  have x2_4 := x2_3.fr g4 (by decide)
  have G4 := G3.tr (g4.mo (by decide : ∀ x, x ∈ [63] → x ∈ [8, 10, 13, 14, 21, 22, 24, 63, 64, 71, 73]))
  have hs_4 : lsP w4 h4 (dcs K).length (dd + 1) (uL K dd []) := ⟨_, gl, gb, a3_4, a7_3.fr g4 (by decide), a4_3.fr g4 (by decide), lsF_0 hsF⟩
  have hSx_4 := hSx_3.2.2.2.2.2.2.fr g4 (by decide) (by decide)
  refine g_iconst (pc := 68) (v := 0) dc_D_followLinks_68 rfl ?_
  refine g_istore (pc := 69) dc_D_followLinks_69 (by decide) ?_
  show am_G X mt_D_followLinks _ 71 [some (.ref 59), some (.ref 34), some (.int (nI dd)), some (.ref pg), some (.ref 13), some (.int 0), none, none] [] _ _
  refine am_wk (am_le_s (am_le_s (am_le_s (am_le_n (am_le_s (am_le_s (am_le_n (am_le_n am_le_0)))))))) ?_
  have hCc := hC_4
  obtain ⟨hO9, ⟨ga9, gb9⟩, hR9, hK9, -⟩ := hCc
  refine am_G.mono (l71_D_followLinks (d := d + 7) (Ls := pgL (K.tx (gN (dcs K) dd)) (gT K.ad (gN (dcs K) dd))) hw hdd lkf_len hoN _ 0 w4 h4 (Nat.zero_add _) hD_4 hO9 ga9 hK9 hR9 ho_4 hSx_4 hs_4) (fun r h9 hz => ?_)
  obtain ⟨y1, w9, y2, y3⟩ := hz
  have y4 : lsP w9 h9 (dcs K).length (dd + 1) (uL K dd (ldd K dd)) := y3
  rw [uL_all] at y4
  exact ⟨y1, w9, G4.tr (y2.mo (by decide)), y4, ⟨_, hB_4.fr y2 (by decide)⟩, hS_4.fr y2 (by decide)⟩
end G1S
