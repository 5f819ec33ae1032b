/-! ===== a document hands its rank on ===== -/
/-- what it gives to each -/
def gvR (r : Nat) (l : List Nat) : Nat := 85 * r / 100 / l.length
section FDS
variable {X : am_X} {d n t dd r N : Nat} {w w0 w1 : Gw} {h h0 h1 : List va_E} {gt gl gr gn : Nat → Int32} {l : List Nat} {a : Nat → Nat}
theorem nd_take (hl : l.Nodup) (ht : t < l.length) : ¬ gN l t ∈ l.take t := fun h9 => by
  obtain ⟨j, hj, e⟩ := List.getElem_of_mem h9
  rw [List.length_take] at hj
  rw [List.getElem_take, gN_at ht] at e
  exact List.pairwise_iff_getElem.mp hl j t (by omega) ht (by omega) e
theorem l2_D_handOnRank (hdd : dd < 250) (h60 : l.length ≤ 60) (hnd : l.Nodup) (hlx : ∀ x, x ∈ l → x < N) (hN : N ≤ 250) (htd : gt dd = nI l.length) (hld : ∀ t, t < l.length → gl (dd * 60 + t) = nI (gN l t)) (hrd : gr dd = nI r) (hr6 : r ≤ 1000000) (ha : ∀ e, e < N → a e ≤ 2000000) : ∀ (n9 t : Nat) (w : Gw) (h : List va_E) (gn : Nat → Int32), t + n9 = l.length → dO w h n → iA w h 63 250 gt → iA w h 73 15000 gl → iA w h 62 250 gr → iA w h 74 250 gn → (∀ e, e < N → gn e = nI (a e + if e ∈ l.take t then gvR r l else 0)) → am_G X mt_D_handOnRank d 2 [some (.ref 59), some (.int (nI dd)), some (.int (nI t))] [] h (fun r1 h1 => r1 = none ∧ ∃ w1, fr w w1 h h1 [74] ∧ ∃ g1, iA w1 h1 74 250 g1 ∧ ∀ e, e < N → g1 e = nI (a e + if e ∈ l then gvR r l else 0))
  | 0, t, w, h, gn, e9, hD, ht, hl, hr, hg, hn => by
    rw [show l.take t = l from List.take_of_length_le (by omega)] at hn
    refine g_iload_n (pc := 2) dc_D_handOnRank_2 rfl ?_
    refine g_aload_n (pc := 3) dc_D_handOnRank_3 rfl ?_
    refine g_getfield (pc := 4) dc_D_handOnRank_4 fl_D_24 hD.1 rfl ?_
    refine g_iload_n (pc := 7) dc_D_handOnRank_7 rfl ?_
    refine q_ialoadV (pc := 8) dd dc_D_handOnRank_8 ht.1 (by omega) (by decide) (v := nI l.length) htd ?_
    refine q_icmp_ge (pc := 9) (tgt := 56) t l.length dc_D_handOnRank_9 (by omega) (by omega) rfl (fun hc9 => ?_) (fun hc => absurd hc (by omega))
    exact g_return dc_D_handOnRank_56 rfl ⟨rfl, w, fr.rf, gn, hg, hn⟩
  | n9 + 1, t, w, h, gn, e9, hD, ht, hl, hr, hg, hn => by
    have htl : t < l.length := by omega
    have hgx := hlx _ (gN_mem htl)
    have hax : gn (gN l t) = nI (a (gN l t)) := by rw [hn _ hgx, if_neg (nd_take hnd htl)]; rfl
    have ha9 := ha _ hgx
    have hgv : gvR r l ≤ 85 * r / 100 := Nat.div_le_self _ _
    refine g_iload_n (pc := 2) dc_D_handOnRank_2 rfl ?_
    refine g_aload_n (pc := 3) dc_D_handOnRank_3 rfl ?_
    refine g_getfield (pc := 4) dc_D_handOnRank_4 fl_D_24 hD.1 rfl ?_
    refine g_iload_n (pc := 7) dc_D_handOnRank_7 rfl ?_
    refine q_ialoadV (pc := 8) dd dc_D_handOnRank_8 ht.1 (by omega) (by decide) (v := nI l.length) htd ?_
    refine q_icmp_ge (pc := 9) (tgt := 56) t l.length dc_D_handOnRank_9 (by omega) (by omega) rfl (fun hc => absurd hc (by omega)) (fun hc9 => ?_)
    refine g_aload_n (pc := 12) dc_D_handOnRank_12 rfl ?_
    refine g_getfield (pc := 13) dc_D_handOnRank_13 fl_D_57 hD.1 rfl ?_
    refine g_aload_n (pc := 16) dc_D_handOnRank_16 rfl ?_
    refine g_getfield (pc := 17) dc_D_handOnRank_17 fl_D_54 hD.1 rfl ?_
    refine g_iload_n (pc := 20) dc_D_handOnRank_20 rfl ?_
    refine g_bipush (pc := 21) (v := 60) dc_D_handOnRank_21 rfl ?_
    refine g_imul (pc := 23) (v := (nI (dd * 60))) dc_D_handOnRank_23 (pk_mul dd 60) ?_
    refine g_iload_n (pc := 24) dc_D_handOnRank_24 rfl ?_
    refine g_iadd (pc := 25) (v := (nI (dd * 60 + t))) dc_D_handOnRank_25 (nI_add (dd * 60) t) ?_
    refine q_ialoadV (pc := 26) (dd * 60 + t) dc_D_handOnRank_26 hl.1 (by omega) (by decide) (v := nI (gN l t)) (hld t (by omega)) ?_
    refine g_dup2 (pc := 27) dc_D_handOnRank_27 rfl rfl ?_
    refine q_ialoadV (pc := 28) (gN l t) dc_D_handOnRank_28 hg.1 (by omega) (by decide) (v := nI (a (gN l t))) hax ?_
    refine g_bipush (pc := 29) (v := 85) dc_D_handOnRank_29 rfl ?_
    refine g_aload_n (pc := 31) dc_D_handOnRank_31 rfl ?_
    refine g_getfield (pc := 32) dc_D_handOnRank_32 fl_D_21 hD.1 rfl ?_
    refine g_iload_n (pc := 35) dc_D_handOnRank_35 rfl ?_
    refine q_ialoadV (pc := 36) dd dc_D_handOnRank_36 hr.1 (by omega) (by decide) (v := nI r) hrd ?_
    refine g_imul (pc := 37) (v := (nI (85 * r))) dc_D_handOnRank_37 (pk_mul 85 r) ?_
    refine g_bipush (pc := 38) (v := 100) dc_D_handOnRank_38 rfl ?_
    refine g_idiv (pc := 40) (v := (nI ((85 * r) / 100))) dc_D_handOnRank_40 (by decide) (pk_div (a := 85 * r) (d := 100) (by omega) (by omega) (by omega)) ?_
    refine g_aload_n (pc := 41) dc_D_handOnRank_41 rfl ?_
    refine g_getfield (pc := 42) dc_D_handOnRank_42 fl_D_24 hD.1 rfl ?_
    refine g_iload_n (pc := 45) dc_D_handOnRank_45 rfl ?_
    refine q_ialoadV (pc := 46) dd dc_D_handOnRank_46 ht.1 (by omega) (by decide) (v := nI l.length) htd ?_
    refine g_idiv (pc := 47) (v := (nI (((85 * r) / 100) / l.length))) dc_D_handOnRank_47 (fun h9 => absurd (congrArg Int32.toInt h9) (by rw [nI_toInt (by omega)]; show ¬ ((l.length : Int) = 0); omega)) (pk_div (a := (85 * r) / 100) (d := l.length) (by omega) (by omega) (by omega)) ?_
    refine g_iadd (pc := 48) (v := (nI (a (gN l t) + (((85 * r) / 100) / l.length)))) dc_D_handOnRank_48 (nI_add (a (gN l t)) (((85 * r) / 100) / l.length)) ?_
    refine q_iastore (pc := 49) (gN l t) dc_D_handOnRank_49 hg.1 (by omega) (by decide) ?_
    have g1 : fr w w h (h.set 74 (.inl (1, 250, .inl (upd gn (gN l t) (nI (a (gN l t) + gvR r l)))))) [74] := fr.st hg.1 rfl hg.2
    have hg1 : iA w (h.set 74 (.inl (1, 250, .inl (upd gn (gN l t) (nI (a (gN l t) + gvR r l)))))) 74 250 (upd gn (gN l t) (nI (a (gN l t) + gvR r l))) := ⟨am_se (am_lt hg.1), hg.2⟩
    show am_G X mt_D_handOnRank _ 50 _ _ (h.set 74 (.inl (1, 250, .inl (upd gn (gN l t) (nI (a (gN l t) + gvR r l)))))) _
    generalize (h.set 74 (.inl (1, 250, .inl (upd gn (gN l t) (nI (a (gN l t) + gvR r l)))))) = h1 at g1 hg1 ⊢
    refine g_iinc (pc := 50) (v := (nI (t + 1))) dc_D_handOnRank_50 rfl (nI_add t 1) (by decide) ?_
    show am_G X mt_D_handOnRank _ 53 [some (.ref 59), some (.int (nI dd)), some (.int (nI (t + 1)))] [] _ _
    refine g_goto (pc := 53) (tgt := 2) dc_D_handOnRank_53 rfl ?_
    refine am_G.mono (l2_D_handOnRank hdd h60 hnd hlx hN htd hld hrd hr6 ha n9 (t + 1) w h1 _ (by omega) (hD.fr g1 (by decide)) (ht.fr g1 (by decide)) (hl.fr g1 (by decide)) (hr.fr g1 (by decide)) hg1 (fun e he => ?_)) (fun r1 h4 hz => ?_)
    · rw [tkN htl]
      by_cases q : e = gN l t
      · rw [q, upd_s, if_pos (List.mem_append_right _ (List.mem_singleton_self _))]
      · rw [upd_n q, hn e he]
        by_cases q2 : e ∈ l.take t
        · rw [if_pos q2, if_pos (List.mem_append_left _ q2)]
        · rw [if_neg q2, if_neg (fun h9 => (List.mem_append.mp h9).elim q2 (fun h8 => q (List.mem_singleton.mp h8)))]
    · obtain ⟨y1, w4, y2, y3⟩ := hz
      exact ⟨y1, w4, g1.tr y2, y3⟩
theorem w_D_handOnRank (hdd : dd < 250) (h60 : l.length ≤ 60) (hnd : l.Nodup) (hlx : ∀ x, x ∈ l → x < N) (hN : N ≤ 250) (htd : gt dd = nI l.length) (hld : ∀ t, t < l.length → gl (dd * 60 + t) = nI (gN l t)) (hrd : gr dd = nI r) (hr6 : r ≤ 1000000) (ha : ∀ e, e < N → a e ≤ 2000000) (hD : dO w h n) (ht : iA w h 63 250 gt) (hl : iA w h 73 15000 gl) (hr : iA w h 62 250 gr) (hg : iA w h 74 250 gn) (hn : ∀ e, e < N → gn e = nI (a e)) : am_C X mt_D_handOnRank d [.ref 59, .int (nI dd)] h (fun r1 h1 => r1 = none ∧ ∃ w1, fr w w1 h h1 [74] ∧ ∃ g1, iA w1 h1 74 250 g1 ∧ ∀ e, e < N → g1 e = nI (a e + if e ∈ l then gvR r l else 0)) := by
  show am_G X mt_D_handOnRank d 0 [some (.ref 59), some (.int (nI dd)), none] [] h _
  refine g_iconst (pc := 0) (v := 0) dc_D_handOnRank_0 rfl ?_
  refine g_istore_n (pc := 1) dc_D_handOnRank_1 (by decide) ?_
  show am_G X mt_D_handOnRank _ 2 [some (.ref 59), some (.int (nI dd)), some (.int 0)] [] _ _
  exact l2_D_handOnRank hdd h60 hnd hlx hN htd hld hrd hr6 ha l.length 0 w h gn (Nat.zero_add _) hD ht hl hr hg (fun e he => by rw [hn e he, if_neg (by rw [List.take_zero]; exact List.not_mem_nil)]; rfl)
end FDS
