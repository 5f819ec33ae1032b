/-! ===== which documents a document leads to ===== -/
def ldF (K : Kn) (dd : Nat) (acc : List Nat) (E : List Int32) : List Nat := match cmo K (nbr K.ad E) with
  | none => acc
  | some e => if e = dd ∨ e ∈ acc then acc else acc ++ [e]
/-- the documents that document dd leads to, in the order of its links -/
def ldd (K : Kn) (dd : Nat) : List Nat := (pgL (K.tx (gN (dcs K) dd)) (gT K.ad (gN (dcs K) dd))).foldl (ldF K dd) []
section FBS
variable {X : am_X} {d e n t dd f k : Nat} {w w0 w1 : Gw} {h h0 h1 : List va_E} {K : Kn} {gt gl : Nat → Int32} {l : List Nat}
theorem cmt_lt (hw : wfK K) : ∀ (f k : Nat), cmt K f k = some e → e < (dcs K).length
  | 0, k, h9 => by
    unfold cmt at h9
    split at h9
    · have := (nbr_s h9).1; rw [txs_len] at this; exact this
    · cases h9
  | f + 1, k, h9 => by
    unfold cmt at h9
    split at h9
    · have := (nbr_s h9).1; rw [txs_len] at this; exact this
    · cases e2 : ldx K k with
      | none => rw [e2] at h9; cases h9
      | some k2 => rw [e2] at h9; exact cmt_lt hw f k2 h9
theorem cmo_lt (hw : wfK K) {o : Option Nat} (h9 : cmo K o = some e) : e < (dcs K).length := by
  cases o with
  | none => cases h9
  | some k => exact cmt_lt hw 20 k h9
/-- leads are no more than the links, differ, and are documents other than dd -/
theorem ldF_inv (hw : wfK K) : ∀ (Ls : List (List Int32)) (acc : List Nat), acc.Nodup → (∀ x, x ∈ acc → x < (dcs K).length ∧ ¬ x = dd) → (Ls.foldl (ldF K dd) acc).Nodup ∧ (∀ x, x ∈ Ls.foldl (ldF K dd) acc → x < (dcs K).length ∧ ¬ x = dd) ∧ (Ls.foldl (ldF K dd) acc).length ≤ acc.length + Ls.length
  | [], acc, h1, h2 => ⟨h1, h2, Nat.le_refl _⟩
  | E :: Ls, acc, h1, h2 => by
    rw [List.foldl_cons]
    have key : (ldF K dd acc E).Nodup ∧ (∀ x, x ∈ ldF K dd acc E → x < (dcs K).length ∧ ¬ x = dd) ∧ (ldF K dd acc E).length ≤ acc.length + 1 := by
      unfold ldF
      cases e2 : cmo K (nbr K.ad E) with
      | none => exact ⟨h1, h2, Nat.le_succ _⟩
      | some x =>
        dsimp only
        split
        · exact ⟨h1, h2, Nat.le_succ _⟩
        · rename_i hn
          refine ⟨?_, fun y hy => ?_, by rw [List.length_append]; exact Nat.le_refl _⟩
          · refine List.nodup_append.mpr ⟨h1, List.pairwise_singleton _ x, fun a ha b hb e9 => ?_⟩
            rw [List.mem_singleton.mp hb] at e9
            exact hn (Or.inr (by rw [← e9]; exact ha))
          · rcases List.mem_append.mp hy with q | q
            · exact h2 y q
            · rw [List.mem_singleton.mp q]
              exact ⟨cmo_lt hw e2, fun e9 => hn (Or.inl e9)⟩
    have ih := ldF_inv hw Ls (ldF K dd acc E) key.1 key.2.1
    exact ⟨ih.1, ih.2.1, by rw [List.length_cons]; omega⟩
theorem ldd_inv (hw : wfK K) : (ldd K dd).Nodup ∧ (∀ x, x ∈ ldd K dd → x < (dcs K).length ∧ ¬ x = dd) ∧ (ldd K dd).length ≤ 60 := by
  have h := ldF_inv (dd := dd) hw (pgL (K.tx (gN (dcs K) dd)) (gT K.ad (gN (dcs K) dd))) [] List.nodup_nil (fun x hx => absurd hx List.not_mem_nil)
  have h60 := lkf_len (L := K.tx (gN (dcs K) dd)) (D := gT K.ad (gN (dcs K) dd))
  refine ⟨h.1, h.2.1, ?_⟩
  have h3 : (ldd K dd).length ≤ 0 + _ := h.2.2
  omega
theorem l2_D_alreadyLeads (hD : dO w h n) (ht : iA w h 63 250 gt) (hl : iA w h 73 15000 gl) (hdd : dd < 250) (h60 : l.length ≤ 60) (htd : gt dd = nI l.length) (hld : ∀ t, t < l.length → gl (dd * 60 + t) = nI (gN l t)) (hlx : ∀ x, x ∈ l → x < 250) (he : e < 250) : ∀ (n9 t : Nat), t + n9 = l.length → (∀ j, j < t → ¬ gN l j = e) → am_G X mt_D_alreadyLeads d 2 [some (.ref 59), some (.int (nI dd)), some (.int (nI e)), some (.int (nI t))] [] h (fun r h1 => r = some (.int (b1 (decide (e ∈ l)))) ∧ h1 = h)
  | 0, t, e9, hn => by
    have hno : ¬ e ∈ l := fun h9 => by obtain ⟨j, j1, j2⟩ := mem_gN h9; exact hn j (by omega) j2
    refine g_iload_n (pc := 2) dc_D_alreadyLeads_2 rfl ?_
    refine g_aload_n (pc := 3) dc_D_alreadyLeads_3 rfl ?_
    refine g_getfield (pc := 4) dc_D_alreadyLeads_4 fl_D_24 hD.1 rfl ?_
    refine g_iload_n (pc := 7) dc_D_alreadyLeads_7 rfl ?_
    refine q_ialoadV (pc := 8) dd dc_D_alreadyLeads_8 ht.1 (by omega) (by decide) (v := nI l.length) htd ?_
    refine q_icmp_ge (pc := 9) (tgt := 35) t l.length dc_D_alreadyLeads_9 (by omega) (by omega) rfl (fun hc9 => ?_) (fun hc => absurd hc (by omega))
    refine g_iconst (pc := 35) (v := 0) dc_D_alreadyLeads_35 rfl ?_
    exact g_zreturn dc_D_alreadyLeads_36 rfl rfl ⟨by rw [decide_eq_false hno]; rfl, rfl⟩
  | n9 + 1, t, e9, hn => by
    have hgt := hlx _ (gN_mem (show t < l.length by omega))
    refine g_iload_n (pc := 2) dc_D_alreadyLeads_2 rfl ?_
    refine g_aload_n (pc := 3) dc_D_alreadyLeads_3 rfl ?_
    refine g_getfield (pc := 4) dc_D_alreadyLeads_4 fl_D_24 hD.1 rfl ?_
    refine g_iload_n (pc := 7) dc_D_alreadyLeads_7 rfl ?_
    refine q_ialoadV (pc := 8) dd dc_D_alreadyLeads_8 ht.1 (by omega) (by decide) (v := nI l.length) htd ?_
    refine q_icmp_ge (pc := 9) (tgt := 35) t l.length dc_D_alreadyLeads_9 (by omega) (by omega) rfl (fun hc => absurd hc (by omega)) (fun hc9 => ?_)
    refine g_aload_n (pc := 12) dc_D_alreadyLeads_12 rfl ?_
    refine g_getfield (pc := 13) dc_D_alreadyLeads_13 fl_D_54 hD.1 rfl ?_
    refine g_iload_n (pc := 16) dc_D_alreadyLeads_16 rfl ?_
    refine g_bipush (pc := 17) (v := 60) dc_D_alreadyLeads_17 rfl ?_
    refine g_imul (pc := 19) (v := (nI (dd * 60))) dc_D_alreadyLeads_19 (pk_mul dd 60) ?_
    refine g_iload_n (pc := 20) dc_D_alreadyLeads_20 rfl ?_
    refine g_iadd (pc := 21) (v := (nI (dd * 60 + t))) dc_D_alreadyLeads_21 (nI_add (dd * 60) t) ?_
    refine q_ialoadV (pc := 22) (dd * 60 + t) dc_D_alreadyLeads_22 hl.1 (by omega) (by decide) (v := nI (gN l t)) (hld t (by omega)) ?_
    refine g_iload_n (pc := 23) dc_D_alreadyLeads_23 rfl ?_
    refine q_icmp_ne (pc := 24) (tgt := 29) (gN l t) e dc_D_alreadyLeads_24 (by omega) (by omega) rfl (fun hc24 => ?_) (fun hc24 => ?_)
    · refine g_iinc (pc := 29) (v := (nI (t + 1))) dc_D_alreadyLeads_29 rfl (nI_add t 1) (by decide) ?_
      show am_G X mt_D_alreadyLeads _ 32 [some (.ref 59), some (.int (nI dd)), some (.int (nI e)), some (.int (nI (t + 1)))] [] _ _
      refine g_goto (pc := 32) (tgt := 2) dc_D_alreadyLeads_32 rfl ?_
      exact l2_D_alreadyLeads hD ht hl hdd h60 htd hld hlx he n9 (t + 1) (by omega) (fun j hj => by
        by_cases q : j = t
        · rw [q]; exact hc24
        · exact hn j (by omega))
    · refine g_iconst (pc := 27) (v := 1) dc_D_alreadyLeads_27 rfl ?_
      exact g_zreturn dc_D_alreadyLeads_28 rfl rfl ⟨by rw [decide_eq_true (show e ∈ l by rw [← hc24]; exact gN_mem (by omega))]; rfl, rfl⟩
theorem c_D_alreadyLeads (hD : dO w h n) (ht : iA w h 63 250 gt) (hl : iA w h 73 15000 gl) (hdd : dd < 250) (h60 : l.length ≤ 60) (htd : gt dd = nI l.length) (hld : ∀ t, t < l.length → gl (dd * 60 + t) = nI (gN l t)) (hlx : ∀ x, x ∈ l → x < 250) (he : e < 250) : am_C X mt_D_alreadyLeads d [.ref 59, .int (nI dd), .int (nI e)] h (fun r h1 => r = some (.int (b1 (decide (e ∈ l)))) ∧ h1 = h) := by
  show am_G X mt_D_alreadyLeads d 0 [some (.ref 59), some (.int (nI dd)), some (.int (nI e)), none] [] h _
  refine g_iconst (pc := 0) (v := 0) dc_D_alreadyLeads_0 rfl ?_
  refine g_istore_n (pc := 1) dc_D_alreadyLeads_1 (by decide) ?_
  show am_G X mt_D_alreadyLeads _ 2 [some (.ref 59), some (.int (nI dd)), some (.int (nI e)), some (.int 0)] [] _ _
  exact l2_D_alreadyLeads hD ht hl hdd h60 htd hld hlx he l.length 0 (Nat.zero_add _) (fun j hj => absurd hj (Nat.not_lt_zero j))
end FBS
