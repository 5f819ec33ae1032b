/-! ===== is the crawl done ===== -/
section FGS
variable {X : am_X} {d : Nat} {A B h : List va_E} {S : MS} {T Y : List (List Int32)} {K : Kn}
theorem wtc_nx : ∀ n : Nat, wtc K.st n = 0 ↔ nwf K n = none
  | 0 => ⟨fun _ => rfl, fun _ => rfl⟩
  | n + 1 => by
    have ih := wtc_nx n
    show (if K.st n = 1 then wtc K.st n + 1 else wtc K.st n) = 0 ↔ (if K.st n = 1 ∧ lss K n (nwf K n) = true then some n else nwf K n) = none
    by_cases h1 : K.st n = 1
    · rw [if_pos h1]
      refine ⟨fun h => absurd h (Nat.succ_ne_zero _), fun h => ?_⟩
      exfalso
      split at h
      · cases h
      · rename_i h9
        rw [h] at h9
        exact h9 ⟨h1, rfl⟩
    · rw [if_neg h1, if_neg (fun h9 => h1 h9.1)]
      exact ih
theorem c_M_isDone (hA : A.length = 84) (hK : knM S T Y K) (hw : wfK K) : am_C X mt_M_isDone (d + 2) [.ref 84] (mput A S B) (fun r h1 => r = some (.int (b1 (decide (nxw K = none)))) ∧ h1 = mput A S B) := by
  show am_G X mt_M_isDone (d + 2) 0 [some (.ref 84)] [] (mput A S B) _
  have h250 := hw.1
  cases e : nxw K with
  | none =>
    have h9 := c_M_next (X := X) (d := d) (B := B) hA hK hw
    rw [e] at h9
    refine g_aload_n (pc := 0) dc_M_isDone_0 rfl ?_
    refine g_v0 (pc := 1) (M' := mt_M_next) dc_M_isDone_1 mo_M_next im_M_next se_M_next ln_M_458 (mp_o hA) rfl rfl (Nat.le_of_ble_eq_true rfl) (Nat.le_of_ble_eq_true rfl) (am_G.mono h9 ?_)
    intro r h1 hq
    rw [hq.1, hq.2]
    clear hq h1 r
    refine ⟨am_nti _, ?_⟩
    refine g_if_ge (pc := 4) (tgt := 11) dc_M_isDone_4 rfl (fun hc => absurd hc (by decide)) (fun _ => ?_)
    refine g_iconst (pc := 7) (v := 1) dc_M_isDone_7 rfl ?_
    refine g_goto (pc := 8) (tgt := 12) dc_M_isDone_8 rfl ?_
    exact g_zreturn dc_M_isDone_12 rfl rfl ⟨rfl, rfl⟩
  | some k =>
    have hk := (nwf_b _ k (show nwf K K.ad.length = some k from e)).1
    have h9 := c_M_next (X := X) (d := d) (B := B) hA hK hw
    rw [e] at h9
    refine g_aload_n (pc := 0) dc_M_isDone_0 rfl ?_
    refine g_v0 (pc := 1) (M' := mt_M_next) dc_M_isDone_1 mo_M_next im_M_next se_M_next ln_M_458 (mp_o hA) rfl rfl (Nat.le_of_ble_eq_true rfl) (Nat.le_of_ble_eq_true rfl) (am_G.mono h9 ?_)
    intro r h1 hq
    rw [hq.1, hq.2]
    clear hq h1 r
    refine ⟨am_nti _, ?_⟩
    refine q_if_ge (pc := 4) (tgt := 11) k dc_M_isDone_4 (by omega) rfl ?_
    refine g_iconst (pc := 11) (v := 0) dc_M_isDone_11 rfl ?_
    exact g_zreturn dc_M_isDone_12 rfl rfl ⟨rfl, rfl⟩
end FGS
