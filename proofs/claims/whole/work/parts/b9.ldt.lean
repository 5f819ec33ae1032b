/-! ===== who was led on has a lead ===== -/
def cqJ (lim : Nat → Nat) (q : Cr) : Prop := cqI lim q ∧ ldT q.1 ∧ ldT q.2.2
section LDT
variable {K V : Kn} {lim sett : Nat → Nat} {D L E : List Int32} {dp ch k v : Nat} {P : List Pg} {Rs Rt Sd : List (List Int32)} {c : Cw} {q : Cr}
theorem ldT.met (h : ldT K) : ldT (mee lim D dp ch K) := by
  unfold mee
  cases e : nbr K.ad D with
  | none =>
    dsimp only
    split
    · intro i hi
      have hi2 : i < (K.ad ++ [D]).length := hi
      rw [List.length_append] at hi2
      have hi3 : i < K.ad.length + 1 := hi2
      show upf K.st K.ad.length 1 i = 3 ↔ ¬ upf K.ld K.ad.length none i = none
      by_cases q : i = K.ad.length
      · rw [q, upf_s, upf_s]
        exact ⟨fun h9 => (by cases h9), fun h9 => absurd rfl h9⟩
      · rw [upf_n q, upf_n q]; exact h i (by omega)
    · exact h
  | some j =>
    dsimp only
    split
    · exact h
    · exact h
theorem ldT_lkf : ∀ (Ls : List (List Int32)) (K : Kn), ldT K → ldT (lkf lim dp Ls K)
  | [], K, h => h
  | E :: Ls, K, h => ldT_lkf Ls (mee lim E dp 0 K) h.met
theorem ldT_st (h : ldT K) (hs : K.st k = 1) (hv : ¬ v = 3) : ldT (stK K k v) := fun i hi => by
  show upf K.st k v i = 3 ↔ ¬ K.ld i = none
  by_cases e : i = k
  · rw [e] at hi ⊢
    rw [upf_s]
    exact ⟨fun h9 => absurd h9 hv, fun h9 => by have := (h k hi).mpr h9; rw [hs] at this; cases this⟩
  · rw [upf_n e]; exact h i hi
theorem ldT_tx (h : ldT K) (hs : K.st k = 1) : ldT (txK K k L) := ldT_st (v := 2) h hs (by decide)
theorem ldT_ld (h : ldT K) : ldT (ldK K k E) := fun i hi => by
  show upf K.st k 3 i = 3 ↔ ¬ upf K.ld k (some E) i = none
  by_cases e : i = k
  · rw [e, upf_s, upf_s]
    exact ⟨fun _ h9 => (by cases h9), fun _ => rfl⟩
  · rw [upf_n e, upf_n e]; exact h i hi
theorem ldT_tak (h : ldT K) (hs : K.st k = 1) : ldT (tak lim P Rs Rt K c k).2.1 := by
  have h0 : ldT (asK lim K c k) := h
  have hs0 : (asK lim K c k).st k = 1 := hs
  unfold tak
  split
  · cases e : nbr (pad P) (gT K.ad k) with
    | none => exact ldT_st h0 hs0 (by decide)
    | some j =>
      dsimp only
      split
      · exact ldT_lkf _ _ (ldT_tx h0 hs0)
      · split
        · cases e2 : ldl (gP P j).2.2 (gT K.ad k) with
          | none => exact ldT_st h0 hs0 (by decide)
          | some E => exact ldT.met (ldT_ld h0)
        · exact ldT_st h0 hs0 (by decide)
  · exact ldT_st h hs (by decide)
theorem stp_J {z : Nat × Cr} (e : stp lim P Rs Rt q = some z) (hm : lmO lim) (h3 : 1 ≤ lim 3) (hP : wfP P) (hI : cqJ lim q) (han : q.2.1.an < 128000) : cqJ lim z.2 ∧ z.2.2.1.an ≤ q.2.1.an + 1 ∧ z.1 ≤ 5 := by
  have h := stp_I e hm h3 hP hI.1 han
  refine ⟨⟨h.1, ?_⟩, h.2⟩
  unfold stp at e
  cases en : nxw q.1 with
  | none => rw [en] at e; cases e
  | some k =>
    rw [en] at e
    have hk := nwf_b _ k (show nwf q.1 q.1.ad.length = some k from en)
    have t := ldT_tak (lim := lim) (P := P) (Rs := Rs) (Rt := Rt) (c := q.2.1) hI.2.1 hk.2
    have e9 := Option.some.inj e
    by_cases hif : lim 3 ≤ (tak lim P Rs Rt q.1 q.2.1 k).2.2.sn
    · rw [if_pos hif] at e9
      rw [← e9]
      exact ⟨t, t⟩
    · rw [if_neg hif] at e9
      rw [← e9]
      exact ⟨t, hI.2.2⟩
theorem rn_J (hm : lmO lim) (h3 : 1 ≤ lim 3) (hP : wfP P) : ∀ (n : Nat) (q : Cr), cqJ lim q → q.2.1.an + n ≤ 128000 → cqJ lim (rn lim P Rs Rt n q).2 ∧ (rn lim P Rs Rt n q).2.2.1.an ≤ q.2.1.an + n ∧ (rn lim P Rs Rt n q).1 ≤ n
  | 0, q, h, _ => ⟨h, Nat.le_refl _, Nat.le_refl _⟩
  | n + 1, q, h, ha => by
    cases e : stp lim P Rs Rt q with
    | none =>
      rw [rn_n e]
      exact ⟨h, (by show q.2.1.an ≤ _; omega), Nat.zero_le _⟩
    | some z =>
      rw [rn_s e]
      have hs := stp_J e hm h3 hP h (by omega)
      have hr := rn_J hm h3 hP n z.2 hs.1 (by omega)
      exact ⟨hr.1, (by show (rn lim P Rs Rt n z.2).2.2.1.an ≤ _; omega), (by show (rn lim P Rs Rt n z.2).1 + 1 ≤ n + 1; omega)⟩
theorem crq_J (h3 : 1 ≤ lim 3) (hI : cqJ lim q) : cqJ lim (crq q) := ⟨crq_I h3 hI.1, hI.2.2, hI.2.2⟩
theorem ldT00 : ldT K00 := fun i hi => absurd hi (Nat.not_lt_zero i)
theorem sta_J (hm : lmO sett) (h3 : 1 ≤ sett 3) (hok : ∀ x, x ∈ Sd → okD x) : cqJ sett (sta sett Sd) := ⟨sta_I hm h3 hok, ldT_lkf Sd K00 ldT00, ldT_lkf Sd K00 ldT00⟩
end LDT
