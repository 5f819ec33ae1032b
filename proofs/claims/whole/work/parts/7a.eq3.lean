/-! ===== the one form over a question mark ===== -/
theorem hx_63 : hx 63 = none := by decide
theorem hx_47 : hx 47 = none := by decide
section UQ
variable {L : List Int32} {f t m : Nat}
/-- a place whose byte is no hex digit cuts no % with its two -/
theorem esx_cut (hm : m ≤ t) (hx : m < t → hx (gx L m) = none) {i : Nat} (hi : i < m) : esx L i t = esx L i m := by
  by_cases h2 : i + 2 < m
  · unfold esx
    by_cases h : gx L i = 37
    · rw [if_pos ⟨h, by omega⟩, if_pos ⟨h, h2⟩]
    · rw [if_neg (fun q => h q.1), if_neg (fun q => h q.1)]
  · rw [esx_n2 (t := m) h2]
    by_cases h3 : i + 2 < t
    · rcases (by omega : i + 1 = m ∨ i + 2 = m) with q | q
      · exact esx_a (by rw [q]; exact hx (by omega))
      · exact esx_b' (by rw [q]; exact hx (by omega))
    · exact esx_n2 h3
theorem uf_cut (hm : m ≤ t) (hx : m < t → hx (gx L m) = none) : ∀ n f : Nat, m - f ≤ n → f ≤ m → uf L f t = uf L f m ++ uf L m t
  | 0, f, h, hf => by
    obtain rfl : f = m := by omega
    rw [uf_nil (Nat.le_refl f), List.nil_append]
  | n + 1, f, h, hf => by
    by_cases he : f < m
    · have hc := esx_cut hm hx he
      have hu : us L f t = us L f m := by unfold us; rw [hc]
      have ha : ua L f t = ua L f m := by unfold ua; rw [hc]
      have hl := ua_le (L := L) he
      rw [uf_step (show f < t by omega), uf_step he, hu, ha, uf_cut hm hx n (f + ua L f m) (by omega) (by omega), List.append_assoc]
    · obtain rfl : f = m := by omega
      rw [uf_nil (Nat.le_refl f), List.nil_append]
theorem uf_q (hft : f ≤ t) : uf L f t = uf L f (fw (nev 63) L f t) ++ uf L (fw (nev 63) L f t) t := by
  have hb := fw_bd (p := nev 63) (L := L) hft
  refine uf_cut hb.2 (fun h9 => ?_) (fw (nev 63) L f t - f) f (Nat.le_refl _) hb.1
  have ho := fw_out (p := nev 63) (L := L) h9
  have : gx L (fw (nev 63) L f t) = 63 := Decidable.not_not.mp (fun h8 => by rw [nev_t h8] at ho; cases ho)
  rw [this]; exact hx_63
theorem us_63 (h : ¬ gx L f = 63) : ∀ x, x ∈ us L f t → ¬ x = 63 := by
  intro x hx
  cases e : esx L f t with
  | none =>
    rw [us_n e] at hx
    rw [List.mem_singleton] at hx
    rw [hx]; exact h
  | some v =>
    have hv := esx_lt e
    cases hp : plB (nI v) with
    | true =>
      rw [us_p e hp, List.mem_singleton] at hx
      rw [hx]
      intro h9
      rw [h9] at hp
      exact absurd hp (by decide)
    | false =>
      rw [us_q e hp] at hx
      have hch : ∀ k, k < 16 → ¬ ch 6 k = 63 := by decide
      rcases List.mem_cons.mp hx with q | hx
      · rw [q]; decide
      · rcases List.mem_cons.mp hx with q | hx
        · rw [q]; exact hch _ (by omega)
        · rw [List.mem_singleton] at hx
          rw [hx]; exact hch _ (by omega)
theorem uf_63 : ∀ n f : Nat, t - f ≤ n → (∀ j, f ≤ j → j < t → ¬ gx L j = 63) → ∀ x, x ∈ uf L f t → ¬ x = 63
  | 0, f, h, _ => by
    rw [uf_nil (by omega)]
    intro x hx
    cases hx
  | n + 1, f, h, hg => by
    intro x hx
    by_cases hf : f < t
    · rw [uf_step hf] at hx
      rcases List.mem_append.mp hx with q | q
      · exact us_63 (hg f (Nat.le_refl _) hf) x q
      · have hl := ua_le (L := L) hf
        exact uf_63 n _ (by omega) (fun j a b => hg j (by omega) b) x q
    · rw [uf_nil (by omega)] at hx
      cases hx
theorem gx_mem {M : List Int32} {j : Nat} (h : j < M.length) : gx M j ∈ M := by rw [gx_eq h]; exact List.getElem_mem h
theorem uf_n63 (hft : f ≤ t) : ∀ j, j < (uf L f (fw (nev 63) L f t)).length → ¬ gx (uf L f (fw (nev 63) L f t)) j = 63 := fun j hj =>
  uf_63 (fw (nev 63) L f t - f) f (Nat.le_refl _) (fun i a b => of_decide_eq_true (fw_in (p := nev 63) a b)) _ (gx_mem hj)
/-- a byte that is no % comes first as it is -/
theorem uf_hd (hf : f < t) (h : ¬ gx L f = 37) : gx (uf L f t) 0 = gx L f := by
  rw [uf_step hf, us_n (esx_n1 h)]
  rfl
theorem uf_hq (hft : f ≤ t) : uf L (fw (nev 63) L f t) t = [] ∨ gx (uf L (fw (nev 63) L f t) t) 0 = 63 := by
  have hb := fw_bd (p := nev 63) (L := L) hft
  by_cases h : fw (nev 63) L f t < t
  · have ho := fw_out (p := nev 63) (L := L) h
    have e : gx L (fw (nev 63) L f t) = 63 := Decidable.not_not.mp (fun h8 => by rw [nev_t h8] at ho; cases ho)
    exact Or.inr (by rw [uf_hd h (by rw [e]; decide)]; exact e)
  · exact Or.inl (uf_nil (by omega))
end UQ
theorem toLo_47 {x : Int32} : toLo x = 47 ↔ x = 47 := by
  by_cases hu : 65 ≤ x.toInt ∧ x.toInt ≤ 90
  · have h1 := (toLo_i x).1 hu
    have h47 : ((47 : Int32)).toInt = 47 := by decide
    constructor
    · intro h
      rw [h] at h1
      omega
    · intro h
      rw [h] at hu
      omega
  · rw [(toLo_i x).2 hu]
theorem bgw_sl {L : List Int32} {f t : Nat} : bgw 2 L f t = true ↔ f + 1 < t ∧ gx L f = 47 ∧ gx L (f + 1) = 47 := by
  unfold bgw isw
  rw [Bool.and_eq_true, decide_eq_true_eq, decide_eq_true_eq, show cln 2 = 2 from rfl]
  constructor
  · rintro ⟨a, b, c⟩
    exact ⟨by omega, toLo_47.mp (c 0 (by omega)), toLo_47.mp (c 1 (by omega))⟩
  · rintro ⟨a, b, c⟩
    refine ⟨by omega, by omega, fun j hj => ?_⟩
    rcases (by omega : j = 0 ∨ j = 1) with q | q
    · rw [q]; exact toLo_47.mpr b
    · rw [q]; exact toLo_47.mpr c
theorem isw_ht {L : List Int32} {f t : Nat} : isw 1 L f t = isw 29 L f t := by
  unfold isw
  have e1 : cln 1 = cln 29 := by decide
  have e2 : ∀ j, ch 1 j = ch 29 j := fun j => congrFun (congrArg (fun l : List Int32 => fun j => l.getD j 0) (show cb 1 = cb 29 from rfl)) j
  rw [e1]
  congr 1
