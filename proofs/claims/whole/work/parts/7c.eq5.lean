/-! ===== references: the class makes of them what the model makes ===== -/
section RSF
variable {L D : List Int32} {f t : Nat}
theorem fw_63 (h : fw (nev 63) L f t < t) : gx L (fw (nev 63) L f t) = 63 := Decidable.not_not.mp (fun h8 => by
  have ho := fw_out (p := nev 63) (L := L) h
  rw [nev_t h8] at ho
  cases ho)
theorem sub_hd {a b : Nat} (h : a < b) (hb : b ≤ D.length) : gx (sub D a b) 0 = gx D a := by rw [sub_cons h hb]; rfl
theorem sub_63 {a : Nat} (ha : hen D ≤ a) (hb : a ≤ bmk D) (hl : bmk D ≤ D.length) : ∀ x, x ∈ sub D (hen D) a → ¬ x = 63 := by
  intro x hx
  obtain ⟨j, hj, rfl⟩ := List.getElem_of_mem hx
  have hl2 := sub_len (L := D) (f := hen D) (t := a) (by omega)
  rw [← gx_eq hj, gx_sub (by omega) (by omega)]
  exact of_decide_eq_true (fw_in (p := nev 63) (L := D) (f := hen D) (t := D.length) (j := hen D + j) (by omega) (by show hen D + j < bmk D; omega))
theorem of_mem {M : List Int32} (h : ∀ x, x ∈ M → ¬ x = 63) : ∀ j, j < M.length → ¬ gx M j = 63 := fun j hj => h _ (gx_mem hj)
theorem bes_eq (ho : okD D) (hft : f ≤ t) (ht : t ≤ L.length) : cfn (sub D 0 (hen D)) (cbP L f t D ++ uf L f t) = fin (sub D 7 (hen D)) (bsP L f t D) (bsQ L f t D) := by
  have hq := fw_bd (p := nev 63) (L := L) hft
  have hbm := ho.bm
  have h47 := ho.h47
  have hhl := ho.2.2.1
  rw [ho.site]
  have key : cbP L f t D ++ uf L f t = bsP L f t D ++ (bsQ L f t D).getD [] ∧ (∀ x, x ∈ bsP L f t D → ¬ x = 63) ∧ ((bsQ L f t D).getD [] = [] ∨ gx ((bsQ L f t D).getD []) 0 = 63) ∧ (bsP L f t D = [] ∨ gx (bsP L f t D) 0 = 47) := by
    by_cases h1 : fw (nev 63) L f t = f
    · have eP : bsP L f t D = sub D (hen D) (bmk D) := by unfold bsP; rw [if_pos h1]; exact ho.p1
      have k2 : ∀ x, x ∈ sub D (hen D) (bmk D) → ¬ x = 63 := sub_63 (by omega) (Nat.le_refl _) hbm.2.1
      have k4 : gx (sub D (hen D) (bmk D)) 0 = 47 := by rw [sub_hd hbm.1 hbm.2.1]; exact h47
      by_cases h2 : f = t
      · have eC : cbP L f t D = sub D (hen D) D.length := by unfold cbP; rw [if_pos h1, if_pos (h1.trans h2)]
        rw [eC, eP, uf_nil (Nat.le_of_eq h2.symm), List.append_nil]
        by_cases h3 : bmk D < D.length
        · have eQ : bsQ L f t D = some (sub D (bmk D) D.length) := by unfold bsQ; rw [if_neg (by omega), if_pos ⟨h1, h3⟩, ho.p2]
          rw [eQ]
          refine ⟨sub_app (by omega) (by omega), k2, Or.inr ?_, Or.inr k4⟩
          show gx (sub D (bmk D) D.length) 0 = 63
          rw [sub_hd h3 (Nat.le_refl _)]; exact hbm.2.2 h3
        · have eQ : bsQ L f t D = none := by unfold bsQ; rw [if_neg (by omega), if_neg (fun h9 => h3 h9.2)]
          rw [eQ]
          refine ⟨?_, k2, Or.inl rfl, Or.inr k4⟩
          show sub D (hen D) D.length = sub D (hen D) (bmk D) ++ []
          rw [List.append_nil, show bmk D = D.length by omega]
      · have eC : cbP L f t D = sub D (hen D) (bmk D) := by unfold cbP; rw [if_pos h1, if_neg (fun h9 => h2 (h1.symm.trans h9))]
        have eQ : bsQ L f t D = some (uf L f t) := by unfold bsQ; rw [if_pos (by omega), h1]
        rw [eC, eP, eQ]
        refine ⟨rfl, k2, Or.inr ?_, Or.inr k4⟩
        show gx (uf L f t) 0 = 63
        have hf63 : gx L f = 63 := by have := fw_63 (L := L) (f := f) (t := t) (by omega); rw [h1] at this; exact this
        rw [uf_hd (by omega) (by rw [hf63]; decide)]; exact hf63
    · have eQ : (bsQ L f t D).getD [] = uf L (fw (nev 63) L f t) t := by
        unfold bsQ
        by_cases h9 : fw (nev 63) L f t < t
        · rw [if_pos h9]; rfl
        · rw [if_neg h9, if_neg (fun h8 => h1 h8.1), uf_nil (by omega)]; rfl
      rw [eQ]
      by_cases h2 : gx L f = 47
      · have eC : cbP L f t D = [] := by unfold cbP; rw [if_neg h1, if_pos h2]
        have eP : bsP L f t D = uf L f (fw (nev 63) L f t) := by unfold bsP; rw [if_neg h1, if_pos h2]
        rw [eC, eP, List.nil_append]
        refine ⟨uf_q hft, uf_63 (fw (nev 63) L f t - f) f (Nat.le_refl _) (fun i a b => of_decide_eq_true (fw_in (p := nev 63) a b)), uf_hq hft, Or.inr ?_⟩
        rw [uf_hd (by omega) (by rw [h2]; decide)]; exact h2
      · have hlb := bw_bd (p := nev 47) (L := D) (f := hen D) (t := bmk D) (by omega)
        have hlh := bw_sl (D := D) (f := hen D) (t := bmk D) h47 hbm.1
        have hlo : hen D < bw (nev 47) D (hen D) (bmk D) → nev 47 (gx D (bw (nev 47) D (hen D) (bmk D) - 1)) = false := bw_out (p := nev 47) (L := D) (f := hen D) (bmk D - hen D)
        have hl47 : gx D (bw (nev 47) D (hen D) (bmk D) - 1) = 47 := Decidable.not_not.mp (fun h8 => by
          have h9 := hlo hlh
          rw [nev_t h8] at h9
          cases h9)
        have eC : cbP L f t D = sub D (hen D) (bw (nev 47) D (hen D) (bmk D)) := by unfold cbP; rw [if_neg h1, if_neg h2]
        have eU : uf D (hen D) (bw (nev 47) D (hen D) (bmk D)) = sub D (hen D) (bw (nev 47) D (hen D) (bmk D)) := nfm_cut (a := 0) ho.2.2.2.2.2.2 (by omega) hl47 (by omega) (bw (nev 47) D (hen D) (bmk D) - hen D) (hen D) (Nat.le_refl _) (by omega)
        have eP : bsP L f t D = sub D (hen D) (bw (nev 47) D (hen D) (bmk D)) ++ uf L f (fw (nev 63) L f t) := by unfold bsP; rw [if_neg h1, if_neg h2, eU]
        rw [eC, eP]
        refine ⟨?_, ?_, uf_hq hft, Or.inr ?_⟩
        · rw [List.append_assoc, ← uf_q hft]
        · intro x hx
          rcases List.mem_append.mp hx with q | q
          · exact sub_63 (by omega) hlb.2 hbm.2.1 x q
          · exact uf_63 (fw (nev 63) L f t - f) f (Nat.le_refl _) (fun i a b => of_decide_eq_true (fw_in (p := nev 63) a b)) x q
        · rw [gx_app_l (by rw [sub_len (by omega)]; omega), sub_hd hlh (by omega)]; exact h47
  obtain ⟨k1, k2, k3, k4⟩ := key
  rw [k1]
  exact cfn_eq (of_mem k2) k3 k4
theorem crs_eq {bo : Option (List Int32)} (hb : ∀ D, bo = some D → okD D) (hft : f ≤ t) (ht : t ≤ L.length) : crs L f t bo = mrs L f t bo := by
  by_cases h : bgw 2 L f t = true
  · have h2 := bgw_sl.mp h
    unfold crs mrs
    rw [if_pos h, if_pos h2, cho_eq (by omega) ht]
    cases hm : mho L (f + 2) t with
    | none => rfl
    | some H =>
      show cfn (h7 ++ H) (uf L (hst L (f + 2) t) t) = fin H (uf L (hst L (f + 2) t) (fw (nev 63) L (hst L (f + 2) t) t)) (if fw (nev 63) L (hst L (f + 2) t) t < t then some (uf L (fw (nev 63) L (hst L (f + 2) t) t) t) else none)
      have hsb := hst_bd (L := L) (f := f + 2) (t := t) (by omega)
      have hmb := nmin_bd (fw (nev 47) L (f + 2) t) (fw (nev 63) L (f + 2) t)
      rw [show Nat.min (fw (nev 47) L (f + 2) t) (fw (nev 63) L (f + 2) t) = hst L (f + 2) t from rfl] at hmb
      have hq := fw_bd (p := nev 63) (L := L) (f := hst L (f + 2) t) (t := t) hsb.2
      have eQ : (if fw (nev 63) L (hst L (f + 2) t) t < t then some (uf L (fw (nev 63) L (hst L (f + 2) t) t) t) else none).getD [] = uf L (fw (nev 63) L (hst L (f + 2) t) t) t := by
        by_cases h9 : fw (nev 63) L (hst L (f + 2) t) t < t
        · rw [if_pos h9]; rfl
        · rw [if_neg h9, uf_nil (by omega)]; rfl
      have k4 : uf L (hst L (f + 2) t) (fw (nev 63) L (hst L (f + 2) t) t) = [] ∨ gx (uf L (hst L (f + 2) t) (fw (nev 63) L (hst L (f + 2) t) t)) 0 = 47 := by
        by_cases h9 : hst L (f + 2) t < fw (nev 63) L (hst L (f + 2) t) t
        · have hne : ¬ gx L (hst L (f + 2) t) = 63 := of_decide_eq_true (fw_in (p := nev 63) (L := L) (f := hst L (f + 2) t) (t := t) (Nat.le_refl _) h9)
          have h47 : gx L (hst L (f + 2) t) = 47 := by
            rcases hmb.2.2 with q | q
            · have ho := fw_out (p := nev 47) (L := L) (f := f + 2) (t := t) (by omega)
              rw [← q] at ho
              exact Decidable.not_not.mp (fun h8 => by rw [nev_t h8] at ho; cases ho)
            · exfalso
              have := fw_63 (L := L) (f := f + 2) (t := t) (by omega)
              rw [← q] at this
              exact hne this
          exact Or.inr (by rw [uf_hd h9 (by rw [h47]; decide)]; exact h47)
        · exact Or.inl (uf_nil (by omega))
      have hc := cfn_eq (H := H) (q := (if fw (nev 63) L (hst L (f + 2) t) t < t then some (uf L (fw (nev 63) L (hst L (f + 2) t) t) t) else none)) (uf_n63 hsb.2) (by rw [eQ]; exact uf_hq hsb.2) k4
      rw [eQ, ← uf_q hsb.2] at hc
      exact hc
  · have h2 : ¬ (f + 1 < t ∧ gx L f = 47 ∧ gx L (f + 1) = 47) := fun h9 => h (bgw_sl.mpr h9)
    cases bo with
    | none =>
      rw [mrs_n h2]
      unfold crs
      rw [if_neg h]
    | some D =>
      rw [mrs_s h2, ← bes_eq (hb D rfl) hft ht]
      unfold crs
      rw [if_neg h]
theorem crt_eq {bo : Option (List Int32)} (hb : ∀ D, bo = some D → okD D) (hft : f ≤ t) (ht : t ≤ L.length) : crt L f t bo = mrt L f t bo := by
  have hc := fw_bd (p := nev 58) (L := L) hft
  have h1 := fw_bd (p := nev 47) (L := L) hft
  have h2 := fw_bd (p := nev 63) (L := L) hft
  have hm := nmin_bd (fw (nev 47) L f t) (fw (nev 63) L f t)
  unfold crt mrt
  by_cases ha : alp (fun j => isRef L j t) f t = true
  · rw [if_pos ha, if_pos ha]
    by_cases hcc : fw (nev 58) L f t < fw (nev 47) L f t ∧ fw (nev 58) L f t < fw (nev 63) L f t
    · rw [if_pos hcc, if_pos (show fw (nev 58) L f t < Nat.min (fw (nev 47) L f t) (fw (nev 63) L f t) by omega), isw_ht]
      by_cases hw : isw 29 L f (fw (nev 58) L f t) = true ∧ fw (nev 58) L f t + 2 < t ∧ gx L (fw (nev 58) L f t + 1) = 47 ∧ gx L (fw (nev 58) L f t + 2) = 47
      · rw [if_pos hw, if_pos ⟨hw.1, bgw_sl.mpr ⟨by omega, hw.2.2.1, hw.2.2.2⟩⟩]
        exact crs_eq hb (by omega) ht
      · rw [if_neg hw, if_neg (fun h9 => by
          have q := bgw_sl.mp h9.2
          exact hw ⟨h9.1, by omega, q.2.1, q.2.2⟩)]
    · rw [if_neg hcc, if_neg (show ¬ fw (nev 58) L f t < Nat.min (fw (nev 47) L f t) (fw (nev 63) L f t) by omega)]
      exact crs_eq hb hft ht
  · rw [if_neg ha, if_neg ha]
/-- the class makes of every reference what the model makes of it -/
theorem crr_eq {bo : Option (List Int32)} (hb : ∀ D, bo = some D → okD D) (hft : f ≤ t) (ht : t ≤ L.length) : crr L f t bo = mrr L f t bo := by
  have h1 := fw_bd (p := isBl) (L := L) hft
  have h2 := bw_bd (p := isBl) (L := L) (f := fw isBl L f t) (t := t) h1.2
  have h3 := fw_bd (p := nev 35) (L := L) (f := fw isBl L f t) (t := bw isBl L (fw isBl L f t) t) h2.1
  exact crt_eq hb h3.1 (by omega)
end RSF
