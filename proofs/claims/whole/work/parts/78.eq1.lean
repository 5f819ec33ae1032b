/-! ===== hosts and ports: the class's are the model's ===== -/
section EQH
variable {L : List Int32} {f t g e : Nat}
theorem dgs_z (h : gx L g = 48) : ∀ n : Nat, dgs L g (n + 1) = dgs L (g + 1) n
  | 0 => by
    show 10 * 0 + dg (gx L (g + 0)) = 0
    rw [Nat.add_zero, h]
    decide
  | n + 1 => by
    show 10 * dgs L g (n + 1) + dg (gx L (g + (n + 1))) = 10 * dgs L (g + 1) n + dg (gx L (g + 1 + n))
    rw [dgs_z h n, show g + (n + 1) = g + 1 + n by omega]
theorem dgs_s (he : 1 ≤ e) : ∀ n g : Nat, g + n = e - 1 → dgs L g (e - g) = dgs L (fw zB L g (e - 1)) (e - fw zB L g (e - 1))
  | 0, g, h => by rw [fw_0 (by omega)]
  | n + 1, g, h => by
    by_cases hz : zB (gx L g) = true
    · rw [fw_t (by omega) hz, ← dgs_s he n (g + 1) (by omega), show e - g = (e - (g + 1)) + 1 by omega]
      exact dgs_z (of_decide_eq_true hz) _
    · rw [fw_f hz]
theorem di_n {v : Int32} (h : isDi v = true) : v = nI (48 + dg v) ∧ dg v ≤ 9 := by
  have h1 := isDi_iff.mp h
  have e := i_nat (v := v) (by omega)
  refine ⟨?_, by unfold dg; omega⟩
  rw [show 48 + dg v = v.toInt.toNat by unfold dg; omega]
  exact e
theorem pd_1 {z : Nat} (hl : z + 1 ≤ L.length) (hd : ∀ j, z ≤ j → j < z + 1 → isDi (gx L j) = true) : sub L z (z + 1) = pdg (dgs L z 1) := by
  have d0 := di_n (hd (z + 0) (by omega) (by omega))
  have hv : dgs L z 1 = 1 * dg (gx L (z + 0)) := by
    show 10 * (0) + dg (gx L (z + 0)) = _
    omega
  rw [sub_cons (L := L) (f := z) (t := z + 1) (by omega) hl, sub_nil (Nat.le_refl _)]
  unfold pdg
  rw [if_pos (by omega)]
  have k0 : dgs L z 1 / 1 % 10 = dg (gx L (z + 0)) := by rw [hv]; omega
  rw [k0, ← d0.1]
  rfl
theorem pd_2 {z : Nat} (hl : z + 2 ≤ L.length) (hd : ∀ j, z ≤ j → j < z + 2 → isDi (gx L j) = true) (hz : ¬ gx L z = 48) : sub L z (z + 2) = pdg (dgs L z 2) := by
  have d0 := di_n (hd (z + 0) (by omega) (by omega))
  have d1 := di_n (hd (z + 1) (by omega) (by omega))
  have hv : dgs L z 2 = 10 * dg (gx L (z + 0)) + 1 * dg (gx L (z + 1)) := by
    show 10 * (10 * (0) + dg (gx L (z + 0))) + dg (gx L (z + 1)) = _
    omega
  have hz0 : 1 ≤ dg (gx L (z + 0)) := by
    rcases Nat.eq_zero_or_pos (dg (gx L (z + 0))) with q | q
    · have q2 := d0.1
      rw [q, Nat.add_zero] at q2
      exact absurd q2 hz
    · exact q
  rw [sub_cons (L := L) (f := z) (t := z + 2) (by omega) hl, sub_cons (L := L) (f := z + 1) (t := z + 2) (by omega) hl, sub_nil (Nat.le_refl _)]
  unfold pdg
  rw [if_neg (by omega), if_pos (by omega)]
  have k0 : dgs L z 2 / 10 % 10 = dg (gx L (z + 0)) := by rw [hv]; omega
  have k1 : dgs L z 2 / 1 % 10 = dg (gx L (z + 1)) := by rw [hv]; omega
  rw [k0, ← d0.1, k1, ← d1.1]
  rfl
theorem pd_3 {z : Nat} (hl : z + 3 ≤ L.length) (hd : ∀ j, z ≤ j → j < z + 3 → isDi (gx L j) = true) (hz : ¬ gx L z = 48) : sub L z (z + 3) = pdg (dgs L z 3) := by
  have d0 := di_n (hd (z + 0) (by omega) (by omega))
  have d1 := di_n (hd (z + 1) (by omega) (by omega))
  have d2 := di_n (hd (z + 2) (by omega) (by omega))
  have hv : dgs L z 3 = 100 * dg (gx L (z + 0)) + 10 * dg (gx L (z + 1)) + 1 * dg (gx L (z + 2)) := by
    show 10 * (10 * (10 * (0) + dg (gx L (z + 0))) + dg (gx L (z + 1))) + dg (gx L (z + 2)) = _
    omega
  have hz0 : 1 ≤ dg (gx L (z + 0)) := by
    rcases Nat.eq_zero_or_pos (dg (gx L (z + 0))) with q | q
    · have q2 := d0.1
      rw [q, Nat.add_zero] at q2
      exact absurd q2 hz
    · exact q
  rw [sub_cons (L := L) (f := z) (t := z + 3) (by omega) hl, sub_cons (L := L) (f := z + 1) (t := z + 3) (by omega) hl, sub_cons (L := L) (f := z + 2) (t := z + 3) (by omega) hl, sub_nil (Nat.le_refl _)]
  unfold pdg
  rw [if_neg (by omega), if_neg (by omega), if_pos (by omega)]
  have k0 : dgs L z 3 / 100 % 10 = dg (gx L (z + 0)) := by rw [hv]; omega
  have k1 : dgs L z 3 / 10 % 10 = dg (gx L (z + 1)) := by rw [hv]; omega
  have k2 : dgs L z 3 / 1 % 10 = dg (gx L (z + 2)) := by rw [hv]; omega
  rw [k0, ← d0.1, k1, ← d1.1, k2, ← d2.1]
  rfl
theorem pd_4 {z : Nat} (hl : z + 4 ≤ L.length) (hd : ∀ j, z ≤ j → j < z + 4 → isDi (gx L j) = true) (hz : ¬ gx L z = 48) : sub L z (z + 4) = pdg (dgs L z 4) := by
  have d0 := di_n (hd (z + 0) (by omega) (by omega))
  have d1 := di_n (hd (z + 1) (by omega) (by omega))
  have d2 := di_n (hd (z + 2) (by omega) (by omega))
  have d3 := di_n (hd (z + 3) (by omega) (by omega))
  have hv : dgs L z 4 = 1000 * dg (gx L (z + 0)) + 100 * dg (gx L (z + 1)) + 10 * dg (gx L (z + 2)) + 1 * dg (gx L (z + 3)) := by
    show 10 * (10 * (10 * (10 * (0) + dg (gx L (z + 0))) + dg (gx L (z + 1))) + dg (gx L (z + 2))) + dg (gx L (z + 3)) = _
    omega
  have hz0 : 1 ≤ dg (gx L (z + 0)) := by
    rcases Nat.eq_zero_or_pos (dg (gx L (z + 0))) with q | q
    · have q2 := d0.1
      rw [q, Nat.add_zero] at q2
      exact absurd q2 hz
    · exact q
  rw [sub_cons (L := L) (f := z) (t := z + 4) (by omega) hl, sub_cons (L := L) (f := z + 1) (t := z + 4) (by omega) hl, sub_cons (L := L) (f := z + 2) (t := z + 4) (by omega) hl, sub_cons (L := L) (f := z + 3) (t := z + 4) (by omega) hl, sub_nil (Nat.le_refl _)]
  unfold pdg
  rw [if_neg (by omega), if_neg (by omega), if_neg (by omega), if_pos (by omega)]
  have k0 : dgs L z 4 / 1000 % 10 = dg (gx L (z + 0)) := by rw [hv]; omega
  have k1 : dgs L z 4 / 100 % 10 = dg (gx L (z + 1)) := by rw [hv]; omega
  have k2 : dgs L z 4 / 10 % 10 = dg (gx L (z + 2)) := by rw [hv]; omega
  have k3 : dgs L z 4 / 1 % 10 = dg (gx L (z + 3)) := by rw [hv]; omega
  rw [k0, ← d0.1, k1, ← d1.1, k2, ← d2.1, k3, ← d3.1]
  rfl
theorem pd_5 {z : Nat} (hl : z + 5 ≤ L.length) (hd : ∀ j, z ≤ j → j < z + 5 → isDi (gx L j) = true) (hz : ¬ gx L z = 48) : sub L z (z + 5) = pdg (dgs L z 5) := by
  have d0 := di_n (hd (z + 0) (by omega) (by omega))
  have d1 := di_n (hd (z + 1) (by omega) (by omega))
  have d2 := di_n (hd (z + 2) (by omega) (by omega))
  have d3 := di_n (hd (z + 3) (by omega) (by omega))
  have d4 := di_n (hd (z + 4) (by omega) (by omega))
  have hv : dgs L z 5 = 10000 * dg (gx L (z + 0)) + 1000 * dg (gx L (z + 1)) + 100 * dg (gx L (z + 2)) + 10 * dg (gx L (z + 3)) + 1 * dg (gx L (z + 4)) := by
    show 10 * (10 * (10 * (10 * (10 * (0) + dg (gx L (z + 0))) + dg (gx L (z + 1))) + dg (gx L (z + 2))) + dg (gx L (z + 3))) + dg (gx L (z + 4)) = _
    omega
  have hz0 : 1 ≤ dg (gx L (z + 0)) := by
    rcases Nat.eq_zero_or_pos (dg (gx L (z + 0))) with q | q
    · have q2 := d0.1
      rw [q, Nat.add_zero] at q2
      exact absurd q2 hz
    · exact q
  rw [sub_cons (L := L) (f := z) (t := z + 5) (by omega) hl, sub_cons (L := L) (f := z + 1) (t := z + 5) (by omega) hl, sub_cons (L := L) (f := z + 2) (t := z + 5) (by omega) hl, sub_cons (L := L) (f := z + 3) (t := z + 5) (by omega) hl, sub_cons (L := L) (f := z + 4) (t := z + 5) (by omega) hl, sub_nil (Nat.le_refl _)]
  unfold pdg
  rw [if_neg (by omega), if_neg (by omega), if_neg (by omega), if_neg (by omega)]
  have k0 : dgs L z 5 / 10000 % 10 = dg (gx L (z + 0)) := by rw [hv]; omega
  have k1 : dgs L z 5 / 1000 % 10 = dg (gx L (z + 1)) := by rw [hv]; omega
  have k2 : dgs L z 5 / 100 % 10 = dg (gx L (z + 2)) := by rw [hv]; omega
  have k3 : dgs L z 5 / 10 % 10 = dg (gx L (z + 3)) := by rw [hv]; omega
  have k4 : dgs L z 5 / 1 % 10 = dg (gx L (z + 4)) := by rw [hv]; omega
  rw [k0, ← d0.1, k1, ← d1.1, k2, ← d2.1, k3, ← d3.1, k4, ← d4.1]
  rfl
theorem pd_all (hg : g < e) (h5 : e - g ≤ 5) (he : e ≤ L.length) (hd : ∀ j, g ≤ j → j < e → isDi (gx L j) = true) : sub L (fw zB L g (e - 1)) e = pdg (dgs L g (e - g)) := by
  have hb := fw_bd (p := zB) (L := L) (f := g) (t := e - 1) (by omega)
  have ho := fw_out (p := zB) (L := L) (f := g) (t := e - 1)
  rw [dgs_s (by omega) (e - 1 - g) g (by omega)]
  generalize fw zB L g (e - 1) = z at *
  have hd2 : ∀ j, z ≤ j → j < e → isDi (gx L j) = true := fun j a b => hd j (by omega) b
  have hz : z + 1 < e → ¬ gx L z = 48 := fun h9 h8 => by
    have := ho (by omega)
    rw [show zB (gx L z) = true from decide_eq_true h8] at this
    cases this
  rcases (by omega : e = z + 1 ∨ e = z + 2 ∨ e = z + 3 ∨ e = z + 4 ∨ e = z + 5) with q | q | q | q | q
  · subst q
    rw [show z + 1 - z = 1 by omega]
    exact pd_1 he hd2
  · subst q
    rw [show z + 2 - z = 2 by omega]
    exact pd_2 he hd2 (hz (by omega))
  · subst q
    rw [show z + 3 - z = 3 by omega]
    exact pd_3 he hd2 (hz (by omega))
  · subst q
    rw [show z + 4 - z = 4 by omega]
    exact pd_4 he hd2 (hz (by omega))
  · subst q
    rw [show z + 5 - z = 5 by omega]
    exact pd_5 he hd2 (hz (by omega))
theorem ho_58 : hoB 58 = false := by decide
theorem cho_eq (hft : f ≤ t) (ht : t ≤ L.length) : cho L f t = mho L f t := by
  have hsb := hst_bd (L := L) hft
  have hcb := fw_bd (p := nev 58) (L := L) (f := f) (t := hst L f t) hsb.1
  have hco := fw_out (p := nev 58) (L := L) (f := f) (t := hst L f t)
  have hci := fun j => fw_in (p := nev 58) (L := L) (f := f) (t := hst L f t) (j := j)
  have hkb := fw_bd (p := hoB) (L := L) (f := f) (t := hst L f t) hsb.1
  have hko := fw_out (p := hoB) (L := L) (f := f) (t := hst L f t)
  have hki := fun j => fw_in (p := hoB) (L := L) (f := f) (t := hst L f t) (j := j)
  have h58 : fw (nev 58) L f (hst L f t) < hst L f t → gx L (fw (nev 58) L f (hst L f t)) = 58 := fun h9 => Decidable.not_not.mp (fun h8 => by
    have := hco h9
    rw [nev_t h8] at this
    cases this)
  have hmb := nmin_bd (fw (nev 58) L f (hst L f t) + 1) (hst L f t)
  by_cases hh : isHo L f (fw (nev 58) L f (hst L f t)) = true
  · have hh2 := hh
    unfold isHo at hh2
    rw [Bool.and_eq_true, decide_eq_true_eq] at hh2
    obtain ⟨⟨a1, a2⟩, a3⟩ := hh2
    have a4 := alp_iff.mp a3
    have hk : hoE L f t = fw (nev 58) L f (hst L f t) := fw_eq hcb.1 hcb.2 a4 (fun h9 => by rw [h58 h9]; exact ho_58)
    unfold cho mho
    rw [if_pos hh, hk, if_neg (by omega)]
    unfold cpf
    by_cases hc : fw (nev 58) L f (hst L f t) = hst L f t
    · rw [show Nat.min (fw (nev 58) L f (hst L f t) + 1) (hst L f t) = hst L f t by omega, prt_80 rfl, if_pos hc]
      show some (_ ++ (if 80 = 80 then [] else _)) = _
      rw [if_pos rfl, List.append_nil]
    · rw [show Nat.min (fw (nev 58) L f (hst L f t) + 1) (hst L f t) = fw (nev 58) L f (hst L f t) + 1 by omega, if_neg hc]
      have g58 := h58 (by omega)
      generalize fw (nev 58) L f (hst L f t) = co at *
      generalize hst L f t = e at *
      unfold prt mpt
      by_cases h6 : e - co ≤ 6
      · rw [if_neg (show ¬ 5 < e - (co + 1) by omega), if_pos (show gx L co = 58 ∧ e - co ≤ 6 from ⟨g58, h6⟩)]
        by_cases hal : alp (fun j => isDi (gx L j)) (co + 1) e = true
        · rw [if_pos hal, if_pos hal]
          by_cases h1 : co + 1 = e
          · rw [if_pos h1, if_neg (show ¬ 65535 < dgs L (co + 1) (e - (co + 1)) by rw [show e - (co + 1) = 0 by omega]; show ¬ 65535 < 0; omega), if_neg (show ¬ (co + 1 < e ∧ ¬ dgs L (co + 1) (e - (co + 1)) = 80) by omega)]
            show some (_ ++ (if 80 = 80 then [] else _)) = some (_ ++ [])
            rw [if_pos rfl]
          · rw [if_neg h1]
            by_cases hv : 65535 < dgs L (co + 1) (e - (co + 1))
            · rw [if_pos hv, if_pos hv]
            · rw [if_neg hv, if_neg hv]
              by_cases h80 : dgs L (co + 1) (e - (co + 1)) = 80
              · rw [if_neg (show ¬ (co + 1 < e ∧ ¬ dgs L (co + 1) (e - (co + 1)) = 80) by omega)]
                show some (_ ++ (if dgs L (co + 1) (e - (co + 1)) = 80 then [] else _)) = some (_ ++ [])
                rw [if_pos h80]
              · rw [if_pos (show co + 1 < e ∧ ¬ dgs L (co + 1) (e - (co + 1)) = 80 from ⟨by omega, h80⟩)]
                show some (_ ++ (if dgs L (co + 1) (e - (co + 1)) = 80 then [] else _)) = some (_ ++ (58 :: pdg _))
                rw [if_neg h80, pd_all (g := co + 1) (by omega) (by omega) (by omega) (fun j a b => alp_iff.mp hal j a b)]
        · rw [if_neg hal, if_neg hal]
      · rw [if_pos (show 5 < e - (co + 1) by omega), if_neg (show ¬ (gx L co = 58 ∧ e - co ≤ 6) from fun h9 => h6 h9.2)]
  · unfold cho
    rw [if_neg hh]
    have hk9 : fw hoB L f (hst L f t) = hoE L f t := rfl
    rw [hk9] at hkb hko hki
    unfold mho
    by_cases h1 : hoE L f t = f ∨ 60 < hoE L f t - f
    · rw [if_pos h1]
    · rw [if_neg h1]
      have hlt : hoE L f t < fw (nev 58) L f (hst L f t) := by
        rcases Nat.lt_or_ge (hoE L f t) (fw (nev 58) L f (hst L f t)) with q | q
        · exact q
        · exfalso
          have hall : ∀ j, f ≤ j → j < fw (nev 58) L f (hst L f t) → hoB (gx L j) = true := fun j a b => hki j a (by omega)
          have hk : hoE L f t = fw (nev 58) L f (hst L f t) := fw_eq hcb.1 hcb.2 hall (fun h9 => by rw [h58 h9]; exact ho_58)
          apply hh
          unfold isHo
          rw [Bool.and_eq_true, decide_eq_true_eq]
          exact ⟨⟨by omega, by omega⟩, alp_iff.mpr hall⟩
      rw [if_neg (by omega)]
      have hne : ¬ gx L (hoE L f t) = 58 := of_decide_eq_true (hci (hoE L f t) hkb.1 hlt)
      have hm : mpt L (hoE L f t) (hst L f t) = none := by unfold mpt; rw [if_neg (fun h9 => hne h9.1)]
      rw [hm]
end EQH
