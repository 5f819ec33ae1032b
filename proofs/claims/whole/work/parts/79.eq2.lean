/-! ===== paths: the class's are the model's ===== -/
theorem fw_cg {p : Int32 → Bool} {L M : List Int32} {t : Nat} : ∀ n f : Nat, f + n = t → (∀ j, f ≤ j → j < t → gx L j = gx M j) → fw p L f t = fw p M f t
  | 0, f, h, _ => by rw [fw_0 (by omega), fw_0 (by omega)]
  | n + 1, f, h, hg => by
    have e := hg f (Nat.le_refl _) (by omega)
    by_cases hp : p (gx L f) = true
    · rw [fw_t (by omega) hp, fw_t (L := M) (by omega) (by rw [← e]; exact hp)]
      exact fw_cg n (f + 1) (by omega) (fun j a b => hg j (by omega) b)
    · rw [fw_f hp, fw_f (L := M) (by rw [← e]; exact hp)]
theorem toLo_46 {x : Int32} : toLo x = 46 ↔ x = 46 := by
  by_cases hu : 65 ≤ x.toInt ∧ x.toInt ≤ 90
  · have h1 := (toLo_i x).1 hu
    constructor
    · intro h
      rw [h] at h1
      have : ((46 : Int32)).toInt = 46 := by decide
      omega
    · intro h
      rw [h] at hu
      have : ((46 : Int32)).toInt = 46 := by decide
      omega
  · rw [(toLo_i x).2 hu]
theorem dts_iff {M : List Int32} {k f e : Nat} : dts M k f e = true ↔ e - f = k ∧ ∀ j, f ≤ j → j < e → gx M j = 46 := by
  unfold dts
  rw [Bool.and_eq_true, decide_eq_true_eq, alp_iff]
  constructor
  · rintro ⟨a, b⟩
    exact ⟨a, fun j c d => of_decide_eq_true (b j c d)⟩
  · rintro ⟨a, b⟩
    exact ⟨a, fun j c d => decide_eq_true (b j c d)⟩
theorem isw_dts1 {P M : List Int32} {f e : Nat} (hg : ∀ j, f ≤ j → j < e → gx P j = gx M j) : isw 7 P f e = dts M 1 f e := by
  apply Bool.eq_iff_iff.mpr
  rw [dts_iff]
  unfold isw
  rw [decide_eq_true_eq, show cln 7 = 1 from rfl]
  constructor
  · rintro ⟨a, b⟩
    refine ⟨a, fun j c d => ?_⟩
    have h0 := toLo_46.mp (b 0 (by omega))
    rw [← hg j c d, show j = f + 0 by omega]; exact h0
  · rintro ⟨a, b⟩
    refine ⟨a, fun j hj => ?_⟩
    rw [show j = 0 by omega]
    exact toLo_46.mpr (by rw [hg (f + 0) (by omega) (by omega)]; exact b (f + 0) (by omega) (by omega))
theorem isw_dts2 {P M : List Int32} {f e : Nat} (hg : ∀ j, f ≤ j → j < e → gx P j = gx M j) : isw 8 P f e = dts M 2 f e := by
  apply Bool.eq_iff_iff.mpr
  rw [dts_iff]
  unfold isw
  rw [decide_eq_true_eq, show cln 8 = 2 from rfl]
  constructor
  · rintro ⟨a, b⟩
    refine ⟨a, fun j c d => ?_⟩
    rw [← hg j c d]
    rcases (by omega : j = f + 0 ∨ j = f + 1) with q | q
    · rw [q]; exact toLo_46.mp (b 0 (by omega))
    · rw [q]; exact toLo_46.mp (b 1 (by omega))
  · rintro ⟨a, b⟩
    refine ⟨a, fun j hj => ?_⟩
    rcases (by omega : j = 0 ∨ j = 1) with q | q
    · rw [q]; exact toLo_46.mpr (by rw [hg (f + 0) (by omega) (by omega)]; exact b (f + 0) (by omega) (by omega))
    · rw [q]; exact toLo_46.mpr (by rw [hg (f + 1) (by omega) (by omega)]; exact b (f + 1) (by omega) (by omega))
theorem sub_l {M Q : List Int32} {f e : Nat} (h : e ≤ M.length) : sub (M ++ Q) f e = sub M f e := by
  by_cases hf : f ≤ e
  · apply eq_gx.mpr
    rw [sub_len (by rw [List.length_append]; omega), sub_len h]
    refine ⟨rfl, fun j hj => ?_⟩
    rw [gx_sub hj (by rw [List.length_append]; omega), gx_sub hj h, gx_app_l (by omega)]
  · rw [sub_nil (by omega), sub_nil (by omega)]
theorem cst_nst {M Q : List Int32} : ∀ (n f : Nat) (Ss : List (List Int32)) (b : Bool), 1 ≤ f → (f ≤ M.length → gx M (f - 1) = 47) → cst (M ++ Q) M.length n f Ss b = nst M n f Ss b
  | 0, f, Ss, b, _, _ => rfl
  | n + 1, f, Ss, b, h1, h2 => by
    unfold cst nst
    by_cases hf : f ≤ M.length
    · have hb := fw_bd (p := nev 47) (L := M) hf
      have ho := fw_out (p := nev 47) (L := M) (f := f) (t := M.length)
      have hg : ∀ j, f ≤ j → j < M.length → gx (M ++ Q) j = gx M j := fun j _ d => gx_app_l d
      have he : fw (nev 47) (M ++ Q) f M.length = fw (nev 47) M f M.length := fw_cg (M.length - f) f (by omega) hg
      rw [if_pos hf, if_pos hf, he, isw_dts1 (M := M) (fun j a b => hg j a (by omega)), isw_dts2 (M := M) (fun j a b => hg j a (by omega))]
      have hnx : fw (nev 47) M f M.length + 1 ≤ M.length → gx M (fw (nev 47) M f M.length + 1 - 1) = 47 := fun h9 => by
        rw [Nat.add_sub_cancel]
        exact Decidable.not_not.mp (fun h8 => by
          have := ho (by omega)
          rw [nev_t h8] at this
          cases this)
      have hsg : (47 :: sub (M ++ Q) f (fw (nev 47) M f M.length)) = sub M (f - 1) (fw (nev 47) M f M.length) := by
        rw [sub_cons (L := M) (f := f - 1) (by omega) hb.2, h2 hf, show f - 1 + 1 = f by omega, sub_l hb.2]
      rw [hsg, cst_nst n _ Ss.dropLast true (by omega) hnx, cst_nst n _ Ss true (by omega) hnx, cst_nst n _ _ false (by omega) hnx]
    · rw [if_neg hf, if_neg hf]
theorem cpt_eq {M Q : List Int32} (h1 : ∀ j, j < M.length → ¬ gx M j = 63) (h2 : Q = [] ∨ gx Q 0 = 63) : cpt (M ++ Q) = M.length := by
  unfold cpt
  refine fw_eq (Nat.zero_le _) (by rw [List.length_append]; omega) (fun j _ b => ?_) (fun h9 => ?_)
  · rw [gx_app_l b]; exact nev_t (h1 j b)
  · rw [gx_app_r (Nat.le_refl _), Nat.sub_self]
    rcases h2 with q | q
    · rw [q, List.append_nil] at h9; exact absurd h9 (by omega)
    · exact nev_f q
theorem cpn_eq {M Q : List Int32} (h1 : ∀ j, j < M.length → ¬ gx M j = 63) (h2 : Q = [] ∨ gx Q 0 = 63) (h3 : M = [] ∨ gx M 0 = 47) : cpn (M ++ Q) = ntx (pz M) ∧ sub (M ++ Q) (cpt (M ++ Q)) (M ++ Q).length = Q := by
  have hc := cpt_eq h1 h2
  constructor
  · unfold cpn
    rw [hc]
    by_cases h0 : M.length = 0
    · have hM : M = [] := List.length_eq_zero_iff.mp h0
      subst hM
      rfl
    · have hz : pz M = M := if_neg h0
      rw [hz, show decide (M.length = 0) = false from decide_eq_false h0, cst_nst M.length 1 [] false (by omega) (fun _ => by
        rcases h3 with q | q
        · rw [q] at h0; exact absurd rfl h0
        · exact q)]
      rfl
  · rw [hc]
    apply eq_gx.mpr
    rw [sub_len (Nat.le_refl _), List.length_append]
    refine ⟨by omega, fun j hj => ?_⟩
    rw [gx_sub (by omega) (by rw [List.length_append]; exact Nat.le_refl _), gx_app_r (by omega), Nat.add_sub_cancel_left]
/-- the address that comes of it is the same -/
theorem cfn_eq {H M : List Int32} {q : Option (List Int32)} (h1 : ∀ j, j < M.length → ¬ gx M j = 63) (h2 : q.getD [] = [] ∨ gx (q.getD []) 0 = 63) (h3 : M = [] ∨ gx M 0 = 47) : cfn (h7 ++ H) (M ++ q.getD []) = fin H M q := by
  obtain ⟨a, b⟩ := cpn_eq h1 h2 h3
  unfold cfn fin
  rw [a, b]
  have hl : (h7 ++ H ++ ntx (pz M) ++ q.getD []).length = 7 + H.length + (ntx (pz M)).length + (q.getD []).length := by
    rw [List.length_append, List.length_append, List.length_append]
    rfl
  rw [hl]
