/-! ===== patterns: what is reached, and what the class does ===== -/
def anyU (R : Nat → Bool) : Nat → Bool
  | 0 => R 0
  | k + 1 => R (k + 1) || anyU R k
theorem anyU_iff {R : Nat → Bool} : ∀ k : Nat, anyU R k = true ↔ ∃ j, j ≤ k ∧ R j = true
  | 0 => ⟨fun h => ⟨0, Nat.le_refl _, h⟩, fun ⟨j, h1, h2⟩ => by obtain rfl : j = 0 := (by omega); exact h2⟩
  | k + 1 => by
    show (R (k + 1) || anyU R k) = true ↔ _
    rw [Bool.or_eq_true, anyU_iff k]
    constructor
    · rintro (h | ⟨j, h1, h2⟩)
      · exact ⟨k + 1, Nat.le_refl _, h⟩
      · exact ⟨j, by omega, h2⟩
    · rintro ⟨j, h1, h2⟩
      by_cases e : j = k + 1
      · exact Or.inl (by rw [← e]; exact h2)
      · exact Or.inr ⟨j, by omega, h2⟩
/-- one more byte of the pattern P -/
def mst (D P : List Int32) (b i : Nat) (R : Nat → Bool) : Nat → Bool := if gx P i = 42 then anyU R else if gx P i = 36 ∧ i + 1 = P.length then (fun k => R k && decide (b + k = D.length)) else (fun k => decide (1 ≤ k) && (R (k - 1) && decide (gx D (b + (k - 1)) = gx P i)))
/-- what the pattern's first bytes reach of the address D from b on -/
def mrc (D P : List Int32) (b : Nat) : Nat → (Nat → Bool)
  | 0 => fun k => decide (k = 0)
  | i + 1 => mst D P b i (mrc D P b i)
def mch (D P : List Int32) : Bool := anyU (mrc D P (hen D) P.length) (D.length - hen D)
section MCH
variable {D P : List Int32} {b f t to : Nat}
theorem mrc_star {i : Nat} (h : gx P i = 42) : mrc D P b (i + 1) = anyU (mrc D P b i) := if_pos h
theorem mrc_end {i : Nat} (h : gx P i = 36) (h2 : i + 1 = P.length) : mrc D P b (i + 1) = fun k => mrc D P b i k && decide (b + k = D.length) := by
  show mst D P b i (mrc D P b i) = _
  unfold mst
  rw [if_neg (by rw [h]; decide), if_pos ⟨h, h2⟩]
theorem mrc_lit {i : Nat} (h : ¬ gx P i = 42) (h2 : ¬ (gx P i = 36 ∧ i + 1 = P.length)) : mrc D P b (i + 1) = fun k => decide (1 ≤ k) && (mrc D P b i (k - 1) && decide (gx D (b + (k - 1)) = gx P i)) := by
  show mst D P b i (mrc D P b i) = _
  unfold mst
  rw [if_neg h, if_neg h2]
theorem mrc_none {i : Nat} (h : ∀ k, k ≤ D.length - b → mrc D P b i k = false) : ∀ k, k ≤ D.length - b → mrc D P b (i + 1) k = false := by
  intro k hk
  show mst D P b i (mrc D P b i) k = false
  unfold mst
  split
  · cases h9 : anyU (mrc D P b i) k with
    | false => rfl
    | true =>
      obtain ⟨j, h1, h2⟩ := (anyU_iff k).mp h9
      rw [h j (by omega)] at h2
      cases h2
  · split
    · show (mrc D P b i k && _) = false
      rw [h k hk]; rfl
    · show (_ && (mrc D P b i (k - 1) && _)) = false
      rw [h (k - 1) (by omega), Bool.false_and, Bool.and_false]
theorem mrc_none2 {i : Nat} (h : ∀ k, k ≤ D.length - b → mrc D P b i k = false) : ∀ m k, k ≤ D.length - b → mrc D P b (i + m) k = false
  | 0 => h
  | m + 1 => mrc_none (mrc_none2 h m)
theorem mch_none {i : Nat} (hi : i ≤ P.length) (h : ∀ k, k ≤ D.length - hen D → mrc D P (hen D) i k = false) : mch D P = false := by
  have h2 := mrc_none2 h (P.length - i)
  rw [show i + (P.length - i) = P.length by omega] at h2
  cases h9 : mch D P with
  | false => rfl
  | true =>
    obtain ⟨j, h1, h3⟩ := (anyU_iff _).mp h9
    rw [h2 j h1] at h3
    cases h3
/-- a piece without stars -/
theorem mrc_run (hto : ∀ i, i < to → ¬ (gx P i = 36 ∧ i + 1 = P.length)) : ∀ (m f : Nat), f + m ≤ to → (∀ j, f ≤ j → j < f + m → ¬ gx P j = 42) → ∀ k, mrc D P b (f + m) k = true ↔ m ≤ k ∧ mrc D P b f (k - m) = true ∧ ∀ j, j < m → gx D (b + (k - m + j)) = gx P (f + j)
  | 0, f, _, _, k => ⟨fun h => ⟨Nat.zero_le _, h, fun j hj => absurd hj (Nat.not_lt_zero j)⟩, fun h => h.2.1⟩
  | m + 1, f, h1, h2, k => by
    have ih := mrc_run hto m f (by omega) (fun j a c => h2 j a (by omega)) (k - 1)
    rw [show f + (m + 1) = f + m + 1 by omega, mrc_lit (h2 (f + m) (by omega) (by omega)) (hto (f + m) (by omega))]
    show (decide (1 ≤ k) && (mrc D P b (f + m) (k - 1) && decide (gx D (b + (k - 1)) = gx P (f + m)))) = true ↔ _
    rw [Bool.and_eq_true, Bool.and_eq_true, decide_eq_true_eq, decide_eq_true_eq, ih]
    constructor
    · rintro ⟨a1, ⟨a2, a3, a4⟩, a5⟩
      refine ⟨by omega, by rw [show k - (m + 1) = k - 1 - m by omega]; exact a3, fun j hj => ?_⟩
      by_cases e : j = m
      · rw [e, show k - (m + 1) + m = k - 1 by omega]; exact a5
      · rw [show k - (m + 1) + j = k - 1 - m + j by omega]; exact a4 j (by omega)
    · rintro ⟨a1, a2, a3⟩
      refine ⟨by omega, ⟨by omega, by rw [show k - 1 - m = k - (m + 1) by omega]; exact a2, fun j hj => ?_⟩, ?_⟩
      · rw [show k - 1 - m + j = k - (m + 1) + j by omega]; exact a3 j (by omega)
      · have := a3 m (by omega)
        rw [show k - (m + 1) + m = k - 1 by omega] at this
        exact this
/-- the piece [f, t) of P stands at a of D -/
def pst (D P : List Int32) (f t a : Nat) : Prop := sub P f t = sub D a (a + (t - f))
theorem pst_iff {a : Nat} (hft : f ≤ t) (ht : t ≤ P.length) (ha : a + (t - f) ≤ D.length) : pst D P f t a ↔ ∀ j, j < t - f → gx D (a + j) = gx P (f + j) := by
  unfold pst
  have := sub_eq_iff (L := P) (M := D) (t - f) f a (by omega) ha
  rw [show f + (t - f) = t by omega] at this
  rw [this]
  exact ⟨fun h j hj => (h j hj).symm, fun h j hj => (h j hj).symm⟩
def gsa (D P : List Int32) (f t a : Nat) : Bool := decide (a + (t - f) ≤ D.length ∧ sub P f t = sub D a (a + (t - f)))
def gfp (D P : List Int32) (f t a : Nat) : Nat := fx (fun z => !(decide (sub P f t = sub D z (z + (t - f))))) a (D.length + 1 - (t - f))
/-- the pieces behind the first -/
def gml (D P : List Int32) (to : Nat) (te st : Bool) : Nat → Nat → Nat → Bool
  | 0, _, _ => false
  | n + 1, a, pf => if pf ≤ to then (if te = true ∧ fw (nev 42) P pf to = to then (decide (a + (to - pf) ≤ D.length) && gsa D P pf to (D.length - (to - pf))) else if gfp D P pf (fw (nev 42) P pf to) a + (fw (nev 42) P pf to - pf) ≤ D.length then gml D P to te st n (gfp D P pf (fw (nev 42) P pf to) a + (fw (nev 42) P pf to - pf)) (fw (nev 42) P pf to + 1) else false) else (st || (!te || decide (a = D.length)))
def pte (P : List Int32) : Bool := decide (gx P (P.length - 1) = 36)
def pto (P : List Int32) : Nat := if pte P = true then P.length - 1 else P.length
def ppt (P : List Int32) : Nat := fw (nev 42) P 0 (pto P)
def gmt (D P : List Int32) : Bool := if gsa D P 0 (ppt P) (hen D) = true then gml D P (pto P) (pte P) (decide (ppt P < pto P)) (P.length + 1) (hen D + ppt P) (ppt P + 1) else false
theorem gfp_p {a : Nat} (h : gfp D P f t a + (t - f) ≤ D.length) : a ≤ gfp D P f t a ∧ pst D P f t (gfp D P f t a) := by
  have h1 : a ≤ gfp D P f t a := fx_ge a _
  have h2 := fx_out (P := fun z => !(decide (sub P f t = sub D z (z + (t - f))))) (f := a) (t := D.length + 1 - (t - f)) (by show gfp D P f t a < _; omega)
  refine ⟨h1, ?_⟩
  have h3 : decide (sub P f t = sub D (gfp D P f t a) (gfp D P f t a + (t - f))) = true := by
    cases h9 : decide (sub P f t = sub D (gfp D P f t a) (gfp D P f t a + (t - f))) with
    | true => rfl
    | false =>
      have h4 : (!(decide (sub P f t = sub D (gfp D P f t a) (gfp D P f t a + (t - f))))) = false := h2
      rw [h9] at h4
      cases h4
  show sub P f t = sub D (gfp D P f t a) (gfp D P f t a + (t - f))
  exact of_decide_eq_true h3
theorem gfp_l {a z : Nat} (ha : a ≤ z) (hz : z + (t - f) ≤ D.length) (hp : pst D P f t z) : gfp D P f t a ≤ z := by
  refine Nat.le_of_not_lt (fun h9 => ?_)
  have h2 := fx_in (P := fun z => !(decide (sub P f t = sub D z (z + (t - f))))) (f := a) (t := D.length + 1 - (t - f)) ha h9
  have h3 : (!(decide (sub P f t = sub D z (z + (t - f))))) = true := h2
  have hp2 : sub P f t = sub D z (z + (t - f)) := hp
  rw [decide_eq_true hp2] at h3
  cases h3
theorem fw_42 {pf : Nat} (h : fw (nev 42) P pf to < to) : gx P (fw (nev 42) P pf to) = 42 := Decidable.not_not.mp (fun h8 => by
  have ho := fw_out (p := nev 42) (L := P) (f := pf) (t := to) h
  rw [nev_t h8] at ho
  cases ho)
/-- behind a star all from a place on is reached -/
theorem gml_ok (hb : hen D ≤ D.length) (hto : ∀ i, i < to → ¬ (gx P i = 36 ∧ i + 1 = P.length)) (htl : to ≤ P.length) {te st : Bool} (hte : te = true → to + 1 = P.length ∧ gx P to = 36) (htf : te = false → to = P.length) (hst : st = true) : ∀ (n a pf : Nat), to + 2 - pf ≤ n → pf ≤ to + 1 → hen D ≤ a → a ≤ D.length → (pf ≤ to → ∀ k, k ≤ D.length - hen D → (mrc D P (hen D) pf k = true ↔ a ≤ hen D + k)) → (pf = to + 1 → te = false ∧ mch D P = true) → gml D P to te st n a pf = mch D P
  | 0, a, pf, hn, hpf, _, _, _, _ => absurd hn (by omega)
  | n + 1, a, pf, hn, hpf, ha1, ha2, hR, hE => by
    by_cases hp : pf ≤ to
    · have hfb := fw_bd (p := nev 42) (L := P) (f := pf) (t := to) hp
      have hfi : ∀ j, pf ≤ j → j < fw (nev 42) P pf to → ¬ gx P j = 42 := fun j h1 h2 => of_decide_eq_true (fw_in (p := nev 42) (L := P) h1 h2)
      have h42 := fun h9 => fw_42 (P := P) (to := to) (pf := pf) h9
      have hrun := mrc_run (D := D) (b := hen D) hto (fw (nev 42) P pf to - pf) pf (by omega) (fun j h1 h2 => hfi j h1 (by omega))
      rw [show pf + (fw (nev 42) P pf to - pf) = fw (nev 42) P pf to by omega] at hrun
      have hR := hR hp
      show (if pf ≤ to then _ else _) = _
      rw [if_pos hp]
      generalize fw (nev 42) P pf to = pt at *
      -- what is reached behind the piece
      have hpk : ∀ k, k ≤ D.length - hen D → (mrc D P (hen D) pt k = true ↔ pt - pf ≤ k ∧ a ≤ hen D + (k - (pt - pf)) ∧ pst D P pf pt (hen D + (k - (pt - pf)))) := by
        intro k hk
        rw [hrun k]
        refine and_congr_right (fun h1 => ?_)
        rw [hR (k - (pt - pf)) (by omega), pst_iff (D := D) hfb.1 (by omega) (by omega)]
        refine and_congr_right (fun _ => ?_)
        exact ⟨fun h j hj => by rw [Nat.add_assoc]; exact h j hj, fun h j hj => by have := h j hj; rw [Nat.add_assoc] at this; exact this⟩
      by_cases hc : te = true ∧ pt = to
      · rw [if_pos hc]
        have h2 := hte hc.1
        have hend := mrc_end (D := D) (P := P) (b := hen D) (i := to) h2.2 h2.1
        obtain rfl : pt = to := hc.2
        have key : mch D P = true ↔ mrc D P (hen D) pt (D.length - hen D) = true := by
          unfold mch
          rw [← h2.1, hend, anyU_iff]
          constructor
          · rintro ⟨j, h3, h4⟩
            rw [Bool.and_eq_true, decide_eq_true_eq] at h4
            rw [show D.length - hen D = j by omega]
            exact h4.1
          · intro h3
            exact ⟨D.length - hen D, Nat.le_refl _, by rw [h3, decide_eq_true (show hen D + (D.length - hen D) = D.length by omega)]; rfl⟩
        rw [Bool.eq_iff_iff, key, hpk _ (Nat.le_refl _), Bool.and_eq_true, decide_eq_true_eq]
        unfold gsa
        rw [decide_eq_true_eq]
        constructor
        · rintro ⟨h3, h4, h5⟩
          refine ⟨by omega, by omega, ?_⟩
          rw [show hen D + (D.length - hen D - (pt - pf)) = D.length - (pt - pf) by omega]
          exact h5
        · rintro ⟨h3, h4, h5⟩
          rw [show hen D + (D.length - hen D - (pt - pf)) = D.length - (pt - pf) by omega] at h4 h5
          exact ⟨by omega, by omega, h5⟩
      · rw [if_neg hc]
        by_cases hg : gfp D P pf pt a + (pt - pf) ≤ D.length
        · have hgp := gfp_p hg
          rw [if_pos hg]
          -- the least place
          have hle : ∀ k, k ≤ D.length - hen D → (mrc D P (hen D) pt k = true → gfp D P pf pt a + (pt - pf) ≤ hen D + k) := by
            intro k hk h3
            have h4 := (hpk k hk).mp h3
            have := gfp_l h4.2.1 (by omega) h4.2.2
            omega
          have hat : mrc D P (hen D) pt (gfp D P pf pt a + (pt - pf) - hen D) = true := by
            rw [hpk _ (by omega)]
            rw [show hen D + (gfp D P pf pt a + (pt - pf) - hen D - (pt - pf)) = gfp D P pf pt a by omega]
            exact ⟨by omega, hgp.1, hgp.2⟩
          by_cases hl : pt < to
          · refine gml_ok hb hto htl hte htf hst n _ (pt + 1) (by omega) (by omega) (by omega) hg (fun _ k hk => ?_) (fun h9 => absurd h9 (by omega))
            rw [mrc_star (h42 hl), anyU_iff]
            constructor
            · rintro ⟨j, h3, h4⟩
              have := hle j (by omega) h4
              omega
            · intro h3
              exact ⟨gfp D P pf pt a + (pt - pf) - hen D, by omega, hat⟩
          · have hpt : pt = to := by omega
            have htef : te = false := by
              cases h9 : te with
              | false => rfl
              | true => exact absurd ⟨h9, hpt⟩ hc
            refine gml_ok hb hto htl hte htf hst n _ (pt + 1) (by omega) (by omega) (by omega) hg (fun h9 => absurd h9 (by omega)) (fun _ => ⟨htef, ?_⟩)
            unfold mch
            rw [anyU_iff, ← htf htef, ← hpt]
            exact ⟨_, by omega, hat⟩
        · rw [if_neg hg]
          refine (mch_none (i := pt) (by omega) (fun k hk => ?_)).symm
          cases h9 : mrc D P (hen D) pt k with
          | false => rfl
          | true =>
            have h4 := (hpk k hk).mp h9
            have := gfp_l h4.2.1 (by omega) h4.2.2
            exact absurd (show gfp D P pf pt a + (pt - pf) ≤ D.length by omega) hg
    · show (if pf ≤ to then _ else _) = _
      rw [if_neg hp, hst, (hE (by omega)).2]
      rfl
/-- the class matches as the model does -/
theorem gmt_eq (hb : hen D ≤ D.length) (hP : 1 ≤ P.length) : gmt D P = mch D P := by
  have hto : ∀ i, i < pto P → ¬ (gx P i = 36 ∧ i + 1 = P.length) := by
    intro i hi h9
    unfold pto at hi
    by_cases he : pte P = true
    · rw [if_pos he] at hi; omega
    · apply he
      unfold pte
      rw [show P.length - 1 = i by omega]
      exact decide_eq_true h9.1
  have htl : pto P ≤ P.length := by unfold pto; split <;> omega
  have hte : pte P = true → pto P + 1 = P.length ∧ gx P (pto P) = 36 := fun h9 => by
    have e : pto P = P.length - 1 := if_pos h9
    rw [e]
    exact ⟨by omega, of_decide_eq_true h9⟩
  have htf : pte P = false → pto P = P.length := fun h9 => if_neg (by rw [h9]; decide)
  have hfb := fw_bd (p := nev 42) (L := P) (f := 0) (t := pto P) (Nat.zero_le _)
  rw [show fw (nev 42) P 0 (pto P) = ppt P from rfl] at hfb
  have hfi : ∀ j, 0 ≤ j → j < ppt P → ¬ gx P j = 42 := fun j h1 h2 => of_decide_eq_true (fw_in (p := nev 42) (L := P) h1 h2)
  have h42 : ppt P < pto P → gx P (ppt P) = 42 := fun h9 => fw_42 h9
  have hrun := mrc_run (D := D) (b := hen D) hto (ppt P) 0 (by omega) (fun j h1 h2 => hfi j h1 (by omega))
  rw [Nat.zero_add] at hrun
  have hpk : ∀ k, k ≤ D.length - hen D → (mrc D P (hen D) (ppt P) k = true ↔ k = ppt P ∧ pst D P 0 (ppt P) (hen D)) := by
    intro k hk
    rw [hrun k]
    constructor
    · rintro ⟨h1, h2, h3⟩
      have h2 : k - ppt P = 0 := of_decide_eq_true h2
      have e : k = ppt P := by omega
      refine ⟨e, (pst_iff (Nat.zero_le _) (by omega) (by omega)).mpr (fun j hj => ?_)⟩
      have := h3 j (by omega)
      rw [h2, Nat.zero_add] at this
      rw [Nat.zero_add]
      exact this
    · rintro ⟨e, h2⟩
      have h3 := (pst_iff (D := D) (P := P) (Nat.zero_le _) (by omega) (by omega)).mp h2
      refine ⟨by omega, ?_, fun j hj => ?_⟩
      · rw [e, Nat.sub_self]; rfl
      · have := h3 j (by omega)
        rw [Nat.zero_add] at this
        rw [e, Nat.sub_self, Nat.zero_add]
        exact this
  unfold gmt
  by_cases hg : gsa D P 0 (ppt P) (hen D) = true
  · rw [if_pos hg]
    have hg2 : hen D + (ppt P - 0) ≤ D.length ∧ sub P 0 (ppt P) = sub D (hen D) (hen D + (ppt P - 0)) := of_decide_eq_true hg
    have hat : mrc D P (hen D) (ppt P) (ppt P) = true := (hpk _ (by omega)).mpr ⟨rfl, hg2.2⟩
    by_cases hl : ppt P < pto P
    · refine gml_ok hb hto htl hte htf (decide_eq_true hl) (P.length + 1) (hen D + ppt P) (ppt P + 1) (by omega) (by omega) (by omega) (by omega) (fun _ k hk => ?_) (fun h9 => absurd h9 (by omega))
      rw [mrc_star (h42 hl), anyU_iff]
      constructor
      · rintro ⟨j, h3, h4⟩
        have := ((hpk j (by omega)).mp h4).1
        omega
      · intro h3
        exact ⟨ppt P, by omega, hat⟩
    · have hpp : ppt P = pto P := by omega
      show (if ppt P + 1 ≤ pto P then _ else _) = _
      rw [if_neg (by omega), decide_eq_false hl, Bool.false_or]
      cases h9 : pte P with
      | false =>
        have e : mch D P = true := by
          unfold mch
          rw [anyU_iff, ← htf h9, ← hpp]
          exact ⟨ppt P, by omega, hat⟩
        rw [e]; rfl
      | true =>
        have h2 := hte h9
        have hend := mrc_end (D := D) (P := P) (b := hen D) (i := pto P) h2.2 h2.1
        rw [Bool.not_true, Bool.false_or, Bool.eq_iff_iff, decide_eq_true_eq]
        unfold mch
        rw [← h2.1, hend, anyU_iff]
        constructor
        · intro h3
          exact ⟨ppt P, by omega, by rw [← hpp, hat, decide_eq_true h3]; rfl⟩
        · rintro ⟨j, h3, h4⟩
          rw [Bool.and_eq_true, decide_eq_true_eq, ← hpp] at h4
          have := ((hpk j h3).mp h4.1).1
          omega
  · rw [if_neg hg]
    refine (mch_none (i := ppt P) (by omega) (fun k hk => ?_)).symm
    cases h9 : mrc D P (hen D) (ppt P) k with
    | false => rfl
    | true =>
      have h4 := (hpk k hk).mp h9
      have h5 : sub P 0 (ppt P) = sub D (hen D) (hen D + (ppt P - 0)) := h4.2
      exact absurd (decide_eq_true ⟨by omega, h5⟩) hg
end MCH
