/-! ===== the model's references are the class's ===== -/
theorem isx_ne {i : Nat} {L : List Int32} {f t : Nat} (h : ¬ t - f = cln i) : isx i L f t = false := decide_eq_false (fun h9 => h h9.1)
theorem isx_nb {i j : Nat} {L : List Int32} {f t : Nat} (hj : j < cln i) (h : ¬ gx L (f + j) = ch i j) : isx i L f t = false := decide_eq_false (fun h9 => h (h9.2 j hj))
section RBE
variable {L : List Int32} {p t f e : Nat}
theorem scl_eq (h1 : p + 1 ≤ e) (h2 : e < t) (h3 : e < p + 10) (h4 : gx L e = 59) (h5 : ∀ j, p + 1 ≤ j → j < e → ¬ gx L j = 59) : fw (nev 59) L (p + 1) (Nat.min t (p + 10)) = e ∧ e < Nat.min t (p + 10) := by
  have hm := nmin_bd t (p + 10)
  exact ⟨fw_eq h1 (by omega) (fun j a b => nev_t (h5 j a b)) (fun _ => nev_f h4), by omega⟩
theorem rn_0 (h38 : gx L p = 38) (h : mnm 0 L p t = true) : rfb L p t = some (38, p + 5) := by
  obtain ⟨h0, g1, g2, g3, g4⟩ := of_decide_eq_true h
  obtain ⟨h1, h2⟩ := scl_eq (L := L) (p := p) (t := t) (e := p + 4) (by omega) (by omega) (by omega) g4 (fun j a b => by
    rcases (by omega : j = p + 1 ∨ j = p + 2 ∨ j = p + 3) with rfl | rfl | rfl
    · rw [g1]; decide
    · rw [g2]; decide
    · rw [g3]; decide)
  have hr : refd L (p + 1) (p + 4) = some 38 := by
    unfold refd
    have hi : isx 23 L (p + 1) (p + 4) = true := decide_eq_true ⟨by show p + 4 - (p + 1) = 3; omega, fun j hj => by
      have hj2 : j < 3 := hj
      rcases (by omega : j = 0 ∨ j = 1 ∨ j = 2) with rfl | rfl | rfl
      · exact g1
      · exact g2
      · exact g3⟩
    rw [if_neg (fun h9 => by have h8 := h9.2; rw [g1] at h8; exact absurd h8 (by decide)), if_pos hi]
  have h3 := rfb_s h38 (by rw [h1]; omega) (by rw [h1]; exact hr)
  rw [h1] at h3
  exact h3
theorem rn_1 (h38 : gx L p = 38) (h : mnm 1 L p t = true) : rfb L p t = some (60, p + 4) := by
  obtain ⟨h0, g1, g2, g3⟩ := of_decide_eq_true h
  obtain ⟨h1, h2⟩ := scl_eq (L := L) (p := p) (t := t) (e := p + 3) (by omega) (by omega) (by omega) g3 (fun j a b => by
    rcases (by omega : j = p + 1 ∨ j = p + 2) with rfl | rfl
    · rw [g1]; decide
    · rw [g2]; decide)
  have hr : refd L (p + 1) (p + 3) = some 60 := by
    unfold refd
    have hi : isx 24 L (p + 1) (p + 3) = true := decide_eq_true ⟨by show p + 3 - (p + 1) = 2; omega, fun j hj => by
      have hj2 : j < 2 := hj
      rcases (by omega : j = 0 ∨ j = 1) with rfl | rfl
      · exact g1
      · exact g2⟩
    rw [if_neg (fun h9 => by have h8 := h9.2; rw [g1] at h8; exact absurd h8 (by decide)), if_neg (by rw [isx_ne (by show ¬ p + 3 - (p + 1) = 3; omega)]; decide), if_pos hi]
  have h3 := rfb_s h38 (by rw [h1]; omega) (by rw [h1]; exact hr)
  rw [h1] at h3
  exact h3
theorem rn_2 (h38 : gx L p = 38) (h : mnm 2 L p t = true) : rfb L p t = some (62, p + 4) := by
  obtain ⟨h0, g1, g2, g3⟩ := of_decide_eq_true h
  obtain ⟨h1, h2⟩ := scl_eq (L := L) (p := p) (t := t) (e := p + 3) (by omega) (by omega) (by omega) g3 (fun j a b => by
    rcases (by omega : j = p + 1 ∨ j = p + 2) with rfl | rfl
    · rw [g1]; decide
    · rw [g2]; decide)
  have hr : refd L (p + 1) (p + 3) = some 62 := by
    unfold refd
    have hi : isx 25 L (p + 1) (p + 3) = true := decide_eq_true ⟨by show p + 3 - (p + 1) = 2; omega, fun j hj => by
      have hj2 : j < 2 := hj
      rcases (by omega : j = 0 ∨ j = 1) with rfl | rfl
      · exact g1
      · exact g2⟩
    rw [if_neg (fun h9 => by have h8 := h9.2; rw [g1] at h8; exact absurd h8 (by decide)), if_neg (by rw [isx_ne (by show ¬ p + 3 - (p + 1) = 3; omega)]; decide), if_neg (by rw [isx_nb (j := 0) (by decide) (by rw [Nat.add_zero, g1]; decide)]; decide), if_pos hi]
  have h3 := rfb_s h38 (by rw [h1]; omega) (by rw [h1]; exact hr)
  rw [h1] at h3
  exact h3
theorem rn_3 (h38 : gx L p = 38) (h : mnm 3 L p t = true) : rfb L p t = some (34, p + 6) := by
  obtain ⟨h0, g1, g2, g3, g4, g5⟩ := of_decide_eq_true h
  obtain ⟨h1, h2⟩ := scl_eq (L := L) (p := p) (t := t) (e := p + 5) (by omega) (by omega) (by omega) g5 (fun j a b => by
    rcases (by omega : j = p + 1 ∨ j = p + 2 ∨ j = p + 3 ∨ j = p + 4) with rfl | rfl | rfl | rfl
    · rw [g1]; decide
    · rw [g2]; decide
    · rw [g3]; decide
    · rw [g4]; decide)
  have hr : refd L (p + 1) (p + 5) = some 34 := by
    unfold refd
    have hi : isx 26 L (p + 1) (p + 5) = true := decide_eq_true ⟨by show p + 5 - (p + 1) = 4; omega, fun j hj => by
      have hj2 : j < 4 := hj
      rcases (by omega : j = 0 ∨ j = 1 ∨ j = 2 ∨ j = 3) with rfl | rfl | rfl | rfl
      · exact g1
      · exact g2
      · exact g3
      · exact g4⟩
    rw [if_neg (fun h9 => by have h8 := h9.2; rw [g1] at h8; exact absurd h8 (by decide)), if_neg (by rw [isx_ne (by show ¬ p + 5 - (p + 1) = 3; omega)]; decide), if_neg (by rw [isx_ne (by show ¬ p + 5 - (p + 1) = 2; omega)]; decide), if_neg (by rw [isx_ne (by show ¬ p + 5 - (p + 1) = 2; omega)]; decide), if_pos hi]
  have h3 := rfb_s h38 (by rw [h1]; omega) (by rw [h1]; exact hr)
  rw [h1] at h3
  exact h3
theorem rn_4 (h38 : gx L p = 38) (h : mnm 4 L p t = true) : rfb L p t = some (39, p + 6) := by
  obtain ⟨h0, g1, g2, g3, g4, g5⟩ := of_decide_eq_true h
  obtain ⟨h1, h2⟩ := scl_eq (L := L) (p := p) (t := t) (e := p + 5) (by omega) (by omega) (by omega) g5 (fun j a b => by
    rcases (by omega : j = p + 1 ∨ j = p + 2 ∨ j = p + 3 ∨ j = p + 4) with rfl | rfl | rfl | rfl
    · rw [g1]; decide
    · rw [g2]; decide
    · rw [g3]; decide
    · rw [g4]; decide)
  have hr : refd L (p + 1) (p + 5) = some 39 := by
    unfold refd
    have hi : isx 27 L (p + 1) (p + 5) = true := decide_eq_true ⟨by show p + 5 - (p + 1) = 4; omega, fun j hj => by
      have hj2 : j < 4 := hj
      rcases (by omega : j = 0 ∨ j = 1 ∨ j = 2 ∨ j = 3) with rfl | rfl | rfl | rfl
      · exact g1
      · exact g2
      · exact g3
      · exact g4⟩
    rw [if_neg (fun h9 => by have h8 := h9.2; rw [g1] at h8; exact absurd h8 (by decide)), if_neg (by rw [isx_ne (by show ¬ p + 5 - (p + 1) = 3; omega)]; decide), if_neg (by rw [isx_ne (by show ¬ p + 5 - (p + 1) = 2; omega)]; decide), if_neg (by rw [isx_ne (by show ¬ p + 5 - (p + 1) = 2; omega)]; decide), if_neg (by rw [isx_nb (j := 0) (by decide) (by rw [Nat.add_zero, g1]; decide)]; decide), if_pos hi]
  have h3 := rfb_s h38 (by rw [h1]; omega) (by rw [h1]; exact hr)
  rw [h1] at h3
  exact h3
theorem dgR_59 {r e : Nat} (h : gx L e = 59) : dgR L r e = false := dgR_n (by rw [h]; decide)
theorem mnu_eq {r sc : Nat} (h1 : f ≤ sc) (h2 : sc < t) (h4 : gx L sc = 59) (h5 : ∀ j, f ≤ j → j < sc → ¬ gx L j = 59) : mnu L r f t = (nmb L r f sc).map (fun v => (v, sc + 1)) := by
  have hm := nmin_bd t (f + 7)
  by_cases ha : alp (dgR L r) f sc = true
  · have hd := alp_iff.mp ha
    by_cases h7 : sc < f + 7
    · have he : mdE L r f t = sc := fx_eq h1 (by omega) hd (fun _ => dgR_59 h4)
      unfold mnu nmb
      rw [he, if_pos ha]
      by_cases h0 : sc ≤ f
      · rw [if_neg (by omega), if_pos (Or.inl h0)]
        rfl
      · rw [if_pos ⟨by omega, by omega, h2, h4⟩, if_neg (by omega)]
        rfl
    · have he : mdE L r f t = f + 7 := fx_eq (by omega) (by omega) (fun j a b => hd j a (by omega)) (fun h9 => absurd h9 (by omega))
      unfold mnu nmb
      rw [he, if_neg (by omega), if_pos (Or.inr (by omega))]
      rfl
  · have hb := fx_bd (P := dgR L r) (f := f) (t := Nat.min t (f + 7)) (by omega)
    have hin : ∀ j, f ≤ j → j < mdE L r f t → dgR L r j = true := fun j a b => fx_in a b
    have hlt : mdE L r f t < sc ∨ ¬ gx L (mdE L r f t) = 59 ∨ ¬ mdE L r f t - f ≤ 6 := by
      by_cases h9 : mdE L r f t < sc
      · exact Or.inl h9
      · exact absurd (alp_iff.mpr (fun j a b => hin j a (by omega))) ha
    have hge : f ≤ mdE L r f t := hb.1
    unfold mnu nmb
    rw [if_neg ha, if_neg (fun h9 => by
      rcases hlt with h8 | h8 | h8
      · exact h5 _ hge h8 h9.2.2.2
      · exact h8 h9.2.2.2
      · exact h8 h9.2.1)]
    split <;> rfl
theorem mnu_w {r w : Nat} (hw : Nat.min t (p + 10) = w) (hf : f = p + 2 ∨ f = p + 3) (h5 : ∀ j, p + 1 ≤ j → j < w → ¬ gx L j = 59) : mnu L r f t = none := by
  have hm := nmin_bd t (p + 10)
  have hge : f ≤ mdE L r f t := fx_ge f _
  unfold mnu
  rw [if_neg (fun h9 => by
    obtain ⟨a1, a2, a3, a4⟩ := h9
    exact h5 (mdE L r f t) (by omega) (by omega) a4)]
theorem mrb_eq (h38 : gx L p = 38) (hpt : p < t) : mrb L p t = rfb L p t := by
  unfold mrb
  by_cases m0 : mnm 0 L p t = true
  · rw [if_pos m0]; exact (rn_0 h38 m0).symm
  rw [if_neg m0]
  by_cases m1 : mnm 1 L p t = true
  · rw [if_pos m1]; exact (rn_1 h38 m1).symm
  rw [if_neg m1]
  by_cases m2 : mnm 2 L p t = true
  · rw [if_pos m2]; exact (rn_2 h38 m2).symm
  rw [if_neg m2]
  by_cases m3 : mnm 3 L p t = true
  · rw [if_pos m3]; exact (rn_3 h38 m3).symm
  rw [if_neg m3]
  by_cases m4 : mnm 4 L p t = true
  · rw [if_pos m4]; exact (rn_4 h38 m4).symm
  rw [if_neg m4]
  have hm := nmin_bd t (p + 10)
  have hb := fw_bd (p := nev 59) (L := L) (f := p + 1) (t := Nat.min t (p + 10)) (by omega)
  have hin : ∀ j, p + 1 ≤ j → j < fw (nev 59) L (p + 1) (Nat.min t (p + 10)) → ¬ gx L j = 59 := fun j a b => of_decide_eq_true (fw_in (p := nev 59) a b)
  by_cases hw : fw (nev 59) L (p + 1) (Nat.min t (p + 10)) = Nat.min t (p + 10)
  · rw [rfb_n2 hw]
    rw [hw] at hin
    split
    · split
      · exact mnu_w rfl (Or.inr rfl) hin
      · exact mnu_w rfl (Or.inl rfl) hin
    · rfl
  · have ho : gx L (fw (nev 59) L (p + 1) (Nat.min t (p + 10))) = 59 := by
      have h9 := fw_out (p := nev 59) (L := L) (f := p + 1) (t := Nat.min t (p + 10)) (by omega)
      exact Decidable.not_not.mp (fun h8 => by rw [nev_t h8] at h9; cases h9)
    have hr : rfb L p t = (refd L (p + 1) (fw (nev 59) L (p + 1) (Nat.min t (p + 10)))).map (fun v => (v, fw (nev 59) L (p + 1) (Nat.min t (p + 10)) + 1)) := by
      unfold rfb
      rw [if_pos h38, if_neg hw]
    rw [hr]
    generalize fw (nev 59) L (p + 1) (Nat.min t (p + 10)) = sc at *
    by_cases h35 : gx L (p + 1) = 35
    · have hs1 : p + 1 < sc := by
        rcases Nat.eq_or_lt_of_le hb.1 with e9 | e9
        · rw [← e9, h35] at ho; exact absurd ho (by decide)
        · exact e9
      rw [if_pos ⟨by omega, h35⟩]
      unfold refd
      rw [if_pos (show p + 1 < sc ∧ gx L (p + 1) = 35 from ⟨hs1, h35⟩)]
      by_cases hx : p + 2 < t ∧ toLo (gx L (p + 2)) = 120
      · have hs2 : p + 2 < sc := by
          rcases Nat.eq_or_lt_of_le (show p + 2 ≤ sc by omega) with e9 | e9
          · have h9 := hx.2
            rw [e9, ho] at h9
            exact absurd h9 (by decide)
          · exact e9
        rw [if_pos hx, if_pos (show p + 1 + 1 < sc ∧ toLo (gx L (p + 1 + 1)) = 120 from ⟨by omega, hx.2⟩)]
        exact mnu_eq (by omega) (by omega) ho (fun j a b => hin j (by omega) b)
      · rw [if_neg hx, if_neg (show ¬ (p + 1 + 1 < sc ∧ toLo (gx L (p + 1 + 1)) = 120) from fun h9 => hx ⟨by omega, h9.2⟩)]
        exact mnu_eq (by omega) (by omega) ho (fun j a b => hin j (by omega) b)
    · rw [if_neg (fun h9 => h35 h9.2)]
      unfold refd
      rw [if_neg (fun h9 => h35 h9.2)]
      have x0 : isx 23 L (p + 1) sc = false := Bool.eq_false_iff.mpr (fun h9 => m0 (by
        obtain ⟨a1, a2⟩ := of_decide_eq_true h9
        have a3 : sc - (p + 1) = 3 := a1
        have e9 : sc = p + 4 := by omega
        rw [e9] at ho
        exact decide_eq_true ⟨by omega, a2 0 (by decide), a2 1 (by decide), a2 2 (by decide), ho⟩))
      have x1 : isx 24 L (p + 1) sc = false := Bool.eq_false_iff.mpr (fun h9 => m1 (by
        obtain ⟨a1, a2⟩ := of_decide_eq_true h9
        have a3 : sc - (p + 1) = 2 := a1
        have e9 : sc = p + 3 := by omega
        rw [e9] at ho
        exact decide_eq_true ⟨by omega, a2 0 (by decide), a2 1 (by decide), ho⟩))
      have x2 : isx 25 L (p + 1) sc = false := Bool.eq_false_iff.mpr (fun h9 => m2 (by
        obtain ⟨a1, a2⟩ := of_decide_eq_true h9
        have a3 : sc - (p + 1) = 2 := a1
        have e9 : sc = p + 3 := by omega
        rw [e9] at ho
        exact decide_eq_true ⟨by omega, a2 0 (by decide), a2 1 (by decide), ho⟩))
      have x3 : isx 26 L (p + 1) sc = false := Bool.eq_false_iff.mpr (fun h9 => m3 (by
        obtain ⟨a1, a2⟩ := of_decide_eq_true h9
        have a3 : sc - (p + 1) = 4 := a1
        have e9 : sc = p + 5 := by omega
        rw [e9] at ho
        exact decide_eq_true ⟨by omega, a2 0 (by decide), a2 1 (by decide), a2 2 (by decide), a2 3 (by decide), ho⟩))
      have x4 : isx 27 L (p + 1) sc = false := Bool.eq_false_iff.mpr (fun h9 => m4 (by
        obtain ⟨a1, a2⟩ := of_decide_eq_true h9
        have a3 : sc - (p + 1) = 4 := a1
        have e9 : sc = p + 5 := by omega
        rw [e9] at ho
        exact decide_eq_true ⟨by omega, a2 0 (by decide), a2 1 (by decide), a2 2 (by decide), a2 3 (by decide), ho⟩))
      rw [if_neg (by rw [x0]; decide), if_neg (by rw [x1]; decide), if_neg (by rw [x2]; decide), if_neg (by rw [x3]; decide), if_neg (by rw [x4]; decide)]
      rfl
end RBE
