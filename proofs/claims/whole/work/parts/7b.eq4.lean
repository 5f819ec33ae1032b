/-! ===== what is made of a reference is the same on both sides ===== -/
/-- an address in the one form: each % with its two upper hex digits, of a byte that isn't plain -/
def nfm (D : List Int32) : Prop := ∀ i, i < D.length → gx D i = 37 → ∃ p q, i + 2 < D.length ∧ p < 16 ∧ q < 16 ∧ gx D (i + 1) = ch 6 p ∧ gx D (i + 2) = ch 6 q ∧ plB (nI (16 * p + q)) = false
/-- what every address is -/
def okD (D : List Int32) : Prop := sub D 0 7 = h7 ∧ 8 ≤ hen D ∧ hen D < D.length ∧ hen D ≤ 80 ∧ D.length ≤ 200 ∧ btg D ∧ nfm D
theorem hx_ch : ∀ k, k < 16 → hx (ch 6 k) = some k := by decide
section NF
variable {D : List Int32} {a b : Nat}
theorem uf_nf (h : nfm D) (hb : b ≤ D.length) (hc : b < D.length → hx (gx D b) = none) : ∀ n a : Nat, b - a ≤ n → a ≤ b → uf D a b = sub D a b
  | 0, a, hn, hab => by rw [uf_nil (by omega), sub_nil (by omega)]
  | n + 1, a, hn, hab => by
    by_cases hlt : a < b
    · by_cases h37 : gx D a = 37
      · obtain ⟨p, q, e1, e2, e3, e4, e5, e6⟩ := h a (by omega) h37
        have hp := hx_ch p e2
        have hq := hx_ch q e3
        have hab2 : a + 2 < b := by
          rcases Nat.lt_or_ge (a + 2) b with z | z
          · exact z
          · exfalso
            have hbl : b < D.length := by omega
            have := hc hbl
            rcases (by omega : b = a + 1 ∨ b = a + 2) with w | w
            · rw [w, e4, hp] at this; cases this
            · rw [w, e5, hq] at this; cases this
        have he : esx D a b = some (16 * p + q) := esx_s h37 hab2 (by rw [e4]; exact hp) (by rw [e5]; exact hq)
        rw [uf_step hlt, us_q he e6, ua_s he, uf_nf h hb hc n (a + 3) (by omega) (by omega), show (16 * p + q) / 16 = p by omega, show (16 * p + q) % 16 = q by omega, ← e4, ← e5, ← h37, sub_cons (L := D) (f := a) (t := b) (by omega) hb, sub_cons (L := D) (f := a + 1) (t := b) (by omega) hb, sub_cons (L := D) (f := a + 2) (t := b) (by omega) hb]
        rfl
      · have he : esx D a b = none := esx_n1 h37
        rw [uf_step hlt, us_n he, ua_n he, uf_nf h hb hc n (a + 1) (by omega) (by omega), sub_cons (L := D) (f := a) (t := b) hlt hb]
        rfl
    · rw [uf_nil (by omega), sub_nil (by omega)]
end NF
section RSE
variable {L D : List Int32} {f t : Nat}
theorem okD.h47 (h : okD D) : gx D (hen D) = 47 := Decidable.not_not.mp (fun h9 => by
  have h7 := fw_out (p := nev 47) (L := D) (f := 7) (t := D.length) h.2.2.1
  rw [show fw (nev 47) D 7 D.length = hen D from rfl, nev_t h9] at h7
  cases h7)
theorem okD.bm (h : okD D) : hen D < bmk D ∧ bmk D ≤ D.length ∧ (bmk D < D.length → gx D (bmk D) = 63) := by
  have hb := bmk_bd (D := D) (Nat.le_of_lt h.2.2.1)
  have ho : bmk D < D.length → gx D (bmk D) = 63 := fun h9 => Decidable.not_not.mp (fun h8 => by
    have := fw_out (p := nev 63) (L := D) (f := hen D) (t := D.length) h9
    rw [show fw (nev 63) D (hen D) D.length = bmk D from rfl, nev_t h8] at this
    cases this)
  refine ⟨?_, hb.2, ho⟩
  rcases Nat.eq_or_lt_of_le hb.1 with e | e
  · have := ho (by have := h.2.2.1; omega)
    rw [← e, h.h47] at this
    exact absurd this (by decide)
  · exact e
theorem okD.site (h : okD D) : sub D 0 (hen D) = h7 ++ sub D 7 (hen D) := by
  have := h.2.1
  rw [sub_app (L := D) (f := 0) (t := 7) (u := hen D) (by omega) (by omega), h.1]
theorem okD.p1 (h : okD D) : uf D (hen D) (bmk D) = sub D (hen D) (bmk D) := by
  have hb := h.bm
  exact uf_nf h.2.2.2.2.2.2 hb.2.1 (fun h9 => by rw [hb.2.2 h9]; exact hx_63) (bmk D - hen D) (hen D) (Nat.le_refl _) (by omega)
theorem okD.p2 (h : okD D) : uf D (bmk D) D.length = sub D (bmk D) D.length := by
  have hb := h.bm
  exact uf_nf h.2.2.2.2.2.2 (Nat.le_refl _) (fun h9 => absurd h9 (by omega)) (D.length - bmk D) (bmk D) (Nat.le_refl _) hb.2.1
theorem nfm_cut {a c : Nat} (h : nfm D) (hc1 : 0 < c) (hc : gx D (c - 1) = 47) (hcl : c ≤ D.length) : ∀ n a : Nat, c - a ≤ n → a ≤ c → uf D a c = sub D a c
  | 0, a, hn, hac => by rw [uf_nil (by omega), sub_nil (by omega)]
  | n + 1, a, hn, hac => by
    by_cases hlt : a < c
    · by_cases h37 : gx D a = 37
      · obtain ⟨p, q, e1, e2, e3, e4, e5, e6⟩ := h a (by omega) h37
        have hp := hx_ch p e2
        have hq := hx_ch q e3
        have hab2 : a + 2 < c := by
          rcases Nat.lt_or_ge (a + 2) c with z | z
          · exact z
          · exfalso
            rcases (by omega : c - 1 = a ∨ c - 1 = a + 1) with w | w
            · rw [w, h37] at hc; exact absurd hc (by decide)
            · rw [w, e4] at hc; rw [hc] at hp; rw [hx_47] at hp; cases hp
        have he : esx D a c = some (16 * p + q) := esx_s h37 hab2 (by rw [e4]; exact hp) (by rw [e5]; exact hq)
        rw [uf_step hlt, us_q he e6, ua_s he, nfm_cut (a := a) h hc1 hc hcl n (a + 3) (by omega) (by omega), show (16 * p + q) / 16 = p by omega, show (16 * p + q) % 16 = q by omega, ← e4, ← e5, ← h37, sub_cons (L := D) (f := a) (t := c) (by omega) hcl, sub_cons (L := D) (f := a + 1) (t := c) (by omega) hcl, sub_cons (L := D) (f := a + 2) (t := c) (by omega) hcl]
        rfl
      · have he : esx D a c = none := esx_n1 h37
        rw [uf_step hlt, us_n he, ua_n he, nfm_cut (a := a) h hc1 hc hcl n (a + 1) (by omega) (by omega), sub_cons (L := D) (f := a) (t := c) hlt hcl]
        rfl
    · rw [uf_nil (by omega), sub_nil (by omega)]
end RSE
