section AMX3
variable {X : am_X} {M M' : am_Mt} {d pc : Nat} {l : am_lo} {st vs : List Value} {h : List va_E} {Q Q' : Option Value → List va_E → Prop}
theorem g_ldcwS {idx : Nat} (i : Nat) (hd : decode M.2.1 pc = .ok (.ldc_w idx, 3)) (hi : i < 42) (ho : (am_si i).1 = M.1.cls) (hx : (am_si i).2.1 = idx) (kk : am_G X M d (pc + 3) l (.retAddr i :: st) h Q) : am_G X M d pc l st h Q := by
  refine am_G.gen (l' := l) ⟨Nat.le_refl _, Nat.le_refl _⟩ (fun p e R s m args below meth c h0 H locs ls Qs B hz hl ha hS hR k2 => ?_) kk
  obtain ⟨hx9, hb, hml, hr, hlk, hown, hnm, hts, hK, hsz, hxt⟩ := B
  have hz9 := (hK.2.2.2.1 i hi).1
  rw [ho, hx] at hz9
  intro T hT Xs
  obtain ⟨t, a1, b1⟩ := k2 H locs ls hl ha hS T hT Xs
  exact ⟨t, Xs.ldcStringW hx9 hown (text := (am_si i).2.2.1) (a := X.2.2.2.2.1 i) hz9.1 hz9.2 (g := F0 m pc ls (st.map (am_v X.2.2.2))) rfl (by rw [hb]; exact hd) t a1, b1⟩
end AMX3
