theorem cs_M_340 : Cond.constant "WebFinderModel" 340 (700000) ∈ am_gw := (am_t7 109 rfl rfl)
theorem cs_M_396 : Cond.constant "WebFinderModel" 396 (62500) ∈ am_gw := (am_t7 110 rfl rfl)
section AML
variable {X : am_X} {M : am_Mt} {d pc : Nat} {l : am_lo} {st : List Value} {h : List va_E} {Q : Option Value → List va_E → Prop}
theorem g_ldc_w {index : Nat} {v : Int32} (hd : decode M.2.1 pc = .ok (.ldc_w index, 3)) (hw : Cond.constant M.1.cls index v ∈ am_gw) (k : am_G X M d (pc + 3) l (.int v :: st) h Q) : am_G X M d pc l st h Q :=
  am_G.gen (l' := l) ⟨Nat.le_refl _, Nat.le_refl _⟩ (fun p e R s m args below meth c h0 H locs ls Qs B hz hl ha hS hR kk => lv_ldcw B.1 B.2.1 B.2.2.2.2.2.1 (B.2.2.2.2.2.2.2.1 _ hw) hd (kk H locs ls hl ha hS)) k
end AML
