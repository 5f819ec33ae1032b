/-! ===== what stands ahead: String constants, their bytes, static arrays, the script ===== -/
section AMX
variable {X : am_X} {M M' : am_Mt} {d pc : Nat} {l : am_lo} {st vs : List Value} {h : List va_E} {Q Q' : Option Value → List va_E → Prop}
theorem g_ldcS {idx : Nat} (i : Nat) (hd : decode M.2.1 pc = .ok (.ldc idx, 2)) (hi : i < 42) (ho : (am_si i).1 = M.1.cls) (hx : (am_si i).2.1 = idx) (kk : am_G X M d (pc + 2) l (.retAddr i :: st) h Q) : am_G X M d pc l st h Q := by
  refine am_G.gen (l' := l) ⟨Nat.le_refl _, Nat.le_refl _⟩ (fun p e R s m args below meth c h0 H locs ls Qs B hz hl ha hS hR k2 => ?_) kk
  obtain ⟨hx9, hb, hml, hr, hlk, hown, hnm, hts, hK, hsz, hxt⟩ := B
  have hz9 := (hK.2.2.2.1 i hi).1
  rw [ho, hx] at hz9
  exact va_ldcS hx9 hb hown hz9 hd (k2 H locs ls hl ha hS)
theorem g_sValue {idx i : Nat} (hd : decode M.2.1 pc = .ok (.getfield idx, 3)) (hi : i < 42) (hw : Cond.fieldLink M.1.cls idx "java/lang/String" "value" "[B" ∈ am_gw) (kk : am_G X M d (pc + 3) l (.retAddr (100 + i) :: st) h Q) : am_G X M d pc l (.retAddr i :: st) h Q := by
  refine am_G.gen (l' := l) ⟨Nat.le_refl _, Nat.le_refl _⟩ (fun p e R s m args below meth c h0 H locs ls Qs B hz hl ha hS hR k2 => ?_) kk
  obtain ⟨hx9, hb, hml, hr, hlk, hown, hnm, hts, hK, hsz, hxt⟩ := B
  exact vk_getf hx9 hb (hK.2.2.2.1 i hi).2.2.2.1 hS hown (hts _ hw) (fun _ h9 => h9) hd (k2 H locs ls hl ha hS)
theorem g_sCoder {idx i : Nat} (hd : decode M.2.1 pc = .ok (.getfield idx, 3)) (hi : i < 42) (hw : Cond.fieldLink M.1.cls idx "java/lang/String" "coder" "B" ∈ am_gw) (kk : am_G X M d (pc + 3) l (.int 0 :: st) h Q) : am_G X M d pc l (.retAddr i :: st) h Q := by
  refine am_G.gen (l' := l) ⟨Nat.le_refl _, Nat.le_refl _⟩ (fun p e R s m args below meth c h0 H locs ls Qs B hz hl ha hS hR k2 => ?_) kk
  obtain ⟨hx9, hb, hml, hr, hlk, hown, hnm, hts, hK, hsz, hxt⟩ := B
  exact vk_getf hx9 hb (hK.2.2.2.1 i hi).2.2.1 hS hown (hts _ hw) (fun _ h9 => h9) hd (k2 H locs ls hl ha hS)
theorem g_sLen {i : Nat} (hd : decode M.2.1 pc = .ok (.arraylength, 1)) (hi : i < 42) {n : Int32} (hn : Int32.ofNat (am_si i).2.2.2.length = n) (kk : am_G X M d (pc + 1) l (.int n :: st) h Q) : am_G X M d pc l (.retAddr (100 + i) :: st) h Q := by
  refine am_G.gen (l' := l) ⟨Nat.le_refl _, Nat.le_refl _⟩ (fun p e R s m args below meth c h0 H locs ls Qs B hz hl ha hS hR k2 => ?_) kk
  obtain ⟨hx9, hb, hml, hr, hlk, hown, hnm, hts, hK, hsz, hxt⟩ := B
  exact va_tlen hx9 hb (hK.2.2.2.1 i hi).2.2.2.2 hS hn hd (k2 H locs ls hl ha hS)
theorem g_sLoad {i : Nat} {j v : Int32} (hd : decode M.2.1 pc = .ok (.baload, 1)) (hi : i < 42) (hin : vp_in j (am_si i).2.2.2.length) (hv : (am_si i).2.2.2.getD j.toNatClampNeg 0 = v) (kk : am_G X M d (pc + 1) l (.int v :: st) h Q) : am_G X M d pc l (.int j :: .retAddr (100 + i) :: st) h Q := by
  refine am_G.gen (l' := l) ⟨Nat.le_refl _, Nat.le_refl _⟩ (fun p e R s m args below meth c h0 H locs ls Qs B hz hl ha hS hR k2 => ?_) kk
  obtain ⟨hx9, hb, hml, hr, hlk, hown, hnm, hts, hK, hsz, hxt⟩ := B
  exact va_tb hx9 hb (hK.2.2.2.1 i hi).2.2.2.2 hS hin (by show Value.int ((am_si i).2.2.2.getD j.toNatClampNeg 0) = .int v; rw [hv]) hd (k2 H locs ls hl ha hS)
theorem g_gsCompact {idx : Nat} (hd : decode M.2.1 pc = .ok (.getstatic idx, 3)) (hw : Cond.fieldLink M.1.cls idx "java/lang/String" "COMPACT_STRINGS" "Z" ∈ am_gw) (kk : am_G X M d (pc + 3) l (.int 1 :: st) h Q) : am_G X M d pc l st h Q := by
  refine am_G.gen (l' := l) ⟨Nat.le_refl _, Nat.le_refl _⟩ (fun p e R s m args below meth c h0 H locs ls Qs B hz hl ha hS hR k2 => ?_) kk
  obtain ⟨hx9, hb, hml, hr, hlk, hown, hnm, hts, hK, hsz, hxt⟩ := B
  exact va_gets hx9 hb hK.2.2.2.2.1.1 hS hown (hts _ hw) (fun _ h9 => h9) hd (k2 H locs ls hl ha hS)
theorem g_gsFmt {idx : Nat} (hd : decode M.2.1 pc = .ok (.getstatic idx, 3)) (hw : Cond.fieldLink M.1.cls idx "jdk/internal/util/Preconditions" "SIOOBE_FORMATTER" "Ljava/util/function/BiFunction;" ∈ am_gw) (k0 : am_G X M d (pc + 3) l (.null :: st) h Q) (k1 : am_G X M d (pc + 3) l (.retAddr 400 :: st) h Q) : am_G X M d pc l st h Q := by
  by_cases hn : X.2.2.2.2.1 401 = 0
  · refine am_G.gen (l' := l) ⟨Nat.le_refl _, Nat.le_refl _⟩ (fun p e R s m args below meth c h0 H locs ls Qs B hz hl ha hS hR k2 => ?_) k0
    obtain ⟨hx9, hb, hml, hr, hlk, hown, hnm, hts, hK, hsz, hxt⟩ := B
    rcases hK.2.2.2.2.1.2 with ⟨-, hf⟩ | ⟨h9, -⟩
    · exact va_gets hx9 hb hf hS hown (hts _ hw) (fun _ h9 => h9) hd (k2 H locs ls hl ha hS)
    · exact absurd hn h9
  · refine am_G.gen (l' := l) ⟨Nat.le_refl _, Nat.le_refl _⟩ (fun p e R s m args below meth c h0 H locs ls Qs B hz hl ha hS hR k2 => ?_) k1
    obtain ⟨hx9, hb, hml, hr, hlk, hown, hnm, hts, hK, hsz, hxt⟩ := B
    rcases hK.2.2.2.2.1.2 with ⟨h9, -⟩ | ⟨-, hf⟩
    · exact absurd h9 hn
    · exact va_gets hx9 hb hf hS hown (hts _ hw) (fun _ h9 => h9) hd (k2 H locs ls hl ha hS)
theorem g_gsLeast {idx : Nat} (hd : decode M.2.1 pc = .ok (.getstatic idx, 3)) (hw : Cond.fieldLink M.1.cls idx "WebFinder" "LEAST_SETTING" "[I" ∈ am_gw) (kk : am_G X M d (pc + 3) l (.retAddr 200 :: st) h Q) : am_G X M d pc l st h Q := by
  refine am_G.gen (l' := l) ⟨Nat.le_refl _, Nat.le_refl _⟩ (fun p e R s m args below meth c h0 H locs ls Qs B hz hl ha hS hR k2 => ?_) kk
  obtain ⟨hx9, hb, hml, hr, hlk, hown, hnm, hts, hK, hsz, hxt⟩ := B
  exact va_gets hx9 hb hK.2.2.2.2.2.1.1 hS hown (hts _ hw) (fun _ h9 => h9) hd (k2 H locs ls hl ha hS)
theorem g_gsMost {idx : Nat} (hd : decode M.2.1 pc = .ok (.getstatic idx, 3)) (hw : Cond.fieldLink M.1.cls idx "WebFinder" "MOST_SETTING" "[I" ∈ am_gw) (kk : am_G X M d (pc + 3) l (.retAddr 201 :: st) h Q) : am_G X M d pc l st h Q := by
  refine am_G.gen (l' := l) ⟨Nat.le_refl _, Nat.le_refl _⟩ (fun p e R s m args below meth c h0 H locs ls Qs B hz hl ha hS hR k2 => ?_) kk
  obtain ⟨hx9, hb, hml, hr, hlk, hown, hnm, hts, hK, hsz, hxt⟩ := B
  exact va_gets hx9 hb hK.2.2.2.2.2.2.1.1 hS hown (hts _ hw) (fun _ h9 => h9) hd (k2 H locs ls hl ha hS)
theorem g_leastLoad {j v : Int32} (hd : decode M.2.1 pc = .ok (.iaload, 1)) (hin : vp_in j 4) (hv : (am_lm 0).getD j.toNatClampNeg 0 = v) (kk : am_G X M d (pc + 1) l (.int v :: st) h Q) : am_G X M d pc l (.int j :: .retAddr 200 :: st) h Q := by
  refine am_G.gen (l' := l) ⟨Nat.le_refl _, Nat.le_refl _⟩ (fun p e R s m args below meth c h0 H locs ls Qs B hz hl ha hS hR k2 => ?_) kk
  obtain ⟨hx9, hb, hml, hr, hlk, hown, hnm, hts, hK, hsz, hxt⟩ := B
  exact va_ti hx9 hb hK.2.2.2.2.2.1.2 hS hin (by show Value.int ((am_lm 0).getD j.toNatClampNeg 0) = .int v; rw [hv]) hd (k2 H locs ls hl ha hS)
theorem g_mostLoad {j v : Int32} (hd : decode M.2.1 pc = .ok (.iaload, 1)) (hin : vp_in j 4) (hv : (am_lm 1).getD j.toNatClampNeg 0 = v) (kk : am_G X M d (pc + 1) l (.int v :: st) h Q) : am_G X M d pc l (.int j :: .retAddr 201 :: st) h Q := by
  refine am_G.gen (l' := l) ⟨Nat.le_refl _, Nat.le_refl _⟩ (fun p e R s m args below meth c h0 H locs ls Qs B hz hl ha hS hR k2 => ?_) kk
  obtain ⟨hx9, hb, hml, hr, hlk, hown, hnm, hts, hK, hsz, hxt⟩ := B
  exact va_ti hx9 hb hK.2.2.2.2.2.2.1.2 hS hin (by show Value.int ((am_lm 1).getD j.toNatClampNeg 0) = .int v; rw [hv]) hd (k2 H locs ls hl ha hS)
theorem g_scriptLen (hd : decode M.2.1 pc = .ok (.arraylength, 1)) (kk : am_G X M d (pc + 1) l (.int (Int32.ofNat X.2.2.2.2.2.1) :: st) h Q) : am_G X M d pc l (.retAddr 300 :: st) h Q := by
  refine am_G.gen (l' := l) ⟨Nat.le_refl _, Nat.le_refl _⟩ (fun p e R s m args below meth c h0 H locs ls Qs B hz hl ha hS hR k2 => ?_) kk
  obtain ⟨hx9, hb, hml, hr, hlk, hown, hnm, hts, hK, hsz, hxt⟩ := B
  obtain ⟨g1, g2, g3⟩ := hK.2.2.2.2.2.2.2.1
  exact va_slen hx9 hb g1 g2 (by show ¬ X.2.2.2.1 ≤ _; omega) hS hd (k2 H locs ls hl ha hS)
theorem g_scriptLoad {i : Int32} (hd : decode M.2.1 pc = .ok (.iaload, 1)) (hin : vp_in i X.2.2.2.2.2.1) (kk : am_G X M d (pc + 1) l (.int (X.2.2.2.2.2.2 i.toNatClampNeg) :: st) h Q) : am_G X M d pc l (.int i :: .retAddr 300 :: st) h Q := by
  refine am_G.gen (l' := l) ⟨Nat.le_refl _, Nat.le_refl _⟩ (fun p e R s m args below meth c h0 H locs ls Qs B hz hl ha hS hR k2 => ?_) kk
  obtain ⟨hx9, hb, hml, hr, hlk, hown, hnm, hts, hK, hsz, hxt⟩ := B
  obtain ⟨g1, g2, g3⟩ := hK.2.2.2.2.2.2.2.1
  exact va_sld hx9 hb g1 g2 (by show ¬ X.2.2.2.1 ≤ _; omega) hS hin hd (k2 H locs ls hl ha hS)
/-- loads and stores of such a reference -/
theorem g_xload_n {i : Fin 4} {x : Nat} (hd : decode M.2.1 pc = .ok (.aload_n i, 1)) (hl : l[(i : Nat)]? = some (some (.retAddr x))) (k : am_G X M d (pc + 1) l (.retAddr x :: st) h Q) : am_G X M d pc l st h Q := k.go (fun hx hb hL => lv_aload_n hx hb hd rfl (hL.2.2 _ _ hl))
theorem g_xload {i : Nat} {x : Nat} (hd : decode M.2.1 pc = .ok (.aload i, 2)) (hl : l[i]? = some (some (.retAddr x))) (k : am_G X M d (pc + 2) l (.retAddr x :: st) h Q) : am_G X M d pc l st h Q := k.go (fun hx hb hL => lv_aload hx hb hd (hL.2.2 _ _ hl))
theorem g_xstore_n {i : Fin 4} {x : Nat} (hd : decode M.2.1 pc = .ok (.astore_n i, 1)) (hn : (i : Nat) < M.2.2.1) (k : am_G X M d (pc + 1) (am_p1 l i (.retAddr x)) st h Q) : am_G X M d pc l (.retAddr x :: st) h Q := k.goS (fun hx hb hL kk => lv_astore_n hx hb hd rfl hL.has hn rfl (fun ls' h' => kk ls' (am_L.p1 (v := .retAddr x) h')))
theorem g_xstore {i : Nat} {x : Nat} (hd : decode M.2.1 pc = .ok (.astore i, 2)) (hn : i < M.2.2.1) (k : am_G X M d (pc + 2) (am_p1 l i (.retAddr x)) st h Q) : am_G X M d pc l (.retAddr x :: st) h Q := k.goS (fun hx hb hL kk => lv_astore hx hb hd hL.has hn rfl (fun ls' h' => kk ls' (am_L.p1 (v := .retAddr x) h')))
/-- a method of a String constant -/
theorem g_virtualS {idx n i : Nat} {rest : List Value} (hd : decode M.2.1 pc = .ok (.invokevirtual idx, 3)) (hm : am_mo M' n) (hi : Cond.instanceMethod M'.1 ∈ am_gw) (hsel : Cond.selects "java/lang/String" M'.1 M'.1 ∈ am_gw) (hln : Cond.methodLink M.1.cls idx M'.1 ∈ am_gw) (hi42 : i < 42) (hn : vs.length = n) (hen : (am_en (.retAddr i :: vs)).length ≤ M'.2.2.1) (hw : (rest.map fun v => v.category).sum ≤ 8)
    (hc : am_C X M' d (.retAddr i :: vs) h Q') (hk : ∀ r h1, Q' r h1 → am_nt r ∧ am_G X M (d + 1) (pc + 3) l (r.toList ++ rest) h1 Q) : am_G X M (d + 1) pc l (vs.reverse ++ .retAddr i :: rest) h Q := by
  refine am_call (fun r h1 hnt hE p e R s m args below meth c h0 H locs ls B hz hl ha hHs hS hR hle => ?_) hc hk
  obtain ⟨hx, hb, hml, hr, hlk, hown, hnm, hts, hK, hsz, hxt⟩ := B
  have hM := am_met hnt hm.1 hen hE
  have hroom : (am_rm d (h1.length - h.length) (am_sl h1 - am_sl h)).frames + 1 ≤ R.frames ∧ 8 + (M'.2.2.1 + 11) + (am_rm d (h1.length - h.length) (am_sl h1 - am_sl h)).locals ≤ R.locals := by
    have h2 := hm.2.1
    rw [hR.2.2.1, hR.2.2.2]
    show d + 1 ≤ d + 1 ∧ 8 + (M'.2.2.1 + 11) + d * 80 ≤ (d + 1) * 80
    omega
  have hrm : h.length - h0.length + (h1.length - h.length) ≤ R.cells ∧ am_sl h - am_sl h0 + (am_sl h1 - am_sl h) ≤ R.slots := by
    have := hR.1
    have := hR.2.1
    omega
  have hrec : ∃ cell : Cell, H[X.2.2.2.2.1 i]? = some cell ∧ cell.vm.isStatics = false ∧ s.vm.findClass "java/lang/String" = some cell.cls := by
    obtain ⟨cell, q1, q2, q3, q4⟩ := (hK.2.2.2.1 i hi42).2.1
    exact ⟨cell, by rw [hS.2.1 _ (Array.getElem?_eq_some_iff.mp q1).1 q4]; exact q1, q2, q3⟩
  refine ⟨((.retAddr i :: vs : List Value).map (am_v X.2.2.2)).toArray, ?_⟩
  have hstk : ((vs.reverse ++ .retAddr i :: rest).map (am_v X.2.2.2)) = (vs.map (am_v X.2.2.2)).reverse ++ .ref (X.2.2.2.2.1 i) :: rest.map (am_v X.2.2.2) := by simp [am_v]
  rw [hstk]
  exact va_runV (bytes := M'.2.1) (maxL := M'.2.2.1) (ret := M'.2.2.2) (n := n) (C := "java/lang/String") (As := vs.map (am_v X.2.2.2)) ⟨hx, hb, hml, hown, hts⟩ hM ⟨callB_of n hts (am_goodc hm) rfl rfl rfl (hts _ hm.2.2.2.2.1) (hts _ hln) ⟨hm.2.2.1.1, hm.2.2.1.2, hm.2.2.2.2.2⟩ hroom, hts _ hi, hts _ hsel⟩ ⟨am_blind, hrec, am_preS ha hHs hS hK⟩ rfl (by simpa using hn) hl.1 rfl (lv_room (by rw [am_v_cats]; exact hw)) hd hrm
end AMX
/-! ===== System.arraycopy, arrays of references ===== -/
section AMY
variable {X : am_X} {M M' : am_Mt} {d pc : Nat} {l : am_lo} {st vs : List Value} {h : List va_E} {Q Q' : Option Value → List va_E → Prop}
theorem g_arraycopy {idx a b n0 n1 t sp dp n : Nat} {f g : Nat → Int32} {ty : FieldType} (hd : decode M.2.1 pc = .ok (.invokestatic idx, 3)) (hln : Cond.methodLink M.1.cls idx arraycopyName ∈ am_gw) (ht : (am_ty X.2.2.1)[t]? = some (X.2.2.1 t, ty)) (hpr : refKind ty = false)
    (ha0 : h[a]? = some (.inl (t, n0, .inl f))) (hb0 : h[b]? = some (.inl (t, n1, .inl g))) (h4 : sp + n ≤ n0) (h5 : dp + n ≤ n1) (hbig : n0 < 2 ^ 31 ∧ n1 < 2 ^ 31) (hfit : ∀ i, i < n → fits ty (.int (f (sp + i))) = true) (hw : (st.map fun v => v.category).sum ≤ 8)
    (kk : am_G X M (d + 1) (pc + 3) l st (h.set b (.inl (t, n1, .inl (va_cpy f g sp dp n)))) Q) : am_G X M (d + 1) pc l (.int (nI n) :: .int (nI dp) :: .ref b :: .int (nI sp) :: .ref a :: st) h Q := by
  have hsl : am_sl (h.set b (.inl (t, n1, .inl (va_cpy f g sp dp n)))) = am_sl h := am_sl_set h b _ _ hb0 rfl
  have hle : (h.set b (.inl (t, n1, .inl (va_cpy f g sp dp n)))).length = h.length := by simp
  refine am_G.gen (l' := l) ⟨by omega, by omega⟩ (fun p e R s m args below meth c h0 H locs ls Qs B hz hl ha hS hR k2 => ?_) kk
  obtain ⟨hx, hb, hml, hr, hlk, hown, hnm, hts, hK, hsz, hxt⟩ := B
  have he := am_w_get (f := X.2.2.2) (dA := X.2.2.1) h 0 a _ ha0
  have he1 := am_w_get (f := X.2.2.2) (dA := X.2.2.1) h 0 b _ hb0
  rw [Nat.zero_add] at he he1
  rw [hle, hsl] at k2
  have c1 : (nI sp).toNatClampNeg = sp := nI_clamp (by omega)
  have c2 : (nI dp).toNatClampNeg = dp := nI_clamp (by omega)
  have c3 : (nI n).toNatClampNeg = n := nI_clamp (by omega)
  refine va_copyi (D := X.2.1) (ty := ty) hx hb (hml.trans hl.1.symm) hown (hts _ hln) (hts _ am_wc1) (hts _ am_wc2) (hts _ am_wc3) hK.1 ha am_D hS a b t t he he1 ht ht hpr (nI_pos (by omega)) (nI_pos (by omega)) (nI_pos (by omega)) (by rw [c1, c3]; exact h4) (by rw [c2, c3]; exact h5) (by rw [c1, c3]; exact hfit) (by rw [hR.2.2.1]; omega) ?_ hd (fun H1 locs1 g1 _ g2 => k2 H1 locs1 ls hl ?_ g2)
  · rw [hR.2.2.2, am_v_cats]
    have : nativeFrameWords "java/lang/System" "arraycopy" 5 + 11 ≤ 72 := by decide +kernel
    omega
  · unfold am_at
    rw [am_w_set, Nat.zero_add]
    rw [c1, c2, c3] at g1
    exact g1
theorem g_aastore {a n t k : Nat} {ci : Nat} {fs : List Value} {r : vw_C} {g : Nat → Option Nat} {i : Int32} (hd : decode M.2.1 pc = .ok (.aastore, 1)) (hh : h[a]? = some (.inl (t, n, .inr (.inr (.inr (.inr g)))))) (ht : (am_ty X.2.2.1)[t]? = some (X.2.2.1 t, .object r.1)) (hk : h[k]? = some (.inr (ci, fs))) (hc : am_cl[ci]? = some r) (hin : vp_in i n)
    (kk : am_G X M d (pc + 1) l st (h.set a (.inl (t, n, .inr (.inr (.inr (.inr (va_up g i.toNatClampNeg (some k)))))))) Q) : am_G X M d pc l (.ref k :: .int i :: .ref a :: st) h Q := by
  have hsl : am_sl (h.set a (.inl (t, n, .inr (.inr (.inr (.inr (va_up g i.toNatClampNeg (some k)))))))) = am_sl h := am_sl_set h a _ _ hh rfl
  have hle : (h.set a (.inl (t, n, .inr (.inr (.inr (.inr (va_up g i.toNatClampNeg (some k)))))))).length = h.length := by simp
  refine am_G.gen (l' := l) ⟨by omega, by omega⟩ (fun p e R s m args below meth c h0 H locs ls Qs B hz hl ha hS hR k2 => ?_) kk
  obtain ⟨hx, hb, hml, hr, hlk, hown, hnm, hts, hK, hsz, hxt⟩ := B
  have he := am_w_get (f := X.2.2.2) (dA := X.2.2.1) h 0 a _ hh
  have he1 := am_w_get (f := X.2.2.2) (dA := X.2.2.1) h 0 k _ hk
  rw [Nat.zero_add] at he he1
  rw [hle, hsl] at k2
  refine va_astq (D := X.2.1) hx hb hK.1 ha am_D hS a t k ci he ht he1 hc hin hd (fun H1 locs1 g1 _ g2 => k2 H1 locs1 ls hl ?_ g2)
  unfold am_at
  rw [am_w_set, Nat.zero_add]
  have e1 : am_e X.2.2.2 X.2.2.1 (.inl (t, n, .inr (.inr (.inr (.inr (va_up g i.toNatClampNeg (some k))))))) = .inl (X.2.2.1 t, n, .inr (.inr (.inr (.inr (va_up (fun j => (g j).map (fun q => X.2.2.2.1 + q)) i.toNatClampNeg (some (X.2.2.2.1 + k))))))) := by
    show (.inl (X.2.2.1 t, n, .inr (.inr (.inr (.inr (fun j => (va_up g i.toNatClampNeg (some k) j).map (fun q => X.2.2.2.1 + q)))))) : va_E) = _
    congr 7
    funext j
    unfold va_up
    split <;> rfl
  rw [e1]
  exact g1
theorem g_aastoreN {a n t : Nat} {C : String} {g : Nat → Option Nat} {i : Int32} (hd : decode M.2.1 pc = .ok (.aastore, 1)) (hh : h[a]? = some (.inl (t, n, .inr (.inr (.inr (.inr g)))))) (ht : (am_ty X.2.2.1)[t]? = some (X.2.2.1 t, .object C)) (hin : vp_in i n)
    (kk : am_G X M d (pc + 1) l st (h.set a (.inl (t, n, .inr (.inr (.inr (.inr (va_up g i.toNatClampNeg none))))))) Q) : am_G X M d pc l (.null :: .int i :: .ref a :: st) h Q := by
  have hsl : am_sl (h.set a (.inl (t, n, .inr (.inr (.inr (.inr (va_up g i.toNatClampNeg none))))))) = am_sl h := am_sl_set h a _ _ hh rfl
  have hle : (h.set a (.inl (t, n, .inr (.inr (.inr (.inr (va_up g i.toNatClampNeg none))))))).length = h.length := by simp
  refine am_G.gen (l' := l) ⟨by omega, by omega⟩ (fun p e R s m args below meth c h0 H locs ls Qs B hz hl ha hS hR k2 => ?_) kk
  obtain ⟨hx, hb, hml, hr, hlk, hown, hnm, hts, hK, hsz, hxt⟩ := B
  have he := am_w_get (f := X.2.2.2) (dA := X.2.2.1) h 0 a _ hh
  rw [Nat.zero_add] at he
  rw [hle, hsl] at k2
  refine va_astqN (D := X.2.1) hx hb hK.1 ha am_D hS a t he ht hin hd (fun H1 locs1 g1 _ g2 => k2 H1 locs1 ls hl ?_ g2)
  unfold am_at
  rw [am_w_set, Nat.zero_add]
  have e1 : am_e X.2.2.2 X.2.2.1 (.inl (t, n, .inr (.inr (.inr (.inr (va_up g i.toNatClampNeg none)))))) = .inl (X.2.2.1 t, n, .inr (.inr (.inr (.inr (va_up (fun j => (g j).map (fun q => X.2.2.2.1 + q)) i.toNatClampNeg none))))) := by
    show (.inl (X.2.2.1 t, n, .inr (.inr (.inr (.inr (fun j => (va_up g i.toNatClampNeg none j).map (fun q => X.2.2.2.1 + q)))))) : va_E) = _
    congr 7
    funext j
    unfold va_up
    split <;> rfl
  rw [e1]
  exact g1
/-- a row of a table of two dimensions -/
theorem g_rowload {a n k : Nat} {g : Nat → Option Nat} {i : Int32} (hd : decode M.2.1 pc = .ok (.aaload, 1)) (hh : h[a]? = some (.inl (6, n, .inr (.inr (.inr (.inr g)))))) (hin : vp_in i n) (hg : g i.toNatClampNeg = some k) (kk : am_G X M d (pc + 1) l (.ref k :: st) h Q) : am_G X M d pc l (.int i :: .ref a :: st) h Q := by
  refine am_G.gen (l' := l) ⟨Nat.le_refl _, Nat.le_refl _⟩ (fun p e R s m args below meth c h0 H locs ls Qs B hz hl ha hS hR k2 => ?_) kk
  obtain ⟨hx, hb, hml, hr, hlk, hown, hnm, hts, hK, hsz, hxt⟩ := B
  have he := am_w_get (f := X.2.2.2) (dA := X.2.2.1) h 0 a _ hh
  rw [Nat.zero_add] at he
  have h1 := ha a _ he
  have h2 : H[X.2.2.2.1 + a]? = some (arrV (X.2.2.1 6) n (fun j => va_rf ((g j).map (fun q => X.2.2.2.1 + q)))) := h1
  have hlt : i.toNatClampNeg < n := Nat.not_le.mp fun q => hin (Or.inr q)
  have h0 : ¬ i < 0 := fun q => hin (Or.inl q)
  refine W.aald hx hb h2 (ty := .array .int) ((hK.1.2 6 _ rfl).1 n _) rfl (fun h => by cases h) (by rw [arrV_size]; exact hin) (v := .ref (X.2.2.2.1 + k)) ?_ rfl rfl hd (k2 H locs ls hl ha hS)
  rw [arrV_read _ _ hlt, hg]
  rfl
theorem g_anewarray {idx t N : Nat} {C : String} {n : Int32} (hd : decode M.2.1 pc = .ok (.anewarray idx, 3)) (hw : Cond.classLink M.1.cls idx C ∈ am_gw) (hao : C = "WebFinder$Page" ∧ t = 4 ∨ C = "WebFinder$SiteRules" ∧ t = 5) (hn : ¬ n < 0) (hN : n.toNatClampNeg = N) (hby : N * 4 ≤ 536870912)
    (kk : am_G X M d (pc + 3) l (.ref h.length :: st) (h ++ [.inl (t, N, .inr (.inr (.inr (.inr (fun _ => none)))))]) Q) : am_G X M d pc l (.int n :: st) h Q := by
  have hsl : am_sl (h ++ [.inl (t, N, .inr (.inr (.inr (.inr (fun _ => none)))))]) = am_sl h + N := by rw [am_sl_app]; simp [am_sl, am_n]
  have hle : (h ++ [(.inl (t, N, .inr (.inr (.inr (.inr (fun _ => none))))) : va_E)]).length = h.length + 1 := by simp
  refine am_G.gen (l' := l) ⟨by omega, by omega⟩ (fun p e R s m args below meth c h0 H locs ls Qs B hz hl ha hS hR k2 => ?_) kk
  obtain ⟨hx, hb, hml, hr, hlk, hown, hnm, hts, hK, hsz, hxt⟩ := B
  refine am_size ha hS hsz hz.1 (fun hHs => ?_)
  rw [hle, hsl] at hR k2
  have h5 : h.length + 1 - h0.length = h.length - h0.length + 1 := by have := hz.1; omega
  have h6 : am_sl h + N - am_sl h0 = am_sl h - am_sl h0 + N := by have := hz.2; omega
  rw [h5, h6] at k2
  have hty : (am_ty X.2.2.1)[t]? = some (X.2.2.1 t, .object C) ∧ va_AO C s := by
    rcases hao with ⟨rfl, rfl⟩ | ⟨rfl, rfl⟩
    · exact ⟨rfl, hK.2.2.1.1⟩
    · exact ⟨rfl, hK.2.2.1.2.1⟩
  subst hN
  refine W.anew hx hb hown (hts _ hw) (va_AO.use hty.2) rfl hd rfl hn hby (by have := hR.1; omega) (by have := hR.2.1; omega) (fun cA kA comp f1 f2 f3 f4 => ?_)
  have hcA : cA = X.2.2.1 t := by
    obtain ⟨kA', comp', -, -, -, h8⟩ := (hK.1.2 t _ hty.1).2
    exact Option.some.inj (f1.symm.trans h8)
  subst hcA
  have z1 : (H.push ({ cls := X.2.2.1 t, slots := Array.replicate n.toNatClampNeg .null, vm := .none } : Cell)).size = H.size + 1 := Array.size_push ..
  have o1 : ∀ q : Nat, q < H.size → (H.push ({ cls := X.2.2.1 t, slots := Array.replicate n.toNatClampNeg .null, vm := .none } : Cell))[q]? = H[q]? := fun q hq => by rw [Array.getElem?_push, if_neg (Nat.ne_of_lt hq)]
  rw [hHs]
  refine k2 _ locs ls hl (am_push ha hHs o1 ?_) (am_pushS hS z1 o1)
  show (H.push _)[X.2.2.2.1 + h.length]? = some (vp_cell (X.2.2.1 t) (n.toNatClampNeg, .inr (.inr (.inr (.inr (fun _ => none))))))
  rw [← hHs, Array.getElem?_push_size, vp_cell_q, arrV_new]
  rfl
end AMY
