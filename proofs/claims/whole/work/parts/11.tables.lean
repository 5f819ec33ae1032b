/-! ===== what is kept of the tables from call to call ===== -/
abbrev am_X : Type := Launch × va_G × (Nat → ClassId) × am_z
/-- the cells that may change: all from the law's beginning on -/
def am_A (X : am_X) : Nat → Prop := fun q => X.2.2.2.1 ≤ q
/-- the array classes by their tags -/
def am_ty (dA : Nat → ClassId) : List (ClassId × FieldType) := [(dA 0, .byte), (dA 1, .int), (dA 2, .long), (dA 3, .boolean), (dA 4, .object "WebFinder$Page"), (dA 5, .object "WebFinder$SiteRules"), (dA 6, .array .int)]
def am_isn : Cond → Bool
  | .methodLinkNest .. => true
  | .fieldLinkNest .. => true
  | .declares .. => true
  | .castable .. => true
  | _ => false
def am_nw : List Cond := lw_tbl.filter am_isn
/-- the String constants: whose, which entry, text, bytes -/
def am_sc : List (String × Nat × String × List Int32) := [("WebFinder$AddressReader", 76, "\"<>\\^`{|}", [34, 60, 62, 92, 94, 96, 123, 124, 125]), ("WebFinder$AddressReader", 47, "http", [104, 116, 116, 112]), ("WebFinder$AddressReader", 53, "//", [47, 47]), ("WebFinder$AddressReader", 92, "http://", [104, 116, 116, 112, 58, 47, 47]), ("WebFinder", 324, "http://", [104, 116, 116, 112, 58, 47, 47]), ("WebFinder$Bytes", 69, "-._~", [45, 46, 95, 126]), ("WebFinder$Bytes", 74, "0123456789ABCDEF", [48, 49, 50, 51, 52, 53, 54, 55, 56, 57, 65, 66, 67, 68, 69, 70]), ("WebFinder$AddressReader", 126, ".", [46]), ("WebFinder$AddressReader", 128, "..", [46, 46]), ("java/util/Arrays", 337, " > ", [32, 62, 32]), ("WebFinder$Web", 38, "http://", [104, 116, 116, 112, 58, 47, 47]), ("WebFinder$SiteRules", 32, "finder", [102, 105, 110, 100, 101, 114]), ("WebFinder$SiteRules", 64, "user-agent", [117, 115, 101, 114, 45, 97, 103, 101, 110, 116]), ("WebFinder$SiteRules", 69, "allow", [97, 108, 108, 111, 119]), ("WebFinder$SiteRules", 75, "disallow", [100, 105, 115, 97, 108, 108, 111, 119]), ("WebFinder$SiteRules", 38, "*", [42]), ("WebFinder$PageScanner", 99, "script", [115, 99, 114, 105, 112, 116]), ("WebFinder$PageScanner", 101, "style", [115, 116, 121, 108, 101]), ("WebFinder$PageScanner", 103, "</script", [60, 47, 115, 99, 114, 105, 112, 116]), ("WebFinder$PageScanner", 105, "</style", [60, 47, 115, 116, 121, 108, 101]), ("WebFinder$PageScanner", 94, "href", [104, 114, 101, 102]), ("WebFinder$PageScanner", 57, "<!--", [60, 33, 45, 45]), ("WebFinder$PageReader", 58, "base", [98, 97, 115, 101]), ("WebFinder$PageReader", 154, "amp", [97, 109, 112]), ("WebFinder$PageReader", 160, "lt", [108, 116]), ("WebFinder$PageReader", 162, "gt", [103, 116]), ("WebFinder$PageReader", 164, "quot", [113, 117, 111, 116]), ("WebFinder$PageReader", 166, "apos", [97, 112, 111, 115]), ("WebFinder$PageReader", 95, "a", [97]), ("WebFinderModel", 81, "http", [104, 116, 116, 112]), ("WebFinderModel", 125, "http://", [104, 116, 116, 112, 58, 47, 47]), ("WebFinderModel", 162, "user-agent", [117, 115, 101, 114, 45, 97, 103, 101, 110, 116]), ("WebFinderModel", 164, "allow", [97, 108, 108, 111, 119]), ("WebFinderModel", 166, "disallow", [100, 105, 115, 97, 108, 108, 111, 119]), ("WebFinderModel", 174, "finder", [102, 105, 110, 100, 101, 114]), ("WebFinderModel", 213, "amp;lt;gt;quot;apos;", [97, 109, 112, 59, 108, 116, 59, 103, 116, 59, 113, 117, 111, 116, 59, 97, 112, 111, 115, 59]), ("WebFinderModel", 215, "&<>\"'", [38, 60, 62, 34, 39]), ("WebFinderModel", 310, "href", [104, 114, 101, 102]), ("WebFinderModel", 278, "a", [97]), ("WebFinderModel", 295, "base", [98, 97, 115, 101]), ("WebFinderModel", 303, "script", [115, 99, 114, 105, 112, 116]), ("WebFinderModel", 305, "style", [115, 116, 121, 108, 101])]
abbrev am_si (i : Nat) : String × Nat × String × List Int32 := am_sc.getD i ("", 0, "", [])
def am_so (X : am_X) (i : Nat) (U : State) (H : Heap) : Prop :=
  va_O "java/lang/String" (X.2.2.2.2.1 i) (am_A X) U H ∧ va_OF "java/lang/String" "coder" "B" (.int 0) (X.2.2.2.2.1 i) (am_A X) U H ∧ va_OF "java/lang/String" "value" "[B" (.ref (X.2.2.2.2.1 (100 + i))) (X.2.2.2.2.1 i) (am_A X) U H ∧
  va_T .byte (X.2.2.2.2.1 (100 + i)) (am_si i).2.2.2.length (fun j => .int ((am_si i).2.2.2.getD j 0)) (am_A X) U H
def am_lm (k : Nat) : List Int32 := if k = 0 then [0, 0, 0, 1] else [20, 8, 1000, 50]
/-- where a static reference of Throwable lies, and that it is one -/
def am_sq (X : am_X) (n d : String) (U : State) (H : Heap) : Prop := va_Zq Bundle.tN n d (am_A X) U H ∧ ∃ (c : ClassId) (k : Class) (i : Nat) (f : Field) (a : Nat) (cell : Cell), U.vm.findClass Bundle.tN = some c ∧ U.fieldFound? Bundle.tN n d = some (c, k, i, f) ∧ f.isStatic = true ∧ k.statics = some a ∧ H[a]? = some cell ∧ cell.vm.isStatics = true ∧ cell.cls = c ∧ f.slot < cell.slots.size ∧ k.staticTypes[f.slot]? = some f.type ∧ ¬ am_A X a
theorem am_sq.to {X : am_X} {n d : String} {u U : State} {H H1 : Heap} (hvm : u.vm.Alike U.vm) (hq : ∀ q, q < H.size → ¬ am_A X q → H1[q]? = H[q]?) (h : am_sq X n d u H) : am_sq X n d U H1 := by
  obtain ⟨h0, c, k, i, f, a, cell, h1, h2, h3, h4, h5, h6, h7, h8, h9, h10⟩ := h
  obtain ⟨k', hi', he⟩ := State.fieldFound?_setVm hvm h2
  exact ⟨va_Zq.moved hvm (va_Zq.kept h0 hq), c, k', i, f, a, cell, by rw [hvm.findClass]; exact h1, hi', h3, by rw [he]; exact h4, by rw [hq a (Array.getElem?_eq_some_iff.mp h5).1 h10]; exact h5, h6, h7, h8, by rw [he]; exact h9, h10⟩
/-- the formatter that checkIndex hands on: null or not, as X says -/
def am_fm (X : am_X) (U : State) (H : Heap) : Prop := (X.2.2.2.2.1 401 = 0 ∧ va_Z "jdk/internal/util/Preconditions" "SIOOBE_FORMATTER" "Ljava/util/function/BiFunction;" .null (am_A X) U H) ∨ (X.2.2.2.2.1 401 ≠ 0 ∧ va_Z "jdk/internal/util/Preconditions" "SIOOBE_FORMATTER" "Ljava/util/function/BiFunction;" (.ref (X.2.2.2.2.1 400)) (am_A X) U H)
theorem am_fm.to {X : am_X} {u U : State} {H H1 : Heap} (hvm : u.vm.Alike U.vm) (hq : ∀ q, q < H.size → ¬ am_A X q → H1[q]? = H[q]?) (h : am_fm X u H) : am_fm X U H1 := by
  rcases h with ⟨h1, h2⟩ | ⟨h1, h2⟩
  · exact Or.inl ⟨h1, va_Z.moved hvm (h2.kept hq)⟩
  · exact Or.inr ⟨h1, va_Z.moved hvm (h2.kept hq)⟩
def am_Z (X : am_X) (U : State) (H : Heap) : Prop :=
  (∀ i, i < 42 → vk_R (am_si i).1 (am_si i).2.1 (am_si i).2.2.1 (X.2.2.2.2.1 i) U ∧ am_so X i U H) ∧
  (va_Z "java/lang/String" "COMPACT_STRINGS" "Z" (.int 1) (am_A X) U H ∧ am_fm X U H) ∧
  (va_Z "WebFinder" "LEAST_SETTING" "[I" (.ref (X.2.2.2.2.1 200)) (am_A X) U H ∧ va_T .int (X.2.2.2.2.1 200) 4 (fun j => .int ((am_lm 0).getD j 0)) (am_A X) U H) ∧
  (va_Z "WebFinder" "MOST_SETTING" "[I" (.ref (X.2.2.2.2.1 201)) (am_A X) U H ∧ va_T .int (X.2.2.2.2.1 201) 4 (fun j => .int ((am_lm 1).getD j 0)) (am_A X) U H) ∧
  (va_X (X.2.2.2.2.1 300) X.2.2.2.2.2.1 X.2.2.2.2.2.2 U H ∧ X.2.2.2.2.1 300 < H.size ∧ X.2.2.2.2.1 300 < X.2.2.2.1) ∧
  (am_sq X "UNASSIGNED_STACK" Bundle.steD U H ∧ am_sq X "SUPPRESSED_SENTINEL" Bundle.listD U H)
def am_AA (U : State) : Prop := (Cond.arrayOver (.array .int)).before #[] U = true
theorem am_AA.moved {u U : State} (hvm : u.vm.Alike U.vm) (h : am_AA u) : am_AA U := by
  obtain ⟨comp, c, k, h1, h2, h3, h4, h5⟩ := arrayOverA_spec h
  obtain ⟨k', hk', he⟩ := hvm.2.2 _ _ h3
  have hi : (U.vm.classes.findIdx? fun (x : Class) => match x.kind with | .array component _ => component == comp | _ => false) = some c := by
    have e1 := va_idx_bare U.vm comp
    have e2 := va_idx_bare u.vm comp
    first | rw [hvm.bare_eq] at e2 | rw [← hvm.bare_eq] at e2
    exact (e1.symm.trans e2).trans h2
  have hkind : k'.kind = .array comp (.array .int) := by rw [he]; exact h4
  have f1 : U.vm.findClass (FieldType.array .int).toString = some comp := by rw [hvm.findClass]; exact h1
  have f2 : U.vm.findClass ("[" ++ (FieldType.array .int).toString) = some c := by rw [hvm.findClass]; exact h5
  unfold am_AA Cond.before Cond.holds
  simp only [Cond.value]
  rw [f1, Option.bind_some]
  refine (congrArg (fun o : Option Nat => (o.bind (fun c => (U.vm.classes[c]?).map fun (k : Class) => match k.kind with | .array _ ty => decide (ty = FieldType.array .int) && decide (U.vm.findClass ("[" ++ (FieldType.array .int).toString) = some c) | _ => false) == some true)) hi).trans ?_
  simp [hk', hkind, f2]
def am_K (X : am_X) (U : State) : Prop := va_K X.2.1 am_cl (am_ty X.2.2.1) U ∧ (∀ w ∈ am_nw, va_Nw w U) ∧ (va_AO "WebFinder$Page" U ∧ va_AO "WebFinder$SiteRules" U ∧ am_AA U) ∧ am_Z X U U.heap
theorem am_so.kept {X : am_X} {i : Nat} {U : State} {H H1 : Heap} (h : am_so X i U H) (hq : ∀ q, q < H.size → ¬ am_A X q → H1[q]? = H[q]?) : am_so X i U H1 := ⟨h.1.kept hq, h.2.1.kept hq, h.2.2.1.kept hq, h.2.2.2.kept hq⟩
theorem am_so.moved {X : am_X} {i : Nat} {u U : State} {H : Heap} (hvm : u.vm.Alike U.vm) (h : am_so X i u H) : am_so X i U H := ⟨va_O.moved hvm h.1, va_OF.moved hvm h.2.1, va_OF.moved hvm h.2.2.1, va_T.moved hvm h.2.2.2⟩
theorem am_Z.to {X : am_X} {u U : State} {H H1 : Heap} (hR : ∀ (own tx : String) (k a : Nat), vk_R own k tx a u → vk_R own k tx a U) (hvm : u.vm.Alike U.vm) (hsz : H.size ≤ H1.size) (hq : ∀ q, q < H.size → ¬ am_A X q → H1[q]? = H[q]?) (h : am_Z X u H) : am_Z X U H1 := by
  obtain ⟨h1, h2, h3, h4, h5, h6⟩ := h
  refine ⟨fun i hi => ⟨hR _ _ _ _ (h1 i hi).1, ((h1 i hi).2.kept hq).moved hvm⟩, ⟨va_Z.moved hvm (h2.1.kept hq), h2.2.to hvm hq⟩, ⟨va_Z.moved hvm (h3.1.kept hq), va_T.moved hvm (h3.2.kept hq)⟩, ⟨va_Z.moved hvm (h4.1.kept hq), va_T.moved hvm (h4.2.kept hq)⟩, ⟨va_X.moved hvm (h5.1.kept (hq _ h5.2.1 ?_)), Nat.lt_of_lt_of_le h5.2.1 hsz, h5.2.2⟩, h6.1.to hvm hq, h6.2.to hvm hq⟩
  show ¬ X.2.2.2.1 ≤ _
  have := h5.2.2
  omega
theorem am_Nw.warm {w : Cond} (hw : w ∈ am_nw) {s U : State} (hW : s.WarmedH U.vm) (h : va_Nw w s) : va_Nw w U := by
  have h1 := (List.mem_filter.mp hw).2
  cases w <;> first | (simp [am_isn] at h1; done) | exact va_Nw.warmM hW h | exact va_Nw.warmF hW h | exact va_Nw.warmD hW h | exact va_Nw.warmC hW h
theorem am_Nw.call {w : Cond} (hw : w ∈ am_nw) {s U : State} (hv : s.vm = U.vm) (h : va_Nw w s) : va_Nw w U := by
  have h1 := (List.mem_filter.mp hw).2
  cases w <;> first | (simp [am_isn] at h1; done) | exact va_Nw.same rfl hv h
theorem am_K.move {X : am_X} {s t : State} (h : am_K X s) (hW : s.WarmedH t.vm) (hsz : s.heap.size ≤ t.heap.size) (hq : ∀ q, q < s.heap.size → ¬ am_A X q → t.heap[q]? = s.heap[q]?) : am_K X t :=
  ⟨va_K.moved hW.alike h.1, fun w hw => am_Nw.warm hw hW (h.2.1 w hw), ⟨va_AO.moved hW.alike h.2.2.1.1, va_AO.moved hW.alike h.2.2.1.2.1, am_AA.moved hW.alike h.2.2.1.2.2⟩, am_Z.to (fun _ _ _ _ z => vk_R.warm hW z) hW.alike hsz hq h.2.2.2⟩
theorem am_K.calling {X : am_X} {U : State} {g : JFrame} {mk : MethodId} {a : Array Value} (h : am_K X U) : am_K X (U.calling g mk a) :=
  ⟨va_K.moved (u := U) (U := U.calling g mk a) (Vm.Alike.refl U.vm) h.1, fun w hw => am_Nw.call hw (s := U) (U := U.calling g mk a) rfl (h.2.1 w hw), ⟨va_AO.moved (u := U) (U := U.calling g mk a) (Vm.Alike.refl U.vm) h.2.2.1.1, va_AO.moved (u := U) (U := U.calling g mk a) (Vm.Alike.refl U.vm) h.2.2.1.2.1, am_AA.moved (u := U) (U := U.calling g mk a) (Vm.Alike.refl U.vm) h.2.2.1.2.2⟩, am_Z.to (u := U) (U := U.calling g mk a) (fun _ _ _ _ z => vk_R.same (u := U) (U := U.calling g mk a) rfl z) (Vm.Alike.refl U.vm) (Nat.le_refl _) (fun _ _ _ => rfl) h.2.2.2⟩
theorem am_wb : Cond.arrayClass .byte ∈ am_gw := (am_t1 70 rfl rfl)
theorem am_wi : Cond.arrayClass .int ∈ am_gw := (am_t1 125 rfl rfl)
theorem am_wl : Cond.arrayClass .long ∈ am_gw := (am_t2 146 rfl rfl)
theorem am_wz : Cond.arrayClass .boolean ∈ am_gw := (am_t8 142 rfl rfl)
theorem am_wo1 : Cond.instanceMethod Lib.objectInit ∈ am_gw := (am_t1 37 rfl rfl)
theorem am_wo2 : Cond.code Lib.objectInit ⟨#[0xb1]⟩ 1 none ∈ am_gw := (am_t1 38 rfl rfl)
theorem am_n1 {w : Cond} (i : Nat) (h : tables_1_1[i]? = some w) (g : am_isn w = true) : w ∈ am_nw := List.mem_filter.mpr ⟨am_tb (by have h := List.mem_of_getElem? h; exact List.mem_append_left _ h), g⟩
theorem am_n2 {w : Cond} (i : Nat) (h : tables_1_2[i]? = some w) (g : am_isn w = true) : w ∈ am_nw := List.mem_filter.mpr ⟨am_tb (by have h := List.mem_of_getElem? h; exact List.mem_append_right _ (List.mem_append_left _ h)), g⟩
theorem am_n3 {w : Cond} (i : Nat) (h : tables_1_3[i]? = some w) (g : am_isn w = true) : w ∈ am_nw := List.mem_filter.mpr ⟨am_tb (by have h := List.mem_of_getElem? h; exact List.mem_append_right _ (List.mem_append_right _ (List.mem_append_left _ h))), g⟩
theorem am_n4 {w : Cond} (i : Nat) (h : tables_1_4[i]? = some w) (g : am_isn w = true) : w ∈ am_nw := List.mem_filter.mpr ⟨am_tb (by have h := List.mem_of_getElem? h; exact List.mem_append_right _ (List.mem_append_right _ (List.mem_append_right _ (List.mem_append_left _ h)))), g⟩
theorem am_n5 {w : Cond} (i : Nat) (h : tables_1_5[i]? = some w) (g : am_isn w = true) : w ∈ am_nw := List.mem_filter.mpr ⟨am_tb (by have h := List.mem_of_getElem? h; exact List.mem_append_right _ (List.mem_append_right _ (List.mem_append_right _ (List.mem_append_right _ (List.mem_append_left _ h))))), g⟩
theorem am_n6 {w : Cond} (i : Nat) (h : tables_1_6[i]? = some w) (g : am_isn w = true) : w ∈ am_nw := List.mem_filter.mpr ⟨am_tb (by have h := List.mem_of_getElem? h; exact List.mem_append_right _ (List.mem_append_right _ (List.mem_append_right _ (List.mem_append_right _ (List.mem_append_right _ (List.mem_append_left _ h)))))), g⟩
theorem am_n7 {w : Cond} (i : Nat) (h : tables_1_7[i]? = some w) (g : am_isn w = true) : w ∈ am_nw := List.mem_filter.mpr ⟨am_tb (by have h := List.mem_of_getElem? h; exact List.mem_append_right _ (List.mem_append_right _ (List.mem_append_right _ (List.mem_append_right _ (List.mem_append_right _ (List.mem_append_right _ (List.mem_append_left _ h))))))), g⟩
theorem am_n8 {w : Cond} (i : Nat) (h : tables_1_8[i]? = some w) (g : am_isn w = true) : w ∈ am_nw := List.mem_filter.mpr ⟨am_tb (by have h := List.mem_of_getElem? h; exact List.mem_append_right _ (List.mem_append_right _ (List.mem_append_right _ (List.mem_append_right _ (List.mem_append_right _ (List.mem_append_right _ (List.mem_append_right _ (List.mem_append_left _ h)))))))), g⟩
theorem am_n9 {w : Cond} (i : Nat) (h : tables_1_9[i]? = some w) (g : am_isn w = true) : w ∈ am_nw := List.mem_filter.mpr ⟨am_tb (by have h := List.mem_of_getElem? h; exact List.mem_append_right _ (List.mem_append_right _ (List.mem_append_right _ (List.mem_append_right _ (List.mem_append_right _ (List.mem_append_right _ (List.mem_append_right _ (List.mem_append_right _ (List.mem_append_left _ h))))))))), g⟩
theorem am_n10 {w : Cond} (i : Nat) (h : tables_1_10[i]? = some w) (g : am_isn w = true) : w ∈ am_nw := List.mem_filter.mpr ⟨am_tb (by have h := List.mem_of_getElem? h; exact List.mem_append_right _ (List.mem_append_right _ (List.mem_append_right _ (List.mem_append_right _ (List.mem_append_right _ (List.mem_append_right _ (List.mem_append_right _ (List.mem_append_right _ (List.mem_append_right _ (h)))))))))), g⟩
theorem am_wc1 : Cond.native arraycopyName ∈ am_gw := (am_t3 145 rfl rfl)
theorem am_wc2 : Cond.static arraycopyName ∈ am_gw := (am_t3 144 rfl rfl)
theorem am_wc3 : Cond.initialized "java/lang/System" ∈ am_gw := (am_t1 18 rfl rfl)
