/-! ===== rules of the heap ===== -/
/-- the pool's entry idx of class own is field k of our class ci -/
def am_fl (own : String) (idx ci k : Nat) : Prop := ∃ (C : String) (T : u_T) (N : Nat), am_cl[ci]? = some (C, T, N) ∧ k < N ∧ (Cond.fieldLink own idx (T k).1 (T k).2.1 (T k).2.2.1 ∈ am_gw ∨ ∃ host, Cond.fieldLinkNest own idx (T k).1 (T k).2.1 (T k).2.2.1 host ∈ am_nw)
/-- and may be written there by method y: its type is ty -/
def am_fp (y : MethodName) (idx ci k : Nat) (ty : FieldType) : Prop := ∃ (C : String) (T : u_T) (N : Nat), am_cl[ci]? = some (C, T, N) ∧ k < N ∧ parseFieldDescriptor (T k).2.2.1 = some ty ∧
  ((Cond.fieldLink y.cls idx (T k).1 (T k).2.1 (T k).2.2.1 ∈ am_gw ∧ ((T k).2.2.2 = false ∨ ((T k).2.2.2 = true ∧ y.name = "<init>" ∧ (T k).1 = y.cls))) ∨ ∃ host, Cond.fieldLinkNest y.cls idx (T k).1 (T k).2.1 (T k).2.2.1 host ∈ am_nw ∧ (T k).2.2.2 = false)
theorem am_nar {f : am_z} {ty : FieldType} {v : Value} (h : narrow ty v = v) (hf : fits ty v = true) : narrow ty (am_v f v) = am_v f v ∧ fits ty (am_v f v) = true := by
  cases v with
  | ref k =>
    cases ty <;> first | (simp [fits] at hf; done) | exact ⟨rfl, rfl⟩
  | retAddr k => cases ty <;> simp [fits] at hf
  | _ => exact ⟨h, hf⟩
section AMH
variable {X : am_X} {M : am_Mt} {d pc pc' : Nat} {l l' : am_lo} {st st' : List Value} {h h2 : List va_E} {Q : Option Value → List va_E → Prop}
theorem g_getfield {idx ci k a : Nat} {fs : List Value} {v : Value} (hd : decode M.2.1 pc = .ok (.getfield idx, 3)) (hf : am_fl M.1.cls idx ci k) (hh : h[a]? = some (.inr (ci, fs))) (hv : fs[k]? = some v) (kk : am_G X M d (pc + 3) l (v :: st) h Q) : am_G X M d pc l (.ref a :: st) h Q := by
  obtain ⟨C, T, N, hc, hk, hlink⟩ := hf
  refine am_G.gen (l' := l) ⟨Nat.le_refl _, Nat.le_refl _⟩ (fun p e R s m args below meth c h0 H locs ls Qs B hz hl ha hS hR k2 => ?_) kk
  obtain ⟨hx, hb, hml, hr, hlk, hown, hnm, hts, hK, hsz, hxt⟩ := B
  have he := am_w_get (f := X.2.2.2) (dA := X.2.2.1) h 0 a _ hh
  rw [Nat.zero_add] at he
  have hv' : (fs.map (am_v X.2.2.2))[k]? = some (am_v X.2.2.2 v) := by rw [List.getElem?_map, hv]; rfl
  have hck := am_cls ci _ hc
  rcases hlink with hlink | ⟨host, hlink⟩
  · exact va_get (D := X.2.1) (ci := ci) hx hb hts hck.1 hown hK.1 ha a he hc k hk (hts _ hlink) (fun _ h9 => h9) hv' hd (k2 H locs ls hl ha hS)
  · exact va_getN (D := X.2.1) (ci := ci) hx hb hts hck.1 hown hK.1 ha a he hc k hk (va_Nw.use rfl (hK.2.1 _ hlink)) (fun _ h9 => h9) hv' hd (k2 H locs ls hl ha hS)
theorem g_putfield {idx ci k a : Nat} {fs : List Value} {v : Value} {ty : FieldType} (hd : decode M.2.1 pc = .ok (.putfield idx, 3)) (hf : am_fp M.1 idx ci k ty) (hh : h[a]? = some (.inr (ci, fs))) (hkl : k < fs.length) (hn : narrow ty v = v) (hfit : fits ty v = true)
    (kk : am_G X M d (pc + 3) l st (h.set a (.inr (ci, fs.set k v))) Q) : am_G X M d pc l (v :: .ref a :: st) h Q := by
  obtain ⟨C, T, N, hc, hk, hty, hlink⟩ := hf
  have hsl : am_sl (h.set a (.inr (ci, fs.set k v))) = am_sl h := am_sl_set h a _ _ hh (by simp [am_n])
  have hle : (h.set a (.inr (ci, fs.set k v))).length = h.length := by simp
  refine am_G.gen (l' := l) ⟨by omega, by omega⟩ (fun p e R s m args below meth c h0 H locs ls Qs B hz hl ha hS hR k2 => ?_) kk
  obtain ⟨hx, hb, hml, hr, hlk, hown, hnm, hts, hK, hsz, hxt⟩ := B
  have he := am_w_get (f := X.2.2.2) (dA := X.2.2.1) h 0 a _ hh
  rw [Nat.zero_add] at he
  have hck := am_cls ci _ hc
  obtain ⟨ty0, hty0, hnames⟩ := hck.2.1
  obtain ⟨hn', hfit'⟩ := am_nar (f := X.2.2.2) hn hfit
  rw [hle, hsl] at k2
  have hset : am_w X.2.2.2 X.2.2.1 0 (h.set a (.inr (ci, fs.set k v))) = (am_w X.2.2.2 X.2.2.1 0 h).set a (X.2.2.2.1 + a, .inr (ci, (fs.map (am_v X.2.2.2)).set k (am_v X.2.2.2 v))) := by
    rw [am_w_set, Nat.zero_add]
    show _ = (am_w X.2.2.2 X.2.2.1 0 h).set a _
    simp [am_e, List.map_set]
  have fin : ∀ (H1 : Heap) (locs1 : List Loc), va_P X.2.1 am_cl ((am_w X.2.2.2 X.2.2.1 0 h).set a (X.2.2.2.1 + a, .inr (ci, (fs.map (am_v X.2.2.2)).set k (am_v X.2.2.2 v)))) H1 → va_S (am_A X) s.heap H1 locs1 → W p X.1 e R s m args below meth c H1 locs1 (h.length - h0.length) (am_sl h - am_sl h0) Qs (F0 m (pc + 3) ls (st.map (am_v X.2.2.2))) :=
    fun H1 locs1 g1 g2 => k2 H1 locs1 ls hl (by unfold am_at; rw [hset]; exact g1) g2
  rcases hlink with ⟨hlink, hfin | ⟨hfin, hini, hdecl⟩⟩ | ⟨host, hlink, hfin⟩
  · exact va_put (D := X.2.1) (ci := ci) hx hb hts hck.1 ty0 hty0 hnames hown hK.1 ha am_D hS a he hc k hk (hts _ hlink) (fun _ h9 => h9) hfin hty hn' hfit' (by simpa using hkl) hd (fun H1 locs1 g1 _ g2 => fin H1 locs1 g1 g2)
  · exact va_putF (D := X.2.1) (ci := ci) hx hb hts hck.1 ty0 hty0 hnames hown hK.1 ha am_D hS a he hc k hk (hts _ hlink) (fun _ h9 => h9) hfin (hnm hini) hdecl hty hn' hfit' (by simpa using hkl) hd (fun H1 locs1 g1 _ g2 => fin H1 locs1 g1 g2)
  · exact va_putN (D := X.2.1) (ci := ci) hx hb hts hck.1 ty0 hty0 hnames hown hK.1 ha am_D hS a he hc k hk (va_Nw.use rfl (hK.2.1 _ hlink)) (fun _ h9 => h9) hfin hty hn' hfit' (by simpa using hkl) hd (fun H1 locs1 g1 _ g2 => fin H1 locs1 g1 g2)
theorem g_iaload {a n : Nat} {g : Nat → Int32} {i : Int32} (hd : decode M.2.1 pc = .ok (.iaload, 1)) (hh : h[a]? = some (.inl (1, n, .inl g))) (hin : vp_in i n) (kk : am_G X M d (pc + 1) l (.int (g i.toNatClampNeg) :: st) h Q) : am_G X M d pc l (.int i :: .ref a :: st) h Q := by
  refine am_G.gen (l' := l) ⟨Nat.le_refl _, Nat.le_refl _⟩ (fun p e R s m args below meth c h0 H locs ls Qs B hz hl ha hS hR k2 => ?_) kk
  have he := am_w_get (f := X.2.2.2) (dA := X.2.2.1) h 0 a _ hh
  rw [Nat.zero_add] at he
  exact va_iald (D := X.2.1) B.1 B.2.1 B.2.2.2.2.2.2.2.2.1.1 ha a 1 he rfl hin hd (k2 H locs ls hl ha hS)
theorem g_baload {a n : Nat} {g : Nat → Int32} {i : Int32} (hd : decode M.2.1 pc = .ok (.baload, 1)) (hh : h[a]? = some (.inl (0, n, .inl g))) (hin : vp_in i n) (kk : am_G X M d (pc + 1) l (.int (g i.toNatClampNeg) :: st) h Q) : am_G X M d pc l (.int i :: .ref a :: st) h Q := by
  refine am_G.gen (l' := l) ⟨Nat.le_refl _, Nat.le_refl _⟩ (fun p e R s m args below meth c h0 H locs ls Qs B hz hl ha hS hR k2 => ?_) kk
  have he := am_w_get (f := X.2.2.2) (dA := X.2.2.1) h 0 a _ hh
  rw [Nat.zero_add] at he
  exact va_bald (D := X.2.1) B.1 B.2.1 B.2.2.2.2.2.2.2.2.1.1 ha a 0 he rfl hin hd (k2 H locs ls hl ha hS)
theorem g_zaload {a n : Nat} {g : Nat → Int32} {i : Int32} (hd : decode M.2.1 pc = .ok (.baload, 1)) (hh : h[a]? = some (.inl (3, n, .inl g))) (hin : vp_in i n) (kk : am_G X M d (pc + 1) l (.int (g i.toNatClampNeg) :: st) h Q) : am_G X M d pc l (.int i :: .ref a :: st) h Q := by
  refine am_G.gen (l' := l) ⟨Nat.le_refl _, Nat.le_refl _⟩ (fun p e R s m args below meth c h0 H locs ls Qs B hz hl ha hS hR k2 => ?_) kk
  have he := am_w_get (f := X.2.2.2) (dA := X.2.2.1) h 0 a _ hh
  rw [Nat.zero_add] at he
  exact va_zald (D := X.2.1) B.1 B.2.1 B.2.2.2.2.2.2.2.2.1.1 ha a 3 he rfl hin hd (k2 H locs ls hl ha hS)
theorem g_laload {a n : Nat} {g : Nat → Int64} {i : Int32} (hd : decode M.2.1 pc = .ok (.laload, 1)) (hh : h[a]? = some (.inl (2, n, .inr (.inl g)))) (hin : vp_in i n) (kk : am_G X M d (pc + 1) l (.long (g i.toNatClampNeg) :: st) h Q) : am_G X M d pc l (.int i :: .ref a :: st) h Q := by
  refine am_G.gen (l' := l) ⟨Nat.le_refl _, Nat.le_refl _⟩ (fun p e R s m args below meth c h0 H locs ls Qs B hz hl ha hS hR k2 => ?_) kk
  have he := am_w_get (f := X.2.2.2) (dA := X.2.2.1) h 0 a _ hh
  rw [Nat.zero_add] at he
  exact va_lald (D := X.2.1) B.1 B.2.1 B.2.2.2.2.2.2.2.2.1.1 ha a 2 he rfl hin hd (k2 H locs ls hl ha hS)
theorem g_iastore {a n : Nat} {g : Nat → Int32} {i : Int32} {x : Int32} (hd : decode M.2.1 pc = .ok (.iastore, 1)) (hh : h[a]? = some (.inl (1, n, .inl g))) (hin : vp_in i n) (kk : am_G X M d (pc + 1) l st (h.set a (.inl (1, n, .inl (upd g i.toNatClampNeg x)))) Q) : am_G X M d pc l (.int x :: .int i :: .ref a :: st) h Q := by
  have hsl : am_sl (h.set a (.inl (1, n, .inl (upd g i.toNatClampNeg x)))) = am_sl h := am_sl_set h a _ _ hh rfl
  have hle : (h.set a (.inl (1, n, .inl (upd g i.toNatClampNeg x)))).length = h.length := by simp
  refine am_G.gen (l' := l) ⟨by omega, by omega⟩ (fun p e R s m args below meth c h0 H locs ls Qs B hz hl ha hS hR k2 => ?_) kk
  have he := am_w_get (f := X.2.2.2) (dA := X.2.2.1) h 0 a _ hh
  rw [Nat.zero_add] at he
  rw [hle, hsl] at k2
  refine va_iast (D := X.2.1) B.1 B.2.1 B.2.2.2.2.2.2.2.2.1.1 ha am_D hS a 1 he rfl hin hd (fun H1 locs1 g1 _ g2 => k2 H1 locs1 ls hl ?_ g2)
  unfold am_at
  rw [am_w_set, Nat.zero_add]
  exact g1
theorem g_bastore {a n : Nat} {g : Nat → Int32} {i : Int32} {x : Int32} (hd : decode M.2.1 pc = .ok (.bastore, 1)) (hh : h[a]? = some (.inl (0, n, .inl g))) (hin : vp_in i n) (kk : am_G X M d (pc + 1) l st (h.set a (.inl (0, n, .inl (upd g i.toNatClampNeg (vp_nar .byte x))))) Q) : am_G X M d pc l (.int x :: .int i :: .ref a :: st) h Q := by
  have hsl : am_sl (h.set a (.inl (0, n, .inl (upd g i.toNatClampNeg (vp_nar .byte x))))) = am_sl h := am_sl_set h a _ _ hh rfl
  have hle : (h.set a (.inl (0, n, .inl (upd g i.toNatClampNeg (vp_nar .byte x))))).length = h.length := by simp
  refine am_G.gen (l' := l) ⟨by omega, by omega⟩ (fun p e R s m args below meth c h0 H locs ls Qs B hz hl ha hS hR k2 => ?_) kk
  have he := am_w_get (f := X.2.2.2) (dA := X.2.2.1) h 0 a _ hh
  rw [Nat.zero_add] at he
  rw [hle, hsl] at k2
  refine va_bast (D := X.2.1) B.1 B.2.1 B.2.2.2.2.2.2.2.2.1.1 ha am_D hS a 0 he rfl hin hd (fun H1 locs1 g1 _ g2 => k2 H1 locs1 ls hl ?_ g2)
  unfold am_at
  rw [am_w_set, Nat.zero_add]
  exact g1
theorem g_zastore {a n : Nat} {g : Nat → Int32} {i : Int32} {x : Int32} (hd : decode M.2.1 pc = .ok (.bastore, 1)) (hh : h[a]? = some (.inl (3, n, .inl g))) (hin : vp_in i n) (kk : am_G X M d (pc + 1) l st (h.set a (.inl (3, n, .inl (upd g i.toNatClampNeg (vp_nar .boolean x))))) Q) : am_G X M d pc l (.int x :: .int i :: .ref a :: st) h Q := by
  have hsl : am_sl (h.set a (.inl (3, n, .inl (upd g i.toNatClampNeg (vp_nar .boolean x))))) = am_sl h := am_sl_set h a _ _ hh rfl
  have hle : (h.set a (.inl (3, n, .inl (upd g i.toNatClampNeg (vp_nar .boolean x))))).length = h.length := by simp
  refine am_G.gen (l' := l) ⟨by omega, by omega⟩ (fun p e R s m args below meth c h0 H locs ls Qs B hz hl ha hS hR k2 => ?_) kk
  have he := am_w_get (f := X.2.2.2) (dA := X.2.2.1) h 0 a _ hh
  rw [Nat.zero_add] at he
  rw [hle, hsl] at k2
  refine va_zast (D := X.2.1) B.1 B.2.1 B.2.2.2.2.2.2.2.2.1.1 ha am_D hS a 3 he rfl hin hd (fun H1 locs1 g1 _ g2 => k2 H1 locs1 ls hl ?_ g2)
  unfold am_at
  rw [am_w_set, Nat.zero_add]
  exact g1
theorem g_lastore {a n : Nat} {g : Nat → Int64} {i : Int32} {x : Int64} (hd : decode M.2.1 pc = .ok (.lastore, 1)) (hh : h[a]? = some (.inl (2, n, .inr (.inl g)))) (hin : vp_in i n) (kk : am_G X M d (pc + 1) l st (h.set a (.inl (2, n, .inr (.inl (vp_updL g i.toNatClampNeg x))))) Q) : am_G X M d pc l (.long x :: .int i :: .ref a :: st) h Q := by
  have hsl : am_sl (h.set a (.inl (2, n, .inr (.inl (vp_updL g i.toNatClampNeg x))))) = am_sl h := am_sl_set h a _ _ hh rfl
  have hle : (h.set a (.inl (2, n, .inr (.inl (vp_updL g i.toNatClampNeg x))))).length = h.length := by simp
  refine am_G.gen (l' := l) ⟨by omega, by omega⟩ (fun p e R s m args below meth c h0 H locs ls Qs B hz hl ha hS hR k2 => ?_) kk
  have he := am_w_get (f := X.2.2.2) (dA := X.2.2.1) h 0 a _ hh
  rw [Nat.zero_add] at he
  rw [hle, hsl] at k2
  refine va_last (D := X.2.1) B.1 B.2.1 B.2.2.2.2.2.2.2.2.1.1 ha am_D hS a 2 he rfl hin hd (fun H1 locs1 g1 _ g2 => k2 H1 locs1 ls hl ?_ g2)
  unfold am_at
  rw [am_w_set, Nat.zero_add]
  exact g1
theorem g_alen {a n t : Nat} {x : (Nat → Int32) ⊕ (Nat → Int64) ⊕ (Nat → UInt32) ⊕ (Nat → UInt64) ⊕ (Nat → Option Nat)} (hd : decode M.2.1 pc = .ok (.arraylength, 1)) (hh : h[a]? = some (.inl (t, n, x))) (ht : t < 7) (kk : am_G X M d (pc + 1) l (.int (Int32.ofNat n) :: st) h Q) : am_G X M d pc l (.ref a :: st) h Q := by
  refine am_G.gen (l' := l) ⟨Nat.le_refl _, Nat.le_refl _⟩ (fun p e R s m args below meth c h0 H locs ls Qs B hz hl ha hS hR k2 => ?_) kk
  have he := am_w_get (f := X.2.2.2) (dA := X.2.2.1) h 0 a _ hh
  rw [Nat.zero_add] at he
  obtain ⟨ty, hty⟩ : ∃ ty, (am_ty X.2.2.1)[t]? = some (X.2.2.1 t, ty) := by
    rcases (by omega : t = 0 ∨ t = 1 ∨ t = 2 ∨ t = 3 ∨ t = 4 ∨ t = 5 ∨ t = 6) with rfl | rfl | rfl | rfl | rfl | rfl | rfl <;> exact ⟨_, rfl⟩
  exact va_alen (D := X.2.1) B.1 B.2.1 B.2.2.2.2.2.2.2.2.1.1 ha a t he hty rfl hd (k2 H locs ls hl ha hS)
theorem g_aaload {a n t : Nat} {C : String} {g : Nat → Option Nat} {i : Int32} {k : Nat} (hd : decode M.2.1 pc = .ok (.aaload, 1)) (hh : h[a]? = some (.inl (t, n, .inr (.inr (.inr (.inr g)))))) (ht : (am_ty X.2.2.1)[t]? = some (X.2.2.1 t, .object C)) (hin : vp_in i n) (hg : g i.toNatClampNeg = some k) (kk : am_G X M d (pc + 1) l (.ref k :: st) h Q) : am_G X M d pc l (.int i :: .ref a :: st) h Q := by
  refine am_G.gen (l' := l) ⟨Nat.le_refl _, Nat.le_refl _⟩ (fun p e R s m args below meth c h0 H locs ls Qs B hz hl ha hS hR k2 => ?_) kk
  have he := am_w_get (f := X.2.2.2) (dA := X.2.2.1) h 0 a _ hh
  rw [Nat.zero_add] at he
  refine va_aldq (D := X.2.1) B.1 B.2.1 B.2.2.2.2.2.2.2.2.1.1 ha a t he ht hin hd ?_
  rw [hg]
  exact k2 H locs ls hl ha hS
theorem g_aaloadN {a n t : Nat} {C : String} {g : Nat → Option Nat} {i : Int32} (hd : decode M.2.1 pc = .ok (.aaload, 1)) (hh : h[a]? = some (.inl (t, n, .inr (.inr (.inr (.inr g)))))) (ht : (am_ty X.2.2.1)[t]? = some (X.2.2.1 t, .object C)) (hin : vp_in i n) (hg : g i.toNatClampNeg = none) (kk : am_G X M d (pc + 1) l (.null :: st) h Q) : am_G X M d pc l (.int i :: .ref a :: st) h Q := by
  refine am_G.gen (l' := l) ⟨Nat.le_refl _, Nat.le_refl _⟩ (fun p e R s m args below meth c h0 H locs ls Qs B hz hl ha hS hR k2 => ?_) kk
  have he := am_w_get (f := X.2.2.2) (dA := X.2.2.1) h 0 a _ hh
  rw [Nat.zero_add] at he
  refine va_aldq (D := X.2.1) B.1 B.2.1 B.2.2.2.2.2.2.2.2.1.1 ha a t he ht hin hd ?_
  rw [hg]
  exact k2 H locs ls hl ha hS
/-- a new cell: the rule under all that make one -/
theorem am_push {e : va_E} {H H1 : Heap} (ha : am_at X h H) (hz : H.size = X.2.2.2.1 + h.length) (o1 : ∀ q : Nat, q < H.size → H1[q]? = H[q]?) (he : va_at X.2.1 am_cl (X.2.2.2.1 + h.length, am_e X.2.2.2 X.2.2.1 e) H1) : am_at X (h ++ [e]) H1 := by
  unfold am_at
  rw [am_w_app, Nat.zero_add]
  refine va_P.app (va_P.kept ha (fun k q hk => o1 q.1 ((ha k q hk).lt))) (fun k q hk => ?_)
  have hz : k < 1 := (List.getElem?_eq_some_iff.mp hk).1
  rw [show k = 0 by omega] at hk
  cases hk
  exact he
theorem am_pushS {s : State} {H H1 : Heap} {locs : List Loc} (hS : va_S (am_A X) s.heap H locs) (z1 : H1.size = H.size + 1) (o1 : ∀ q : Nat, q < H.size → H1[q]? = H[q]?) : va_S (am_A X) s.heap H1 locs :=
  ⟨Nat.le_trans hS.1 (by omega), fun x h1 h2 => (o1 x (Nat.lt_of_lt_of_le h1 hS.1)).trans (hS.2.1 x h1 h2), hS.2.2⟩
/-- 'new' of our class ci, by the pool's entry idx of own: its fields are fs -/
def am_mk (own : String) (idx ci : Nat) (fs : List Value) : Prop := ∃ (C : String) (T : u_T) (N : Nat) (ty : Nat → FieldType), am_cl[ci]? = some (C, T, N) ∧ (∀ k, k < N → parseFieldDescriptor (T k).2.2.1 = some (ty k)) ∧ Cond.classLink own idx C ∈ am_gw ∧ Cond.instantiable C N ∈ am_gw ∧ Cond.initialized C ∈ am_gw ∧ fs.length = N ∧ (∀ f : am_z, fs.map (am_v f) = fs) ∧ ∀ j, j < N → defaultValue (ty j) = vp_V fs j
theorem g_new {idx ci : Nat} {fs : List Value} (hd : decode M.2.1 pc = .ok (.new idx, 3)) (hf : am_mk M.1.cls idx ci fs) (kk : am_G X M d (pc + 3) l (.ref h.length :: st) (h ++ [.inr (ci, fs)]) Q) : am_G X M d pc l st h Q := by
  obtain ⟨C, T, N, ty, hc, hty, h1, h2, h3, hlen, hmap, hfs⟩ := hf
  have hsl : am_sl (h ++ [.inr (ci, fs)]) = am_sl h + N := by rw [am_sl_app]; simp [am_sl, am_n, hlen]
  have hle : (h ++ [(.inr (ci, fs) : va_E)]).length = h.length + 1 := by simp
  refine am_G.gen (l' := l) ⟨by omega, by omega⟩ (fun p e R s m args below meth c h0 H locs ls Qs B hz hl ha hS hR k2 => ?_) kk
  obtain ⟨hx, hb, hml, hr, hlk, hown, hnm, hts, hK, hsz, hxt⟩ := B
  refine am_size ha hS hsz hz.1 (fun hHs => ?_)
  have hck := am_cls ci _ hc
  have hKn := hK.1.1 ci _ hc
  rw [hle, hsl] at hR k2
  refine W.newcK hx hb hown (hts _ h1) (hts _ h2) (hts _ h3) rfl hd (by have := hR.1; omega) (by have := hR.2.1; omega) hKn.2.1 hHs (fun H1 kC hkC e1 z1 o1 => ?_)
  have h5 : h.length + 1 - h0.length = h.length - h0.length + 1 := by have := hz.1; omega
  have h6 : am_sl h + N - am_sl h0 = am_sl h - am_sl h0 + N := by have := hz.2; omega
  rw [h5, h6] at k2
  refine k2 H1 locs ls hl (am_push ha hHs (fun q hq => o1 q (by omega)) ?_) (am_pushS hS (by omega) (fun q hq => o1 q (by omega)))
  refine ⟨_, hc, ?_⟩
  have h7 := (u_born ty hts hck.1 hKn hkC e1 hty).to hfs
  show t_OB (X.2.2.2.1 + h.length) (X.2.1.1 ci) N (X.2.1.2 ci) H1 (vp_V (fs.map (am_v X.2.2.2)))
  rw [hmap]
  exact h7
theorem am_newa {t : Nat} {ty : FieldType} {atype : ArrayType} {n : Int32} {N : Nat} {z : (Nat → Int32) ⊕ (Nat → Int64) ⊕ (Nat → UInt32) ⊕ (Nat → UInt64) ⊕ (Nat → Option Nat)} (hd : decode M.2.1 pc = .ok (.newarray atype, 2)) (hty : newarray.typeOf atype = ty) (hw : Cond.arrayClass ty ∈ am_gw) (ht : (am_ty X.2.2.1)[t]? = some (X.2.2.1 t, ty)) (hra : ∀ (U : State) (cA : ClassId), va_RA U cA ty → U.vm.findClass ("[" ++ ty.toString) = some cA)
    (hzc : ∀ cA : ClassId, vp_cell cA (N, z) = arrV cA N (fun _ => defaultValue ty)) (hza : am_a X.2.2.2.1 z = z) (hn : ¬ n < 0) (hN : n.toNatClampNeg = N) (hby : N * componentBytes ty ≤ 536870912)
    (kk : am_G X M d (pc + 2) l (.ref h.length :: st) (h ++ [.inl (t, N, z)]) Q) : am_G X M d pc l (.int n :: st) h Q := by
  subst hty
  have hsl : am_sl (h ++ [.inl (t, N, z)]) = am_sl h + N := by rw [am_sl_app]; simp [am_sl, am_n]
  have hle : (h ++ [(.inl (t, N, z) : va_E)]).length = h.length + 1 := by simp
  refine am_G.gen (l' := l) ⟨by omega, by omega⟩ (fun p e R s m args below meth c h0 H locs ls Qs B hz hl ha hS hR k2 => ?_) kk
  obtain ⟨hx, hb, hml, hr, hlk, hown, hnm, hts, hK, hsz, hxt⟩ := B
  refine am_size ha hS hsz hz.1 (fun hHs => ?_)
  rw [hle, hsl] at hR k2
  have h5 : h.length + 1 - h0.length = h.length - h0.length + 1 := by have := hz.1; omega
  have h6 : am_sl h + N - am_sl h0 = am_sl h - am_sl h0 + N := by have := hz.2; omega
  rw [h5, h6] at k2
  refine va_newaK hx hb (hts _ hw) rfl hd rfl hn hN hby (by have := hR.1; omega) (by have := hR.2.1; omega) hHs (fun H1 cA e1 z1 o1 hAr hNm => ?_)
  have hcA : cA = X.2.2.1 t := by
    have h8 := hra s _ (hK.1.2 t _ ht).2
    exact Option.some.inj (hNm.symm.trans h8)
  subst hcA
  refine k2 H1 locs ls hl (am_push ha hHs (fun q hq => o1 q (by omega)) ?_) (am_pushS hS (by omega) (fun q hq => o1 q (by omega)))
  show H1[X.2.2.2.1 + h.length]? = some (vp_cell (X.2.2.1 t) (N, am_a X.2.2.2.1 z))
  rw [hza, hzc]
  exact e1
theorem g_newarray_b {n : Int32} {N : Nat} (hd : decode M.2.1 pc = .ok (.newarray .byte, 2)) (hn : ¬ n < 0) (hN : n.toNatClampNeg = N) (hby : N ≤ 536870912) (kk : am_G X M d (pc + 2) l (.ref h.length :: st) (h ++ [.inl (0, N, .inl (fun _ => 0))]) Q) : am_G X M d pc l (.int n :: st) h Q :=
  am_newa (t := 0) (ty := .byte) hd rfl am_wb rfl (fun _ _ h => h) (fun _ => rfl) rfl hn hN (by show N * 1 ≤ _; omega) kk
theorem g_newarray_i {n : Int32} {N : Nat} (hd : decode M.2.1 pc = .ok (.newarray .int, 2)) (hn : ¬ n < 0) (hN : n.toNatClampNeg = N) (hby : N ≤ 134217728) (kk : am_G X M d (pc + 2) l (.ref h.length :: st) (h ++ [.inl (1, N, .inl (fun _ => 0))]) Q) : am_G X M d pc l (.int n :: st) h Q :=
  am_newa (t := 1) (ty := .int) hd rfl am_wi rfl (fun _ _ h => h) (fun _ => rfl) rfl hn hN (by show N * 4 ≤ _; omega) kk
theorem g_newarray_l {n : Int32} {N : Nat} (hd : decode M.2.1 pc = .ok (.newarray .long, 2)) (hn : ¬ n < 0) (hN : n.toNatClampNeg = N) (hby : N ≤ 67108864) (kk : am_G X M d (pc + 2) l (.ref h.length :: st) (h ++ [.inl (2, N, .inr (.inl (fun _ => 0)))]) Q) : am_G X M d pc l (.int n :: st) h Q :=
  am_newa (t := 2) (ty := .long) hd rfl am_wl rfl (fun _ _ h => h) (fun _ => rfl) rfl hn hN (by show N * 8 ≤ _; omega) kk
theorem g_newarray_z {n : Int32} {N : Nat} (hd : decode M.2.1 pc = .ok (.newarray .boolean, 2)) (hn : ¬ n < 0) (hN : n.toNatClampNeg = N) (hby : N ≤ 536870912) (kk : am_G X M d (pc + 2) l (.ref h.length :: st) (h ++ [.inl (3, N, .inl (fun _ => 0))]) Q) : am_G X M d pc l (.int n :: st) h Q :=
  am_newa (t := 3) (ty := .boolean) hd rfl am_wz rfl (fun _ _ h => h) (fun _ => rfl) rfl hn hN (by show N * 1 ≤ _; omega) kk
/-! returns -/
theorem am_end {r : Option Value} (hnt : am_nt r) (hq : Q r h) (hk : ∀ {p : Program} {e : Env} {R : Room} {s : State} {m : MethodId} {args : Array Value} {below : List Frame} {meth : Method} {c : Code} {H : Heap} {locs : List Loc} {cells slots : Nat} {ls : Array Slot} {Qc : Array Value → State → Outcome → State → Prop} {free : Addr → Prop},
      p.tables.exec = Jvm.exec → c.code = M.2.1 → meth.sig.returnType = M.2.2.2 → meth.locks = false → (∀ t : State, t.heap = H → s.WarmedH t.vm → Qc args s (.returned (r.map (am_v X.2.2.2))) t) → (∀ q ∈ locs, free q.base) → W p X.1 e R s m args below meth c H locs cells slots (MQ below Qc args s cells slots free) (F0 m pc ls (st.map (am_v X.2.2.2)))) : am_G X M d pc l st h Q := by
  refine ⟨r, h, hq, ⟨Nat.le_refl _, Nat.le_refl _⟩, fun p e s m args below meth c h0 H locs ls B hz hl ha hS => ?_⟩
  obtain ⟨hx, hb, hml, hr, hlk, hown, hnm, hts, hK, hsz, hxt⟩ := B
  refine am_size ha hS hsz hz.1 (fun hHs => ?_)
  have hW := hk (e := e) (R := am_rm d (h.length - h0.length) (am_sl h - am_sl h0)) (m := m) (args := args) (below := below) (cells := h.length - h0.length) (slots := am_sl h - am_sl h0) (ls := ls) (Qc := am_Q X r h) (free := am_A X) hx hb hr hlk (fun t ht hW => ⟨(am_o_nt hnt).mpr rfl, ⟨by rw [ht]; exact ha, by rw [ht]; exact hHs, am_K.move hK hW (by rw [ht]; exact hS.1) (fun q h1 h2 => by rw [ht]; exact hS.2.1 q h1 h2)⟩, hS.F ht⟩) hS.2.2
  intro T hT Xs
  obtain ⟨t, g1, o, g2, g3, g4, L, ⟨-, g5, g6⟩, g7⟩ := hW T hT Xs
  exact ⟨t, g1, o, g2, g3, g4, g5, L, g6, g7⟩
theorem g_ireturn {v : Int32} (hd : decode M.2.1 pc = .ok (.ireturn, 1)) (hr : M.2.2.2 = some .int) (hq : Q (some (.int v)) h) : am_G X M d pc l [.int v] h Q := am_end (am_nti v) hq (fun hx hb hr9 hlk h1 h2 => W.iret hx hb (hr9.trans hr) h1 h2 hd hlk)
theorem g_zreturn {v : Int32} (hd : decode M.2.1 pc = .ok (.ireturn, 1)) (hr : M.2.2.2 = some .boolean) (hv : v &&& 1 = v) (hq : Q (some (.int v)) h) : am_G X M d pc l [.int v] h Q := am_end (am_nti v) hq (fun hx hb hr9 hlk h1 h2 => W.zret hx hb (hr9.trans hr) (by show Value.int (v &&& 1) = _; rw [hv]) h1 h2 hd hlk)
theorem g_creturn {v : Int32} (hd : decode M.2.1 pc = .ok (.ireturn, 1)) (hr : M.2.2.2 = some .char) (hv : narrow .char (.int v) = .int v) (hq : Q (some (.int v)) h) : am_G X M d pc l [.int v] h Q := am_end (am_nti v) hq (fun hx hb hr9 hlk h1 h2 => W.zret hx hb (hr9.trans hr) hv h1 h2 hd hlk)
theorem g_lreturn {v : Int64} (hd : decode M.2.1 pc = .ok (.lreturn, 1)) (hr : M.2.2.2 = some .long) (hq : Q (some (.long v)) h) : am_G X M d pc l [.long v] h Q := am_end (am_ntl v) hq (fun hx hb hr9 hlk h1 h2 => W.lret hx hb (hr9.trans hr) h1 h2 hd hlk)
theorem g_return (hd : decode M.2.1 pc = .ok (.return_, 1)) (hr : M.2.2.2 = none) (hq : Q none h) : am_G X M d pc l [] h Q := am_end am_nt0 hq (fun hx hb hr9 hlk h1 h2 => W.vret hx hb (hr9.trans hr) h1 h2 hd hlk)
theorem g_areturn {k : Nat} {rt : FieldType} (hd : decode M.2.1 pc = .ok (.areturn, 1)) (hr : M.2.2.2 = some rt) (hrt : (∃ n, rt = .object n) ∨ ∃ t, rt = .array t) (hq : Q (some (.ref k)) h) : am_G X M d pc l [.ref k] h Q := am_end (am_ntr k) hq (fun hx hb hr9 hlk h1 h2 => W.aret hx hb (hr9.trans hr) hrt (Or.inr ⟨_, rfl⟩) h1 h2 hd hlk)
theorem g_areturnN {rt : FieldType} (hd : decode M.2.1 pc = .ok (.areturn, 1)) (hr : M.2.2.2 = some rt) (hrt : (∃ n, rt = .object n) ∨ ∃ t, rt = .array t) (hq : Q (some .null) h) : am_G X M d pc l [.null] h Q := am_end am_ntn hq (fun hx hb hr9 hlk h1 h2 => W.aret hx hb (hr9.trans hr) hrt (Or.inl rfl) h1 h2 hd hlk)
end AMH
