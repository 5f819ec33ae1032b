/-! ===== am_E, am_G and the rules, an instruction each ===== -/
abbrev am_lo : Type := List (Option Value)
def am_at (X : am_X) (h : List va_E) (H : Heap) : Prop := va_P X.2.1 am_cl (am_w X.2.2.2 X.2.2.1 0 h) H
def am_U (X : am_X) (h : List va_E) (U : State) : Prop := am_at X h U.heap ∧ U.heap.size = X.2.2.2.1 + h.length ∧ am_K X U
/-- the exceptions that the class throws; 'some (.double e)' as an answer says that e was thrown (no double is ever returned here) -/
def am_xn (e : UInt64) : String := if e = 0 then "java/lang/IllegalStateException" else "java/lang/IllegalArgumentException"
def am_o (X : am_X) (r : Option Value) (h : List va_E) (st : State) (o : Outcome) (t : State) : Prop := match r with
  | some (.double e) => ∃ (q : Addr) (ce : Cell), o = .threw q ∧ q = X.2.2.2.1 + (h.length - 1) ∧ t.heap[q]? = some ce ∧ ce.vm = .none ∧ st.vm.findClass (am_xn e) = some ce.cls
  | r => o = .returned (r.map (am_v X.2.2.2))
/-- no exception -/
def am_nt (r : Option Value) : Prop := ∀ e : UInt64, r ≠ some (.double e)
theorem am_nt0 : am_nt none := fun _ h => by cases h
theorem am_nti (v : Int32) : am_nt (some (.int v)) := fun _ h => by cases h
theorem am_ntl (v : Int64) : am_nt (some (.long v)) := fun _ h => by cases h
theorem am_ntr (k : Nat) : am_nt (some (.ref k)) := fun _ h => by cases h
theorem am_ntn : am_nt (some .null) := fun _ h => by cases h
theorem am_o_nt {X : am_X} {r : Option Value} {h : List va_E} {st : State} {o : Outcome} {t : State} (hr : am_nt r) : am_o X r h st o t ↔ o = .returned (r.map (am_v X.2.2.2)) := by
  cases r with
  | none => exact Iff.rfl
  | some v =>
    cases v with
    | double e => exact absurd rfl (hr e)
    | _ => exact Iff.rfl
def am_Q (X : am_X) (r : Option Value) (h : List va_E) : Array Value → State → Outcome → State → Prop := fun _ st o t => am_o X r h st o t ∧ am_U X h t ∧ va_F (am_A X) st t
def am_MQ (X : am_X) (below : List Frame) (args : Array Value) (s : State) (mc ms : Nat) (r : Option Value) (h : List va_E) : State → Prop := fun t =>
  ∃ o, t.status = .running ∧ Ended t below o ∧ am_Q X r h args s o t ∧ s.WarmedH t.vm ∧ ∃ L, s.sameButNew ({ t with vm := s.vm } : State) L mc ms ∧ ∀ q ∈ L, am_A X q.base
/-- a method's exception table, where it matters -/
def am_hh (y : MethodName) : Option (List (Nat × Nat × Nat × Nat)) :=
  if y = ⟨"WebFinder", "feed", "(IIIII)V"⟩ ∨ y = ⟨"WebFinder", "end", "(I)I"⟩ then some []
  else if y = ⟨"WebFinderLaw", "feed", "(LWebFinder;IIIII)I"⟩ then some [(0, 11, 14, 13)]
  else if y = ⟨"WebFinderLaw", "end", "(LWebFinder;I[J)I"⟩ then some [(0, 9, 12, 19)] else none
def am_B (X : am_X) (M : am_Mt) (p : Program) (s : State) (m : MethodId) (args : Array Value) (meth : Method) (c : Code) (h0 : List va_E) : Prop :=
  p.tables.exec = Jvm.exec ∧ c.code = M.2.1 ∧ c.maxLocals = M.2.2.1 ∧ meth.sig.returnType = M.2.2.2 ∧ meth.locks = false ∧ s.vm.findClass M.1.cls = some m.cls ∧ (M.1.name = "<init>" → meth.name = "<init>") ∧ (∀ w ∈ am_gw, w.before args s = true) ∧ am_K X s ∧ s.heap.size = X.2.2.2.1 + h0.length ∧ (∀ hh, am_hh M.1 = some hh → c.exceptionTable.toList.map (fun z => (z.startPc, z.endPc, z.handlerPc, z.catchType)) = hh)
def am_rm (d mc ms : Nat) : Room := { frames := d, cells := mc, slots := ms, locals := d * 80 }
/-- from here the method comes to its end with r, and the cells are h' then -/
def am_E (X : am_X) (M : am_Mt) (d pc : Nat) (l : am_lo) (st : List Value) (h : List va_E) (r : Option Value) (h' : List va_E) : Prop :=
  (h.length ≤ h'.length ∧ am_sl h ≤ am_sl h') ∧
  ∀ (p : Program) (e : Env) (s : State) (m : MethodId) (args : Array Value) (below : List Frame) (meth : Method) (c : Code) (h0 : List va_E) (H : Heap) (locs : List Loc) (ls : Array Slot),
    am_B X M p s m args meth c h0 → (h0.length ≤ h.length ∧ am_sl h0 ≤ am_sl h) → am_L X.2.2.2 ls M.2.2.1 l → am_at X h H → va_S (am_A X) s.heap H locs →
    W p X.1 e (am_rm d (h'.length - h0.length) (am_sl h' - am_sl h0)) s m args below meth c H locs (h.length - h0.length) (am_sl h - am_sl h0)
      (am_MQ X below args s (h'.length - h0.length) (am_sl h' - am_sl h0) r h') (F0 m pc ls (st.map (am_v X.2.2.2)))
def am_G (X : am_X) (M : am_Mt) (d pc : Nat) (l : am_lo) (st : List Value) (h : List va_E) (Q : Option Value → List va_E → Prop) : Prop := ∃ (r : Option Value) (h' : List va_E), Q r h' ∧ am_E X M d pc l st h r h'
/-- a contract: called with these values the method comes to Q -/
def am_C (X : am_X) (M : am_Mt) (d : Nat) (vs : List Value) (h : List va_E) (Q : Option Value → List va_E → Prop) : Prop := am_G X M d 0 (am_fr M.2.2.1 vs) [] h Q
theorem am_G.mono {X : am_X} {M : am_Mt} {d pc : Nat} {l : am_lo} {st : List Value} {h : List va_E} {Q Q' : Option Value → List va_E → Prop} (k : am_G X M d pc l st h Q) (hq : ∀ r h', Q r h' → Q' r h') : am_G X M d pc l st h Q' := by
  obtain ⟨r, h', q, e⟩ := k
  exact ⟨r, h', hq r h' q, e⟩
section AMB
variable {X : am_X} {M : am_Mt} {d pc pc' : Nat} {l l' : am_lo} {st st' : List Value} {h h2 : List va_E} {Q : Option Value → List va_E → Prop}
theorem am_D : va_D (am_A X) (am_w X.2.2.2 X.2.2.1 0 h) := by
  have key : ∀ (k : Nat) (q : Nat × va_E), (am_w X.2.2.2 X.2.2.1 0 h)[k]? = some q → q.1 = X.2.2.2.1 + k := by
    intro k q hk
    obtain ⟨e, h1, rfl⟩ := am_w_inv h 0 k q hk
    show X.2.2.2.1 + (0 + k) = _
    rw [Nat.zero_add]
  refine ⟨fun i j p q hi hj hpq => ?_, fun k q hk => ?_⟩
  · have := key i p hi
    have := key j q hj
    omega
  · show X.2.2.2.1 ≤ q.1
    rw [key k q hk]
    omega
/-- how many cells there are is known where all that were made are told -/
theorem am_size {p : Program} {e : Env} {R : Room} {s : State} {m : MethodId} {args : Array Value} {below : List Frame} {meth : Method} {c : Code} {h0 : List va_E} {H : Heap} {locs : List Loc} {slots : Nat} {Qs : State → Prop} {g : JFrame}
    (ha : am_at X h H) (hS : va_S (am_A X) s.heap H locs) (hs : s.heap.size = X.2.2.2.1 + h0.length) (hz : h0.length ≤ h.length)
    (k : H.size = X.2.2.2.1 + h.length → W p X.1 e R s m args below meth c H locs (h.length - h0.length) slots Qs g) : W p X.1 e R s m args below meth c H locs (h.length - h0.length) slots Qs g := by
  intro T hT Xs
  have hup : (T.setVm s.vm).heap.size ≤ s.heap.size + (h.length - h0.length) := Xs.same.2.2.1
  have hup' : H.size ≤ s.heap.size + (h.length - h0.length) := by rw [← hT]; exact hup
  have hlow : X.2.2.2.1 + h.length ≤ H.size := by
    by_cases hn : h.length = 0
    · have := hS.1
      omega
    · have hlt : h.length - 1 < h.length := by omega
      have h1 : h[h.length - 1]? = some h[h.length - 1] := List.getElem?_eq_getElem hlt
      have h2 := am_w_get (f := X.2.2.2) (dA := X.2.2.1) h 0 (h.length - 1) _ h1
      have h3 := (ha _ _ h2).lt
      have h4 : X.2.2.2.1 + (0 + (h.length - 1)) < H.size := h3
      omega
  exact k (by omega) T hT Xs
/-- the general rule: an instruction that comes to (pc', l', st', h2) -/
theorem am_G.gen (hsz : h.length ≤ h2.length ∧ am_sl h ≤ am_sl h2)
    (hk : ∀ (p : Program) (e : Env) (R : Room) (s : State) (m : MethodId) (args : Array Value) (below : List Frame) (meth : Method) (c : Code) (h0 : List va_E) (H : Heap) (locs : List Loc) (ls : Array Slot) (Qs : State → Prop),
      am_B X M p s m args meth c h0 → (h0.length ≤ h.length ∧ am_sl h0 ≤ am_sl h) → am_L X.2.2.2 ls M.2.2.1 l → am_at X h H → va_S (am_A X) s.heap H locs →
      (h2.length - h0.length ≤ R.cells ∧ am_sl h2 - am_sl h0 ≤ R.slots ∧ R.frames = d ∧ R.locals = d * 80) →
      (∀ (H' : Heap) (locs' : List Loc) (ls' : Array Slot), am_L X.2.2.2 ls' M.2.2.1 l' → am_at X h2 H' → va_S (am_A X) s.heap H' locs' →
        W p X.1 e R s m args below meth c H' locs' (h2.length - h0.length) (am_sl h2 - am_sl h0) Qs (F0 m pc' ls' (st'.map (am_v X.2.2.2)))) →
      W p X.1 e R s m args below meth c H locs (h.length - h0.length) (am_sl h - am_sl h0) Qs (F0 m pc ls (st.map (am_v X.2.2.2))))
    (k : am_G X M d pc' l' st' h2 Q) : am_G X M d pc l st h Q := by
  obtain ⟨r, h', q, ⟨e1, e2⟩, k⟩ := k
  refine ⟨r, h', q, ⟨by omega, by omega⟩, fun p e s m args below meth c h0 H locs ls B hz hl ha hS => ?_⟩
  refine hk p e _ s m args below meth c h0 H locs ls _ B hz hl ha hS ⟨?_, ?_, rfl, rfl⟩ fun H' locs' ls' hl' ha' hS' => k p e s m args below meth c h0 H' locs' ls' B ⟨by omega, by omega⟩ hl' ha' hS'
  · show _ ≤ h'.length - h0.length
    omega
  · show _ ≤ am_sl h' - am_sl h0
    omega
/-- an instruction of stack and locals that keeps both locals and cells -/
theorem am_G.go (hk : ∀ {p : Program} {e : Env} {R : Room} {s : State} {m : MethodId} {args : Array Value} {below : List Frame} {meth : Method} {c : Code} {H : Heap} {locs : List Loc} {cells slots : Nat} {ls : Array Slot} {Qs : State → Prop},
      p.tables.exec = Jvm.exec → c.code = M.2.1 → am_L X.2.2.2 ls M.2.2.1 l → W p X.1 e R s m args below meth c H locs cells slots Qs (F0 m pc' ls (st'.map (am_v X.2.2.2))) → W p X.1 e R s m args below meth c H locs cells slots Qs (F0 m pc ls (st.map (am_v X.2.2.2))))
    (k : am_G X M d pc' l st' h Q) : am_G X M d pc l st h Q :=
  am_G.gen (l := l) ⟨Nat.le_refl _, Nat.le_refl _⟩ (fun p e R s m args below meth c h0 H locs ls Qs B hz hl ha hS hR kk => hk B.1 B.2.1 hl (kk H locs ls hl ha hS)) k
/-- an instruction that writes a local -/
theorem am_G.goS (hk : ∀ {p : Program} {e : Env} {R : Room} {s : State} {m : MethodId} {args : Array Value} {below : List Frame} {meth : Method} {c : Code} {H : Heap} {locs : List Loc} {cells slots : Nat} {ls : Array Slot} {Qs : State → Prop},
      p.tables.exec = Jvm.exec → c.code = M.2.1 → am_L X.2.2.2 ls M.2.2.1 l → (∀ ls' : Array Slot, am_L X.2.2.2 ls' M.2.2.1 l' → W p X.1 e R s m args below meth c H locs cells slots Qs (F0 m pc' ls' (st'.map (am_v X.2.2.2)))) → W p X.1 e R s m args below meth c H locs cells slots Qs (F0 m pc ls (st.map (am_v X.2.2.2))))
    (k : am_G X M d pc' l' st' h Q) : am_G X M d pc l st h Q :=
  am_G.gen (l' := l') ⟨Nat.le_refl _, Nat.le_refl _⟩ (fun p e R s m args below meth c h0 H locs ls Qs B hz hl ha hS hR kk => hk B.1 B.2.1 hl (fun ls' hl' => kk H locs ls' hl' ha hS)) k
theorem g_iconst {n : Int} {v : Int32} (hd : decode M.2.1 pc = .ok (.iconst n, 1)) (hv : Int32.ofInt n = v) (k : am_G X M d (pc + 1) l (.int v :: st) h Q) : am_G X M d pc l st h Q := k.go (fun hx hb _ => lv_iconst hx hb hd hv)
theorem g_bipush {n : Int} {v : Int32} (hd : decode M.2.1 pc = .ok (.bipush n, 2)) (hv : (Int8.ofInt n).toInt32 = v) (k : am_G X M d (pc + 2) l (.int v :: st) h Q) : am_G X M d pc l st h Q := k.go (fun hx hb _ => lv_bipush hx hb hd hv)
theorem g_sipush {n : Int} {v : Int32} (hd : decode M.2.1 pc = .ok (.sipush n, 3)) (hv : (Int16.ofInt n).toInt32 = v) (k : am_G X M d (pc + 3) l (.int v :: st) h Q) : am_G X M d pc l st h Q := k.go (fun hx hb _ => lv_sipush hx hb hd hv)
theorem g_lconst {n : Fin 2} {v : Int64} (hd : decode M.2.1 pc = .ok (.lconst n, 1)) (hv : Int64.ofNat (n : Nat) = v) (k : am_G X M d (pc + 1) l (.long v :: st) h Q) : am_G X M d pc l st h Q := k.go (fun hx hb _ => lv_lconst hx hb hd hv)
theorem g_null (hd : decode M.2.1 pc = .ok (.aconst_null, 1)) (k : am_G X M d (pc + 1) l (.null :: st) h Q) : am_G X M d pc l st h Q := k.go (fun hx hb _ => lv_null hx hb hd)
theorem g_iload_n {i : Fin 4} {x : Int32} (hd : decode M.2.1 pc = .ok (.iload_n i, 1)) (hl : l[(i : Nat)]? = some (some (.int x))) (k : am_G X M d (pc + 1) l (.int x :: st) h Q) : am_G X M d pc l st h Q := k.go (fun hx hb hL => lv_iload_n hx hb hd rfl (hL.2.2 _ _ hl))
theorem g_iload {i : Nat} {x : Int32} (hd : decode M.2.1 pc = .ok (.iload i, 2)) (hl : l[i]? = some (some (.int x))) (k : am_G X M d (pc + 2) l (.int x :: st) h Q) : am_G X M d pc l st h Q := k.go (fun hx hb hL => lv_iload hx hb hd (hL.2.2 _ _ hl))
theorem g_lload_n {i : Fin 4} {x : Int64} (hd : decode M.2.1 pc = .ok (.lload_n i, 1)) (hl : l[(i : Nat)]? = some (some (.long x))) (k : am_G X M d (pc + 1) l (.long x :: st) h Q) : am_G X M d pc l st h Q := k.go (fun hx hb hL => lv_lload_n hx hb hd rfl (hL.2.2 _ _ hl))
theorem g_lload {i : Nat} {x : Int64} (hd : decode M.2.1 pc = .ok (.lload i, 2)) (hl : l[i]? = some (some (.long x))) (k : am_G X M d (pc + 2) l (.long x :: st) h Q) : am_G X M d pc l st h Q := k.go (fun hx hb hL => lv_lload hx hb hd (hL.2.2 _ _ hl))
theorem g_aload_n {i : Fin 4} {x : Nat} (hd : decode M.2.1 pc = .ok (.aload_n i, 1)) (hl : l[(i : Nat)]? = some (some (.ref x))) (k : am_G X M d (pc + 1) l (.ref x :: st) h Q) : am_G X M d pc l st h Q := k.go (fun hx hb hL => lv_aload_n hx hb hd rfl (hL.2.2 _ _ hl))
theorem g_aload {i : Nat} {x : Nat} (hd : decode M.2.1 pc = .ok (.aload i, 2)) (hl : l[i]? = some (some (.ref x))) (k : am_G X M d (pc + 2) l (.ref x :: st) h Q) : am_G X M d pc l st h Q := k.go (fun hx hb hL => lv_aload hx hb hd (hL.2.2 _ _ hl))
theorem g_aload_nN {i : Fin 4} (hd : decode M.2.1 pc = .ok (.aload_n i, 1)) (hl : l[(i : Nat)]? = some (some .null)) (k : am_G X M d (pc + 1) l (.null :: st) h Q) : am_G X M d pc l st h Q := k.go (fun hx hb hL => lv_aload_nN hx hb hd rfl (hL.2.2 _ _ hl))
theorem g_aloadN {i : Nat} (hd : decode M.2.1 pc = .ok (.aload i, 2)) (hl : l[i]? = some (some .null)) (k : am_G X M d (pc + 2) l (.null :: st) h Q) : am_G X M d pc l st h Q := k.go (fun hx hb hL => lv_aloadN hx hb hd (hL.2.2 _ _ hl))
theorem g_istore_n {i : Fin 4} {x : Int32} (hd : decode M.2.1 pc = .ok (.istore_n i, 1)) (hn : (i : Nat) < M.2.2.1) (k : am_G X M d (pc + 1) (am_p1 l i (.int x)) st h Q) : am_G X M d pc l (.int x :: st) h Q := k.goS (fun hx hb hL kk => lv_istore_n hx hb hd rfl hL.has hn rfl (fun ls' h' => kk ls' (am_L.p1 h')))
theorem g_istore {i : Nat} {x : Int32} (hd : decode M.2.1 pc = .ok (.istore i, 2)) (hn : i < M.2.2.1) (k : am_G X M d (pc + 2) (am_p1 l i (.int x)) st h Q) : am_G X M d pc l (.int x :: st) h Q := k.goS (fun hx hb hL kk => lv_istore hx hb hd hL.has hn rfl (fun ls' h' => kk ls' (am_L.p1 h')))
theorem g_lstore_n {i : Fin 4} {x : Int64} (hd : decode M.2.1 pc = .ok (.lstore_n i, 1)) (hn : (i : Nat) + 1 < M.2.2.1) (k : am_G X M d (pc + 1) (am_p2 l i (.long x)) st h Q) : am_G X M d pc l (.long x :: st) h Q := k.goS (fun hx hb hL kk => lv_lstore_n hx hb hd rfl hL.has hn rfl (fun ls' h' => kk ls' (am_L.p2 h')))
theorem g_lstore {i : Nat} {x : Int64} (hd : decode M.2.1 pc = .ok (.lstore i, 2)) (hn : i + 1 < M.2.2.1) (k : am_G X M d (pc + 2) (am_p2 l i (.long x)) st h Q) : am_G X M d pc l (.long x :: st) h Q := k.goS (fun hx hb hL kk => lv_lstore hx hb hd hL.has hn rfl (fun ls' h' => kk ls' (am_L.p2 h')))
theorem g_astore_n {i : Fin 4} {x : Nat} (hd : decode M.2.1 pc = .ok (.astore_n i, 1)) (hn : (i : Nat) < M.2.2.1) (k : am_G X M d (pc + 1) (am_p1 l i (.ref x)) st h Q) : am_G X M d pc l (.ref x :: st) h Q := k.goS (fun hx hb hL kk => lv_astore_n hx hb hd rfl hL.has hn rfl (fun ls' h' => kk ls' (am_L.p1 (v := .ref x) h')))
theorem g_astore {i : Nat} {x : Nat} (hd : decode M.2.1 pc = .ok (.astore i, 2)) (hn : i < M.2.2.1) (k : am_G X M d (pc + 2) (am_p1 l i (.ref x)) st h Q) : am_G X M d pc l (.ref x :: st) h Q := k.goS (fun hx hb hL kk => lv_astore hx hb hd hL.has hn rfl (fun ls' h' => kk ls' (am_L.p1 (v := .ref x) h')))
theorem g_astore_nN {i : Fin 4} (hd : decode M.2.1 pc = .ok (.astore_n i, 1)) (hn : (i : Nat) < M.2.2.1) (k : am_G X M d (pc + 1) (am_p1 l i .null) st h Q) : am_G X M d pc l (.null :: st) h Q := k.goS (fun hx hb hL kk => lv_astore_nN hx hb hd rfl hL.has hn rfl (fun ls' h' => kk ls' (am_L.p1 (v := .null) h')))
theorem g_astoreN {i : Nat} (hd : decode M.2.1 pc = .ok (.astore i, 2)) (hn : i < M.2.2.1) (k : am_G X M d (pc + 2) (am_p1 l i .null) st h Q) : am_G X M d pc l (.null :: st) h Q := k.goS (fun hx hb hL kk => lv_astoreN hx hb hd hL.has hn rfl (fun ls' h' => kk ls' (am_L.p1 (v := .null) h')))
theorem g_iinc {i : Nat} {n : Int} {x v : Int32} (hd : decode M.2.1 pc = .ok (.iinc i n, 3)) (hl : l[i]? = some (some (.int x))) (hv : x + Int32.ofInt n = v) (hn : i < M.2.2.1) (k : am_G X M d (pc + 3) (am_p1 l i (.int v)) st h Q) : am_G X M d pc l st h Q := k.goS (fun hx hb hL kk => by
  obtain ⟨q, hq⟩ := List.getElem?_of_mem (am_al_in (f := X.2.2.2) l 0 i (.int x) hl)
  rw [Nat.zero_add] at hq
  exact lv_iinc hx hb hd hL.has hq hv hn rfl (fun ls' h' => kk ls' (am_L.p1 h')))
theorem g_iadd {x y v : Int32} (hd : decode M.2.1 pc = .ok (.iadd, 1)) (hv : x + y = v) (k : am_G X M d (pc + 1) l (.int v :: st) h Q) : am_G X M d pc l (.int y :: .int x :: st) h Q := by subst hv; exact k.go (fun hx hb _ => lv_iadd hx hb hd)
theorem g_isub {x y v : Int32} (hd : decode M.2.1 pc = .ok (.isub, 1)) (hv : x - y = v) (k : am_G X M d (pc + 1) l (.int v :: st) h Q) : am_G X M d pc l (.int y :: .int x :: st) h Q := by subst hv; exact k.go (fun hx hb _ => lv_isub hx hb hd)
theorem g_imul {x y v : Int32} (hd : decode M.2.1 pc = .ok (.imul, 1)) (hv : x * y = v) (k : am_G X M d (pc + 1) l (.int v :: st) h Q) : am_G X M d pc l (.int y :: .int x :: st) h Q := by subst hv; exact k.go (fun hx hb _ => lv_imul hx hb hd)
theorem g_iand {x y v : Int32} (hd : decode M.2.1 pc = .ok (.iand, 1)) (hv : x &&& y = v) (k : am_G X M d (pc + 1) l (.int v :: st) h Q) : am_G X M d pc l (.int y :: .int x :: st) h Q := by subst hv; exact k.go (fun hx hb _ => lv_iand hx hb hd)
theorem g_ior {x y v : Int32} (hd : decode M.2.1 pc = .ok (.ior, 1)) (hv : x ||| y = v) (k : am_G X M d (pc + 1) l (.int v :: st) h Q) : am_G X M d pc l (.int y :: .int x :: st) h Q := by subst hv; exact k.go (fun hx hb _ => lv_ior hx hb hd)
theorem g_idiv {x y v : Int32} (hd : decode M.2.1 pc = .ok (.idiv, 1)) (hy : ¬ y = 0) (hv : x / y = v) (k : am_G X M d (pc + 1) l (.int v :: st) h Q) : am_G X M d pc l (.int y :: .int x :: st) h Q := by subst hv; exact k.go (fun hx hb _ => lv_idiv hx hb hd hy)
theorem g_irem {x y v : Int32} (hd : decode M.2.1 pc = .ok (.irem, 1)) (hy : ¬ y = 0) (hv : x - x / y * y = v) (k : am_G X M d (pc + 1) l (.int v :: st) h Q) : am_G X M d pc l (.int y :: .int x :: st) h Q := by subst hv; exact k.go (fun hx hb _ => lv_irem hx hb hd hy)
theorem g_ishl {x y v : Int32} (hd : decode M.2.1 pc = .ok (.ishl, 1)) (hv : x <<< (y &&& 31) = v) (k : am_G X M d (pc + 1) l (.int v :: st) h Q) : am_G X M d pc l (.int y :: .int x :: st) h Q := by subst hv; exact k.go (fun hx hb _ => lv_ishl hx hb hd)
theorem g_ishr {x y v : Int32} (hd : decode M.2.1 pc = .ok (.ishr, 1)) (hv : x >>> (y &&& 31) = v) (k : am_G X M d (pc + 1) l (.int v :: st) h Q) : am_G X M d pc l (.int y :: .int x :: st) h Q := by subst hv; exact k.go (fun hx hb _ => lv_ishr hx hb hd)
theorem g_ladd {x y v : Int64} (hd : decode M.2.1 pc = .ok (.ladd, 1)) (hv : x + y = v) (k : am_G X M d (pc + 1) l (.long v :: st) h Q) : am_G X M d pc l (.long y :: .long x :: st) h Q := by subst hv; exact k.go (fun hx hb _ => lv_ladd hx hb hd)
theorem g_lmul {x y v : Int64} (hd : decode M.2.1 pc = .ok (.lmul, 1)) (hv : x * y = v) (k : am_G X M d (pc + 1) l (.long v :: st) h Q) : am_G X M d pc l (.long y :: .long x :: st) h Q := by subst hv; exact k.go (fun hx hb _ => lv_lmul hx hb hd)
theorem g_ldiv {x y v : Int64} (hd : decode M.2.1 pc = .ok (.ldiv, 1)) (hy : ¬ y = 0) (hv : x / y = v) (k : am_G X M d (pc + 1) l (.long v :: st) h Q) : am_G X M d pc l (.long y :: .long x :: st) h Q := by subst hv; exact k.go (fun hx hb _ => lv_ldiv hx hb hd hy)
theorem g_i2l {x : Int32} {v : Int64} (hd : decode M.2.1 pc = .ok (.i2l, 1)) (hv : x.toInt64 = v) (k : am_G X M d (pc + 1) l (.long v :: st) h Q) : am_G X M d pc l (.int x :: st) h Q := by subst hv; exact k.go (fun hx hb _ => lv_i2l hx hb hd rfl)
theorem g_l2i {x : Int64} {v : Int32} (hd : decode M.2.1 pc = .ok (.l2i, 1)) (hv : x.toInt32 = v) (k : am_G X M d (pc + 1) l (.int v :: st) h Q) : am_G X M d pc l (.long x :: st) h Q := by subst hv; exact k.go (fun hx hb _ => lv_l2i hx hb hd rfl)
theorem g_i2b {x : Int32} {v : Int32} (hd : decode M.2.1 pc = .ok (.i2b, 1)) (hv : x.toInt8.toInt32 = v) (k : am_G X M d (pc + 1) l (.int v :: st) h Q) : am_G X M d pc l (.int x :: st) h Q := by subst hv; exact k.go (fun hx hb _ => lv_i2b hx hb hd rfl)
theorem g_i2c {x : Int32} {v : Int32} (hd : decode M.2.1 pc = .ok (.i2c, 1)) (hv : (x.toUInt32 % 65536).toInt32 = v) (k : am_G X M d (pc + 1) l (.int v :: st) h Q) : am_G X M d pc l (.int x :: st) h Q := by subst hv; exact k.go (fun hx hb _ => lv_i2c hx hb hd rfl)
theorem g_dup {v : Value} (hd : decode M.2.1 pc = .ok (.dup, 1)) (hv : v.category = 1) (k : am_G X M d (pc + 1) l (v :: v :: st) h Q) : am_G X M d pc l (v :: st) h Q := k.go (fun hx hb _ => lv_dup hx hb hd ((am_v_cat _ v).trans hv))
theorem g_pop {v : Value} (hd : decode M.2.1 pc = .ok (.pop, 1)) (hv : v.category = 1) (k : am_G X M d (pc + 1) l st h Q) : am_G X M d pc l (v :: st) h Q := k.go (fun hx hb _ => lv_pop hx hb hd ((am_v_cat _ v).trans hv))
theorem g_dup_x1 {v w : Value} (hd : decode M.2.1 pc = .ok (.dup_x1, 1)) (hv : v.category = 1) (hw : w.category = 1) (k : am_G X M d (pc + 1) l (v :: w :: v :: st) h Q) : am_G X M d pc l (v :: w :: st) h Q := k.go (fun hx hb _ => lv_dup_x1 hx hb hd ((am_v_cat _ v).trans hv) ((am_v_cat _ w).trans hw))
theorem g_dup2 {v w : Value} (hd : decode M.2.1 pc = .ok (.dup2, 1)) (hv : v.category = 1) (hw : w.category = 1) (k : am_G X M d (pc + 1) l (v :: w :: v :: w :: st) h Q) : am_G X M d pc l (v :: w :: st) h Q := k.go (fun hx hb _ => lv_dup2_11 hx hb hd ((am_v_cat _ v).trans hv) ((am_v_cat _ w).trans hw))
theorem g_goto {off : Int} {tgt : Nat} (hd : decode M.2.1 pc = .ok (.goto off, 3)) (ht : (pc : Int) + off = (tgt : Int)) (k : am_G X M d tgt l st h Q) : am_G X M d pc l st h Q := k.go (fun hx hb _ => lv_goto hx hb hd ht)
theorem g_ifnull {x : Nat} {off : Int} (hd : decode M.2.1 pc = .ok (.ifnull off, 3)) (k : am_G X M d (pc + 3) l st h Q) : am_G X M d pc l (.ref x :: st) h Q := k.go (fun hx hb _ => lv_ifnull hx hb hd)
theorem g_ifnullN {off : Int} {tgt : Nat} (hd : decode M.2.1 pc = .ok (.ifnull off, 3)) (ht : (pc : Int) + off = (tgt : Int)) (k : am_G X M d tgt l st h Q) : am_G X M d pc l (.null :: st) h Q := k.go (fun hx hb _ => lv_ifnullN hx hb hd ht)
theorem g_ifnonnull {x : Nat} {off : Int} {tgt : Nat} (hd : decode M.2.1 pc = .ok (.ifnonnull off, 3)) (ht : (pc : Int) + off = (tgt : Int)) (k : am_G X M d tgt l st h Q) : am_G X M d pc l (.ref x :: st) h Q := k.go (fun hx hb _ => lv_ifnonnull hx hb hd ht)
theorem g_ifnonnullN {off : Int} (hd : decode M.2.1 pc = .ok (.ifnonnull off, 3)) (k : am_G X M d (pc + 3) l st h Q) : am_G X M d pc l (.null :: st) h Q := k.go (fun hx hb _ => lv_ifnonnullN hx hb hd)
theorem g_if_eq {x : Int32} {off : Int} {tgt : Nat} (hd : decode M.2.1 pc = .ok (.ifCond .eq off, 3)) (ht : (pc : Int) + off = (tgt : Int)) (kt : x = 0 → am_G X M d tgt l st h Q) (kf : ¬ x = 0 → am_G X M d (pc + 3) l st h Q) : am_G X M d pc l (.int x :: st) h Q := by
  by_cases hc : x = 0
  · exact (kt hc).go (fun hx hb _ k => lv_if_eq hx hb hd ht (fun _ => k) (fun z => absurd hc (by first | exact z | simpa using z)))
  · exact (kf (by first | exact hc | simpa using hc)).go (fun hx hb _ k => lv_if_eq hx hb hd ht (fun z => absurd z hc) (fun _ => k))
theorem g_icmp_eq {x y : Int32} {off : Int} {tgt : Nat} (hd : decode M.2.1 pc = .ok (.if_icmp .eq off, 3)) (ht : (pc : Int) + off = (tgt : Int)) (kt : x = y → am_G X M d tgt l st h Q) (kf : ¬ x = y → am_G X M d (pc + 3) l st h Q) : am_G X M d pc l (.int y :: .int x :: st) h Q := by
  by_cases hc : x = y
  · exact (kt hc).go (fun hx hb _ k => lv_icmp_eq hx hb hd ht (fun _ => k) (fun z => absurd hc (by first | exact z | simpa using z)))
  · exact (kf (by first | exact hc | simpa using hc)).go (fun hx hb _ k => lv_icmp_eq hx hb hd ht (fun z => absurd z hc) (fun _ => k))
theorem g_if_ne {x : Int32} {off : Int} {tgt : Nat} (hd : decode M.2.1 pc = .ok (.ifCond .ne off, 3)) (ht : (pc : Int) + off = (tgt : Int)) (kt : ¬ x = 0 → am_G X M d tgt l st h Q) (kf : x = 0 → am_G X M d (pc + 3) l st h Q) : am_G X M d pc l (.int x :: st) h Q := by
  by_cases hc : ¬ x = 0
  · exact (kt hc).go (fun hx hb _ k => lv_if_ne hx hb hd ht (fun _ => k) (fun z => absurd hc (by first | exact z | simpa using z)))
  · exact (kf (by first | exact hc | simpa using hc)).go (fun hx hb _ k => lv_if_ne hx hb hd ht (fun z => absurd z hc) (fun _ => k))
theorem g_icmp_ne {x y : Int32} {off : Int} {tgt : Nat} (hd : decode M.2.1 pc = .ok (.if_icmp .ne off, 3)) (ht : (pc : Int) + off = (tgt : Int)) (kt : ¬ x = y → am_G X M d tgt l st h Q) (kf : x = y → am_G X M d (pc + 3) l st h Q) : am_G X M d pc l (.int y :: .int x :: st) h Q := by
  by_cases hc : ¬ x = y
  · exact (kt hc).go (fun hx hb _ k => lv_icmp_ne hx hb hd ht (fun _ => k) (fun z => absurd hc (by first | exact z | simpa using z)))
  · exact (kf (by first | exact hc | simpa using hc)).go (fun hx hb _ k => lv_icmp_ne hx hb hd ht (fun z => absurd z hc) (fun _ => k))
theorem g_if_lt {x : Int32} {off : Int} {tgt : Nat} (hd : decode M.2.1 pc = .ok (.ifCond .lt off, 3)) (ht : (pc : Int) + off = (tgt : Int)) (kt : x < 0 → am_G X M d tgt l st h Q) (kf : ¬ x < 0 → am_G X M d (pc + 3) l st h Q) : am_G X M d pc l (.int x :: st) h Q := by
  by_cases hc : x < 0
  · exact (kt hc).go (fun hx hb _ k => lv_if_lt hx hb hd ht (fun _ => k) (fun z => absurd hc (by first | exact z | simpa using z)))
  · exact (kf (by first | exact hc | simpa using hc)).go (fun hx hb _ k => lv_if_lt hx hb hd ht (fun z => absurd z hc) (fun _ => k))
theorem g_icmp_lt {x y : Int32} {off : Int} {tgt : Nat} (hd : decode M.2.1 pc = .ok (.if_icmp .lt off, 3)) (ht : (pc : Int) + off = (tgt : Int)) (kt : x < y → am_G X M d tgt l st h Q) (kf : ¬ x < y → am_G X M d (pc + 3) l st h Q) : am_G X M d pc l (.int y :: .int x :: st) h Q := by
  by_cases hc : x < y
  · exact (kt hc).go (fun hx hb _ k => lv_icmp_lt hx hb hd ht (fun _ => k) (fun z => absurd hc (by first | exact z | simpa using z)))
  · exact (kf (by first | exact hc | simpa using hc)).go (fun hx hb _ k => lv_icmp_lt hx hb hd ht (fun z => absurd z hc) (fun _ => k))
theorem g_if_ge {x : Int32} {off : Int} {tgt : Nat} (hd : decode M.2.1 pc = .ok (.ifCond .ge off, 3)) (ht : (pc : Int) + off = (tgt : Int)) (kt : 0 ≤ x → am_G X M d tgt l st h Q) (kf : ¬ 0 ≤ x → am_G X M d (pc + 3) l st h Q) : am_G X M d pc l (.int x :: st) h Q := by
  by_cases hc : 0 ≤ x
  · exact (kt hc).go (fun hx hb _ k => lv_if_ge hx hb hd ht (fun _ => k) (fun z => absurd hc (by first | exact z | simpa using z)))
  · exact (kf (by first | exact hc | simpa using hc)).go (fun hx hb _ k => lv_if_ge hx hb hd ht (fun z => absurd z hc) (fun _ => k))
theorem g_icmp_ge {x y : Int32} {off : Int} {tgt : Nat} (hd : decode M.2.1 pc = .ok (.if_icmp .ge off, 3)) (ht : (pc : Int) + off = (tgt : Int)) (kt : y ≤ x → am_G X M d tgt l st h Q) (kf : ¬ y ≤ x → am_G X M d (pc + 3) l st h Q) : am_G X M d pc l (.int y :: .int x :: st) h Q := by
  by_cases hc : y ≤ x
  · exact (kt hc).go (fun hx hb _ k => lv_icmp_ge hx hb hd ht (fun _ => k) (fun z => absurd hc (by first | exact z | simpa using z)))
  · exact (kf (by first | exact hc | simpa using hc)).go (fun hx hb _ k => lv_icmp_ge hx hb hd ht (fun z => absurd z hc) (fun _ => k))
theorem g_if_gt {x : Int32} {off : Int} {tgt : Nat} (hd : decode M.2.1 pc = .ok (.ifCond .gt off, 3)) (ht : (pc : Int) + off = (tgt : Int)) (kt : 0 < x → am_G X M d tgt l st h Q) (kf : ¬ 0 < x → am_G X M d (pc + 3) l st h Q) : am_G X M d pc l (.int x :: st) h Q := by
  by_cases hc : 0 < x
  · exact (kt hc).go (fun hx hb _ k => lv_if_gt hx hb hd ht (fun _ => k) (fun z => absurd hc (by first | exact z | simpa using z)))
  · exact (kf (by first | exact hc | simpa using hc)).go (fun hx hb _ k => lv_if_gt hx hb hd ht (fun z => absurd z hc) (fun _ => k))
theorem g_icmp_gt {x y : Int32} {off : Int} {tgt : Nat} (hd : decode M.2.1 pc = .ok (.if_icmp .gt off, 3)) (ht : (pc : Int) + off = (tgt : Int)) (kt : y < x → am_G X M d tgt l st h Q) (kf : ¬ y < x → am_G X M d (pc + 3) l st h Q) : am_G X M d pc l (.int y :: .int x :: st) h Q := by
  by_cases hc : y < x
  · exact (kt hc).go (fun hx hb _ k => lv_icmp_gt hx hb hd ht (fun _ => k) (fun z => absurd hc (by first | exact z | simpa using z)))
  · exact (kf (by first | exact hc | simpa using hc)).go (fun hx hb _ k => lv_icmp_gt hx hb hd ht (fun z => absurd z hc) (fun _ => k))
theorem g_if_le {x : Int32} {off : Int} {tgt : Nat} (hd : decode M.2.1 pc = .ok (.ifCond .le off, 3)) (ht : (pc : Int) + off = (tgt : Int)) (kt : x ≤ 0 → am_G X M d tgt l st h Q) (kf : ¬ x ≤ 0 → am_G X M d (pc + 3) l st h Q) : am_G X M d pc l (.int x :: st) h Q := by
  by_cases hc : x ≤ 0
  · exact (kt hc).go (fun hx hb _ k => lv_if_le hx hb hd ht (fun _ => k) (fun z => absurd hc (by first | exact z | simpa using z)))
  · exact (kf (by first | exact hc | simpa using hc)).go (fun hx hb _ k => lv_if_le hx hb hd ht (fun z => absurd z hc) (fun _ => k))
theorem g_icmp_le {x y : Int32} {off : Int} {tgt : Nat} (hd : decode M.2.1 pc = .ok (.if_icmp .le off, 3)) (ht : (pc : Int) + off = (tgt : Int)) (kt : x ≤ y → am_G X M d tgt l st h Q) (kf : ¬ x ≤ y → am_G X M d (pc + 3) l st h Q) : am_G X M d pc l (.int y :: .int x :: st) h Q := by
  by_cases hc : x ≤ y
  · exact (kt hc).go (fun hx hb _ k => lv_icmp_le hx hb hd ht (fun _ => k) (fun z => absurd hc (by first | exact z | simpa using z)))
  · exact (kf (by first | exact hc | simpa using hc)).go (fun hx hb _ k => lv_icmp_le hx hb hd ht (fun z => absurd z hc) (fun _ => k))
theorem g_lcmp {x y : Int64} {v : Int32} (hd : decode M.2.1 pc = .ok (.lcmp, 1)) (hv : lg_cmp x y = v) (k : am_G X M d (pc + 1) l (.int v :: st) h Q) : am_G X M d pc l (.long y :: .long x :: st) h Q := by subst hv; exact k.go (fun hx hb _ => W.lcmp hx hb hd)
theorem g_lookup {dflt : Int} {ps : Array (Int × Int)} {len : Nat} {x : Int32} {off : Int} {tgt : Nat} (hd : decode M.2.1 pc = .ok (.lookupswitch dflt ps, len)) (hp : (ps.toList.zip (ps.toList.drop 1)).all (fun (a, next) => a.1 < next.1) = true) (ho : Op.lookupswitch.offset ps.toList dflt x.toInt = off) (ht : (pc : Int) + off = (tgt : Int)) (k : am_G X M d tgt l st h Q) : am_G X M d pc l (.int x :: st) h Q := k.go (fun hx hb _ => lv_lookup hx hb hd hp ho ht)
theorem g_tableIn {dflt lo hi : Int} {offs : Array Int} {len : Nat} {x : Int32} {off : Int} {tgt : Nat} (hd : decode M.2.1 pc = .ok (.tableswitch dflt lo hi offs, len)) (h1 : ¬ x.toInt < lo) (h2 : ¬ hi < x.toInt) (ho : offs[(x.toInt - lo).toNat]? = some off) (ht : (pc : Int) + off = (tgt : Int)) (k : am_G X M d tgt l st h Q) : am_G X M d pc l (.int x :: st) h Q := k.go (fun hx hb _ => lv_tableIn hx hb hd h1 h2 ho ht)
theorem g_tableOut {dflt lo hi : Int} {offs : Array Int} {len : Nat} {x : Int32} {tgt : Nat} (hd : decode M.2.1 pc = .ok (.tableswitch dflt lo hi offs, len)) (h1 : x.toInt < lo ∨ hi < x.toInt) (ht : (pc : Int) + dflt = (tgt : Int)) (k : am_G X M d tgt l st h Q) : am_G X M d pc l (.int x :: st) h Q := k.go (fun hx hb _ => lv_tableOut hx hb hd h1 ht)
/-! constants of the pool -/
theorem g_ldc {index : Nat} {v : Int32} (hd : decode M.2.1 pc = .ok (.ldc index, 2)) (hw : Cond.constant M.1.cls index v ∈ am_gw) (k : am_G X M d (pc + 2) l (.int v :: st) h Q) : am_G X M d pc l st h Q :=
  am_G.gen (l' := l) ⟨Nat.le_refl _, Nat.le_refl _⟩ (fun p e R s m args below meth c h0 H locs ls Qs B hz hl ha hS hR kk => lv_ldc B.1 B.2.1 B.2.2.2.2.2.1 (B.2.2.2.2.2.2.2.1 _ hw) hd (kk H locs ls hl ha hS)) k
theorem g_ldc2 {index : Nat} {v : Int64} (hd : decode M.2.1 pc = .ok (.ldc2_w index, 3)) (hw : Cond.constantLong M.1.cls index v ∈ am_gw) (k : am_G X M d (pc + 3) l (.long v :: st) h Q) : am_G X M d pc l st h Q :=
  am_G.gen (l' := l) ⟨Nat.le_refl _, Nat.le_refl _⟩ (fun p e R s m args below meth c h0 H locs ls Qs B hz hl ha hS hR kk => lv_ldc2 B.1 B.2.1 B.2.2.2.2.2.1 (B.2.2.2.2.2.2.2.1 _ hw) hd (kk H locs ls hl ha hS)) k
end AMB
