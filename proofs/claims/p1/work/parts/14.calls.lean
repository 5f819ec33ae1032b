/-! ===== calls ===== -/
theorem am_en_len (f : am_z) : ∀ vs : List Value, (lg_sl (vs.map (am_v f))).length = (am_en vs).length
  | [] => rfl
  | v :: t => by
    have ih := am_en_len f t
    by_cases hc : v.category = 2
    · simp only [lg_sl, List.map_cons, List.flatMap_cons, am_v_cat, hc, if_true, List.length_append, am_en, List.length_cons] at ih ⊢
      rw [ih]
      simp
      omega
    · simp only [lg_sl, List.map_cons, List.flatMap_cons, am_v_cat, hc, if_false, List.length_append, am_en, List.length_cons] at ih ⊢
      rw [ih]
      simp
      omega
/-- a method that may be called: its words, its number of parameters n -/
def am_mo (M : am_Mt) (n : Nat) : Prop := (plainFor M.1 = true ∧ (am_hh M.1).getD [] = []) ∧ M.2.2.1 ≤ 61 ∧ (M.1.cls ≠ "java/lang/invoke/MethodHandle" ∧ M.1.cls ≠ "java/lang/invoke/VarHandle") ∧ Cond.code M.1 M.2.1 M.2.2.1 M.2.2.2 ∈ am_gw ∧ Cond.initialized M.1.cls ∈ am_gw ∧ (parseMethodDescriptor M.1.desc).map (fun d => d.parameters.length) = some n
/-- the pool's entry idx of own is method y -/
def am_ln (own : String) (idx : Nat) (y : MethodName) : Prop := Cond.methodLink own idx y ∈ am_gw ∨ ∃ host, Cond.methodLinkNest own idx y host ∈ am_nw
theorem am_good : GoodIn am_gw am_gw := fun w hw => ⟨hw, good_of_word (List.mem_filter.mp hw).2⟩
theorem am_goodc {M : am_Mt} {n : Nat} (h : am_mo M n) : GoodIn am_gw (Cond.code M.1 M.2.1 M.2.2.1 M.2.2.2 :: am_gw) := fun w hw => by
  rcases List.mem_cons.mp hw with rfl | hw
  · exact ⟨h.2.2.2.1, Or.inl rfl⟩
  · exact am_good w hw
theorem am_tab {y : MethodName} {bytes : ByteArray} {maxL : Nat} {ret : Option FieldType} {args : Array Value} {s : State} {m : MethodId} {meth : Method} {c : Code} (h0 : (am_hh y).getD [] = []) (hn : s.methodNamed? y = some m) (hm : s.vm.method? m = some meth) (hc : meth.code = some c) (h : (Cond.code y bytes maxL ret).before args s = true) (hh : List (Nat × Nat × Nat × Nat)) (he : am_hh y = some hh) : c.exceptionTable.toList.map (fun z => (z.startPc, z.endPc, z.handlerPc, z.catchType)) = hh := by
  obtain ⟨meth', c', h1, h2, -, -, -, -, h3, -⟩ := Cond.code_spec hn h
  cases hm.symm.trans h1
  cases hc.symm.trans h2
  rw [he] at h0
  have e1 : hh = [] := h0
  rw [e1]
  have e2 : c.exceptionTable = #[] := by simpa using h3
  rw [e2]
  rfl
section AMC
variable {X : am_X} {M M' : am_Mt} {d pc : Nat} {l : am_lo} {st vs : List Value} {h h1 : List va_E} {Q Q' : Option Value → List va_E → Prop}
theorem am_blind : FrameBlind (va_Pc (vs.map (am_v X.2.2.2)) (am_U X h)) := fun _ _ _ _ q => ⟨q.1, q.2.1, q.2.2.1, am_K.calling q.2.2.2⟩
theorem am_met {r : Option Value} (hnt : am_nt r) (hy : plainFor M.1 = true ∧ (am_hh M.1).getD [] = []) (hn : (am_en vs).length ≤ M.2.2.1) (hE : am_E X M d 0 (am_fr M.2.2.1 vs) [] h r h1) :
    Met X.1 M.1 (Cond.code M.1 M.2.1 M.2.2.1 M.2.2.2 :: am_gw) (am_rm d (h1.length - h.length) (am_sl h1 - am_sl h)) (va_Pc (vs.map (am_v X.2.2.2)) (am_U X h)) (am_Q X r h1) (h1.length - h.length) (am_sl h1 - am_sl h) (am_A X) := by
  refine va_MetF (cc := M.2.1) (maxL := M.2.2.1) (ret := M.2.2.2) hy.1 rfl ?_
  intro p e s m args below meth c s₁ B hml hv
  obtain ⟨rfl, hU⟩ := hv
  have hts := atoms_spec (ws := Cond.code M.1 M.2.1 M.2.2.1 M.2.2.2 :: am_gw) B.pre
  have hown : s.vm.findClass M.1.cls = some m.cls := findClass_of_methodNamed B.named
  have hnm : M.1.name = "<init>" → meth.name = "<init>" := fun h9 => (name_of_methodNamed B.named B.method).1.trans h9
  have hl := lv_entry (vs.map (am_v X.2.2.2)) (n := M.2.2.1) (by rw [am_en_len]; exact hn)
  rw [lg_entry_eq]
  have hW := hE.2 p e s m (vs.map (am_v X.2.2.2)).toArray below meth c h s.heap [] _ ⟨B.exec, B.bytes, hml, B.returns, B.notSynchronized, hown, hnm, fun w hw => hts w (List.mem_cons_of_mem _ hw), hU.2.2, hU.2.1, am_tab hy.2 B.named B.method (Stand.of_body B).code (hts _ List.mem_cons_self)⟩ ⟨Nat.le_refl _, Nat.le_refl _⟩ (am_L.entry hl) hU.1 va_S.rf
  rw [Nat.sub_self, Nat.sub_self] at hW
  intro T hT Xs
  obtain ⟨t, g1, o, g2, g3, g4, g5, L, g6, g7⟩ := hW T hT Xs
  exact ⟨t, g1, o, g2, g3, g4, L, ⟨⟨_, (am_o_nt hnt).mp g4.1⟩, g5, g6⟩, g7⟩
theorem am_run {p : Program} {e : Env} {R : Room} {s : State} {m : MethodId} {args aa : Array Value} {below : List Frame} {meth : Method} {c : Code} {h0 : List va_E} {H : Heap} {locs : List Loc} {ls : Array Slot} {Qs : State → Prop} {S0 rest : List Value} {r1 : Option Value}
    (hz : h0.length ≤ h.length ∧ am_sl h0 ≤ am_sl h) (hz1 : h.length ≤ h1.length ∧ am_sl h ≤ am_sl h1) (hS : va_S (am_A X) s.heap H locs)
    (hnt : am_nt r1) (hrun : va_Run p X.1 e R s m args below meth c H locs (h.length - h0.length) (am_sl h - am_sl h0) (h1.length - h.length) (am_sl h1 - am_sl h) (F0 m pc ls S0) rest (am_Q X r1 h1 aa) (am_A X))
    (kk : ∀ (H' : Heap) (locs' : List Loc), am_at X h1 H' → va_S (am_A X) s.heap H' locs' → W p X.1 e R s m args below meth c H' locs' (h1.length - h0.length) (am_sl h1 - am_sl h0) Qs (F0 m (pc + 3) ls ((r1.map (am_v X.2.2.2)).toList ++ rest))) :
    W p X.1 e R s m args below meth c H locs (h.length - h0.length) (am_sl h - am_sl h0) Qs (F0 m pc ls S0) := by
  intro T hT Xs
  obtain ⟨v, st₀, t, T', L, g0, X', hL, e1, e2, ⟨hv, hU, hF⟩, step⟩ := hrun T hT Xs
  have hv' : v = r1.map (am_v X.2.2.2) := by have h9 := (am_o_nt hnt).mp hv; injection h9
  subst hv'
  have a1 : h.length - h0.length + (h1.length - h.length) = h1.length - h0.length := by omega
  have a2 : am_sl h - am_sl h0 + (am_sl h1 - am_sl h) = am_sl h1 - am_sl h0 := by omega
  rw [a1, a2] at X'
  obtain ⟨f1, f2⟩ := hF
  rw [g0] at f1 f2
  obtain ⟨t2, b1, b2⟩ := kk T'.heap (locs ++ L) (by rw [e1]; exact hU.1) ⟨Nat.le_trans hS.1 (by rw [e1]; exact f1), fun q q1 q2 => by rw [e1, f2 q (Nat.lt_of_lt_of_le q1 hS.1) q2]; exact hS.2.1 q q1 q2, fun q hq => by
    rcases List.mem_append.mp hq with z | z
    · exact hS.2.2 q z
    · exact hL q z⟩ T' rfl X'
  exact ⟨t2, step t2 b1, b2⟩
/-- the rule under all calls -/
theorem am_call {S0 rest : List Value} (hz1 : ∀ r h1, am_nt r → am_E X M' d 0 (am_fr M'.2.2.1 vs) [] h r h1 → ∀ (p : Program) (e : Env) (R : Room) (s : State) (m : MethodId) (args : Array Value) (below : List Frame) (meth : Method) (c : Code) (h0 : List va_E) (H : Heap) (locs : List Loc) (ls : Array Slot),
      am_B X M p s m args meth c h0 → (h0.length ≤ h.length ∧ am_sl h0 ≤ am_sl h) → am_L X.2.2.2 ls M.2.2.1 l → am_at X h H → H.size = X.2.2.2.1 + h.length → va_S (am_A X) s.heap H locs → (h1.length - h0.length ≤ R.cells ∧ am_sl h1 - am_sl h0 ≤ R.slots ∧ R.frames = d + 1 ∧ R.locals = (d + 1) * 80) → (h.length ≤ h1.length ∧ am_sl h ≤ am_sl h1) →
      ∃ aa, va_Run p X.1 e R s m args below meth c H locs (h.length - h0.length) (am_sl h - am_sl h0) (h1.length - h.length) (am_sl h1 - am_sl h) (F0 m pc ls (S0.map (am_v X.2.2.2))) (rest.map (am_v X.2.2.2)) (am_Q X r h1 aa) (am_A X))
    (hc : am_C X M' d vs h Q') (hk : ∀ r h1, Q' r h1 → am_nt r ∧ am_G X M (d + 1) (pc + 3) l (r.toList ++ rest) h1 Q) : am_G X M (d + 1) pc l S0 h Q := by
  obtain ⟨r1, h1, hq, hE⟩ := hc
  have hle := hE.1
  refine am_G.gen (l' := l) hle (fun p e R s m args below meth c h0 H locs ls Qs B hz hl ha hS hR k2 => ?_) (hk r1 h1 hq).2
  refine am_size ha hS B.2.2.2.2.2.2.2.2.2.1 hz.1 (fun hHs => ?_)
  obtain ⟨aa, hrun⟩ := hz1 r1 h1 (hk r1 h1 hq).1 hE p e R s m args below meth c h0 H locs ls B hz hl ha hHs hS hR hle
  refine am_run hz hle hS (hk r1 h1 hq).1 hrun (fun H' locs' g1 g2 => ?_)
  have := k2 H' locs' ls hl g1 g2
  have e3 : (r1.map (am_v X.2.2.2)).toList ++ rest.map (am_v X.2.2.2) = (r1.toList ++ rest).map (am_v X.2.2.2) := by cases r1 <;> simp
  rw [e3]
  exact this
theorem am_preS {s : State} {H : Heap} {locs : List Loc} (ha : am_at X h H) (hHs : H.size = X.2.2.2.1 + h.length) (hS : va_S (am_A X) s.heap H locs) (hK : am_K X s) : ∀ U : State, U.heap = H → s.WarmedH U.vm → va_Pc (vs.map (am_v X.2.2.2)) (am_U X h) (vs.map (am_v X.2.2.2)).toArray U :=
  fun U hU hW => ⟨rfl, by rw [hU]; exact ha, by rw [hU]; exact hHs, am_K.move hK hW (by rw [hU]; exact hS.1) (fun q q1 q2 => by rw [hU]; exact hS.2.1 q q1 q2)⟩
theorem g_static {idx n : Nat} {rest : List Value} (hd : decode M.2.1 pc = .ok (.invokestatic idx, 3)) (hm : am_mo M' n) (hst : Cond.static M'.1 ∈ am_gw) (hln : am_ln M.1.cls idx M'.1) (hn : vs.length = n) (hen : (am_en vs).length ≤ M'.2.2.1) (hw : (rest.map fun v => v.category).sum ≤ 8)
    (hc : am_C X M' d vs h Q') (hk : ∀ r h1, Q' r h1 → am_nt r ∧ am_G X M (d + 1) (pc + 3) l (r.toList ++ rest) h1 Q) : am_G X M (d + 1) pc l (vs.reverse ++ rest) h Q := by
  refine am_call (fun r h1 hnt hE p e R s m args below meth c h0 H locs ls B hz hl ha hHs hS hR hle => ?_) hc hk
  obtain ⟨hx, hb, hml, hr, hlk, hown, hnm, hts, hK, hsz, hxt⟩ := B
  have hM := am_met hnt hm.1 hen hE
  have hroom : (am_rm d (h1.length - h.length) (am_sl h1 - am_sl h)).frames + 1 ≤ R.frames ∧ 8 + (M'.2.2.1 + 11) + (am_rm d (h1.length - h.length) (am_sl h1 - am_sl h)).locals ≤ R.locals := by
    have h2 := hm.2.1
    rw [hR.2.2.1, hR.2.2.2]
    show d + 1 ≤ d + 1 ∧ 8 + (M'.2.2.1 + 11) + d * 80 ≤ (d + 1) * 80
    omega
  have hrm : h.length - h0.length + (h1.length - h.length) ≤ R.cells ∧ am_sl h - am_sl h0 + (am_sl h1 - am_sl h) ≤ R.slots := by
    have := hR.1
    have := hR.2.1
    omega
  refine ⟨(vs.map (am_v X.2.2.2)).toArray, ?_⟩
  have hstk : ((vs.reverse ++ rest).map (am_v X.2.2.2)) = (vs.map (am_v X.2.2.2)).reverse ++ rest.map (am_v X.2.2.2) := by simp
  rw [hstk]
  rcases hln with hln | ⟨host, hln⟩
  · exact va_runS (bytes := M'.2.1) (maxL := M'.2.2.1) (ret := M'.2.2.2) (n := n) ⟨hx, hb, hml, hown, hts⟩ hM ⟨callB_of n hts (am_goodc hm) rfl rfl rfl (hts _ hm.2.2.2.2.1) (hts _ hln) ⟨hm.2.2.1.1, hm.2.2.1.2, hm.2.2.2.2.2⟩ hroom, hts _ hst⟩ ⟨am_blind, am_preS ha hHs hS hK⟩ rfl (by simpa using hn) hl.1 rfl (lv_room (by rw [am_v_cats]; exact hw)) hd hrm
  · exact va_runSN (bytes := M'.2.1) (maxL := M'.2.2.1) (ret := M'.2.2.2) (n := n) ⟨hx, hb, hml, hown, hts⟩ hM ⟨va_cnB n hts (am_goodc hm) rfl rfl rfl (hK.2.1 _ hln) (hts _ hm.2.2.2.2.1) ⟨hm.2.2.1.1, hm.2.2.1.2, hm.2.2.2.2.2⟩ hroom, hts _ hst, trivial⟩ ⟨am_blind, am_preS ha hHs hS hK⟩ rfl (by simpa using hn) hl.1 rfl (lv_room (by rw [am_v_cats]; exact hw)) hd hrm
/-- what a method of an object needs beside -/
def am_io (y : MethodName) : Prop := Cond.instanceMethod y ∈ am_gw
theorem g_special {idx n a : Nat} {rest : List Value} (hd : decode M.2.1 pc = .ok (.invokespecial idx, 3)) (hm : am_mo M' n) (hi : Cond.instanceMethod M'.1 ∈ am_gw) (hini : M'.1.name = "<init>") (hret : M'.2.2.2 = none) (hln : am_ln M.1.cls idx M'.1) (hn : vs.length = n) (hen : (am_en (.ref a :: vs)).length ≤ M'.2.2.1) (hw : (rest.map fun v => v.category).sum ≤ 8)
    (hc : am_C X M' d (.ref a :: vs) h Q') (hk : ∀ r h1, Q' r h1 → am_nt r ∧ am_G X M (d + 1) (pc + 3) l (r.toList ++ rest) h1 Q) : am_G X M (d + 1) pc l (vs.reverse ++ .ref a :: rest) h Q := by
  refine am_call (fun r h1 hnt hE p e R s m args below meth c h0 H locs ls B hz hl ha hHs hS hR hle => ?_) hc hk
  obtain ⟨hx, hb, hml, hr, hlk, hown, hnm, hts, hK, hsz, hxt⟩ := B
  have hM := am_met hnt hm.1 hen hE
  have hroom : (am_rm d (h1.length - h.length) (am_sl h1 - am_sl h)).frames + 1 ≤ R.frames ∧ 8 + (M'.2.2.1 + 11) + (am_rm d (h1.length - h.length) (am_sl h1 - am_sl h)).locals ≤ R.locals := by
    have h2 := hm.2.1
    rw [hR.2.2.1, hR.2.2.2]
    show d + 1 ≤ d + 1 ∧ 8 + (M'.2.2.1 + 11) + d * 80 ≤ (d + 1) * 80
    omega
  have hrm : h.length - h0.length + (h1.length - h.length) ≤ R.cells ∧ am_sl h - am_sl h0 + (am_sl h1 - am_sl h) ≤ R.slots := by
    have := hR.1
    have := hR.2.1
    omega
  have hgc := am_goodc hm
  obtain ⟨y, bs, mL, rt⟩ := M'
  dsimp only at hret hini hm hi hln hM hgc hroom
  subst hret
  refine ⟨((.ref a :: vs : List Value).map (am_v X.2.2.2)).toArray, ?_⟩
  have hstk : ((vs.reverse ++ .ref a :: rest).map (am_v X.2.2.2)) = (vs.map (am_v X.2.2.2)).reverse ++ .ref (X.2.2.2.1 + a) :: rest.map (am_v X.2.2.2) := by simp [am_v]
  rw [hstk]
  rcases hln with hln | ⟨host, hln⟩
  · exact va_runI (bytes := bs) (maxL := mL) (n := n) (As := vs.map (am_v X.2.2.2)) ⟨hx, hb, hml, hown, hts⟩ hM ⟨callB_of n hts hgc rfl rfl rfl (hts _ hm.2.2.2.2.1) (hts _ hln) ⟨hm.2.2.1.1, hm.2.2.1.2, hm.2.2.2.2.2⟩ hroom, hini, hts _ hi⟩ ⟨am_blind, am_preS ha hHs hS hK⟩ rfl (by simpa using hn) hl.1 rfl (lv_room (by rw [am_v_cats]; exact hw)) hd hrm
  · exact va_runIN (bytes := bs) (maxL := mL) (n := n) (As := vs.map (am_v X.2.2.2)) ⟨hx, hb, hml, hown, hts⟩ hM ⟨va_cnB n hts hgc rfl rfl rfl (hK.2.1 _ hln) (hts _ hm.2.2.2.2.1) ⟨hm.2.2.1.1, hm.2.2.1.2, hm.2.2.2.2.2⟩ hroom, hini, hts _ hi⟩ ⟨am_blind, am_preS ha hHs hS hK⟩ rfl (by simpa using hn) hl.1 rfl (lv_room (by rw [am_v_cats]; exact hw)) hd hrm
theorem g_virtual {idx n a ci : Nat} {fs : List Value} {q : vw_C} {rest : List Value} (hd : decode M.2.1 pc = .ok (.invokevirtual idx, 3)) (hm : am_mo M' n) (hi : Cond.instanceMethod M'.1 ∈ am_gw) (hsel : Cond.selects M'.1.cls M'.1 M'.1 ∈ am_gw) (hln : am_ln M.1.cls idx M'.1) (hh : h[a]? = some (.inr (ci, fs))) (hci : am_cl[ci]? = some q) (hq : q.1 = M'.1.cls) (hn : vs.length = n) (hen : (am_en (.ref a :: vs)).length ≤ M'.2.2.1) (hw : (rest.map fun v => v.category).sum ≤ 8)
    (hc : am_C X M' d (.ref a :: vs) h Q') (hk : ∀ r h1, Q' r h1 → am_nt r ∧ am_G X M (d + 1) (pc + 3) l (r.toList ++ rest) h1 Q) : am_G X M (d + 1) pc l (vs.reverse ++ .ref a :: rest) h Q := by
  refine am_call (fun r h1 hnt hE p e R s m args below meth c h0 H locs ls B hz hl ha hHs hS hR hle => ?_) hc hk
  obtain ⟨hx, hb, hml, hr, hlk, hown, hnm, hts, hK, hsz, hxt⟩ := B
  have hM := am_met hnt hm.1 hen hE
  have hroom : (am_rm d (h1.length - h.length) (am_sl h1 - am_sl h)).frames + 1 ≤ R.frames ∧ 8 + (M'.2.2.1 + 11) + (am_rm d (h1.length - h.length) (am_sl h1 - am_sl h)).locals ≤ R.locals := by
    have h2 := hm.2.1
    rw [hR.2.2.1, hR.2.2.2]
    show d + 1 ≤ d + 1 ∧ 8 + (M'.2.2.1 + 11) + d * 80 ≤ (d + 1) * 80
    omega
  have hrm : h.length - h0.length + (h1.length - h.length) ≤ R.cells ∧ am_sl h - am_sl h0 + (am_sl h1 - am_sl h) ≤ R.slots := by
    have := hR.1
    have := hR.2.1
    omega
  have he := am_w_get (f := X.2.2.2) (dA := X.2.2.1) h 0 a _ hh
  rw [Nat.zero_add] at he
  have hrec := va_recv hK.1 ha hci he
  rw [hq] at hrec
  refine ⟨((.ref a :: vs : List Value).map (am_v X.2.2.2)).toArray, ?_⟩
  have hstk : ((vs.reverse ++ .ref a :: rest).map (am_v X.2.2.2)) = (vs.map (am_v X.2.2.2)).reverse ++ .ref (X.2.2.2.1 + a) :: rest.map (am_v X.2.2.2) := by simp [am_v]
  rw [hstk]
  rcases hln with hln | ⟨host, hln⟩
  · exact va_runV (bytes := M'.2.1) (maxL := M'.2.2.1) (ret := M'.2.2.2) (n := n) (C := M'.1.cls) (As := vs.map (am_v X.2.2.2)) ⟨hx, hb, hml, hown, hts⟩ hM ⟨callB_of n hts (am_goodc hm) rfl rfl rfl (hts _ hm.2.2.2.2.1) (hts _ hln) ⟨hm.2.2.1.1, hm.2.2.1.2, hm.2.2.2.2.2⟩ hroom, hts _ hi, hts _ hsel⟩ ⟨am_blind, hrec, am_preS ha hHs hS hK⟩ rfl (by simpa using hn) hl.1 rfl (lv_room (by rw [am_v_cats]; exact hw)) hd hrm
  · exact va_runVN (bytes := M'.2.1) (maxL := M'.2.2.1) (ret := M'.2.2.2) (n := n) (C := M'.1.cls) (As := vs.map (am_v X.2.2.2)) ⟨hx, hb, hml, hown, hts⟩ hM ⟨va_cnB n hts (am_goodc hm) rfl rfl rfl (hK.2.1 _ hln) (hts _ hm.2.2.2.2.1) ⟨hm.2.2.1.1, hm.2.2.1.2, hm.2.2.2.2.2⟩ hroom, hts _ hi, hts _ hsel⟩ ⟨am_blind, hrec, am_preS ha hHs hS hK⟩ rfl (by simpa using hn) hl.1 rfl (lv_room (by rw [am_v_cats]; exact hw)) hd hrm
/-- Object's constructor -/
theorem g_objInit {idx a : Nat} {rest : List Value} (hd : decode M.2.1 pc = .ok (.invokespecial idx, 3)) (hln : Cond.methodLink M.1.cls idx Lib.objectInit ∈ am_gw) (hw : (rest.map fun v => v.category).sum ≤ 8) (kk : am_G X M (d + 1) (pc + 3) l rest h Q) : am_G X M (d + 1) pc l (.ref a :: rest) h Q := by
  refine am_G.gen (l' := l) ⟨Nat.le_refl _, Nat.le_refl _⟩ (fun p e R s m args below meth c h0 H locs ls Qs B hz hl ha hS hR k2 => ?_) kk
  obtain ⟨hx, hb, hml, hr, hlk, hown, hnm, hts, hK, hsz, hxt⟩ := B
  refine W.objInit hx hb hown (hts _ hln) (hts _ am_wo1) (hts _ am_wo2) rfl (by rw [hml]; exact hl.1) rfl hd (by rw [hR.2.2.1]; omega) ?_ (k2 H locs ls hl ha hS)
  have h1 := lv_room (m := m) (pc := pc) (ls := ls) (rest := (.ref a :: rest : List Value).map (am_v X.2.2.2)) (st := rest.map (am_v X.2.2.2)) (by rw [am_v_cats]; exact hw)
  rw [hR.2.2.2]
  have h2 : 2 * (F0 m pc ls ((.ref a :: rest : List Value).map (am_v X.2.2.2))).monitorRoom + ((rest.map (am_v X.2.2.2)).map fun v => v.category).sum ≤ 8 := h1
  omega
end AMC
