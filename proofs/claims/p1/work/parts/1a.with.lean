/-! ===== a call of a method that has an exception table ===== -/
def am_moW (M : am_Mt) (hh : List (Nat × Nat × Nat × Nat)) (n : Nat) : Prop := (plainName M.1.cls = true ∧ am_hh M.1 = some hh) ∧ M.2.2.1 ≤ 61 ∧ (M.1.cls ≠ "java/lang/invoke/MethodHandle" ∧ M.1.cls ≠ "java/lang/invoke/VarHandle") ∧ Cond.codeWith M.1 M.2.1 M.2.2.1 M.2.2.2 hh ∈ am_gw ∧ Cond.initialized M.1.cls ∈ am_gw ∧ (parseMethodDescriptor M.1.desc).map (fun d => d.parameters.length) = some n
theorem am_goodW {M : am_Mt} {hh : List (Nat × Nat × Nat × Nat)} {n : Nat} (h : am_moW M hh n) : GoodIn am_gw (Cond.codeWith M.1 M.2.1 M.2.2.1 M.2.2.2 hh :: am_gw) := fun w hw => by
  rcases List.mem_cons.mp hw with rfl | hw
  · exact am_good _ h.2.2.2.1
  · exact am_good w hw
section AMW
variable {p : Program} {l : Launch} {e : Env} {R : Room} {s : State} {m : MethodId} {args : Array Value} {below : List Frame} {meth : Method} {c : Code} {T : State} {locs : List Loc} {cells slots : Nat}
theorem am_callSW (X : Stand p l e R s m args below meth c T locs cells slots) (hexec : p.tables.exec = Jvm.exec) {own : String} {index : Nat} {y : MethodName} {bytes : ByteArray} {maxL : Nat} {ret : Option FieldType} {hh : List (Nat × Nat × Nat × Nat)}
    (hown : s.vm.findClass own = some m.cls) (hlink : (Cond.methodLink own index y).before args s = true) (hstat : (Cond.static y).before args s = true) (hinit : (Cond.initialized y.cls).before args s = true)
    (hcode : (Cond.codeWith y bytes maxL ret hh).before args s = true) (hy : y.cls ≠ "java/lang/invoke/MethodHandle" ∧ y.cls ≠ "java/lang/invoke/VarHandle")
    {W : Nat} {Pre : Pt → Array Value → Prop} {Post : Pt → Array Value → Option Value → Pt → Prop} (hK : Back l R p e below s args y 3 W Pre Post)
    {g : JFrame} (hg : g.method = m) (hsize : g.locals.size = c.maxLocals) {argsL rest : List Value} (hlen : ∀ sig, parseMethodDescriptor y.desc = some sig → argsL.length = sig.parameters.length)
    (hstack : g.stack = argsL.reverse ++ rest) (hW : 2 * g.monitorRoom + (rest.map fun v => v.category).sum ≤ W) (hdg : decode c.code g.pc = .ok (.invokestatic index, 3))
    (hpre : ∀ vm₁, s.WarmedH vm₁ → Pre ⟨T.setVm vm₁, locs, cells, slots⟩ argsL.toArray) :
    ∃ (v : Option Value) (vm₁ : Vm) (B : Pt), s.WarmedH vm₁ ∧ Stand p l e R s m args below meth c B.U B.locs B.cells B.slots ∧ Post ⟨T.setVm vm₁, locs, cells, slots⟩ argsL.toArray v B ∧
      ∀ target, Steps p.tables e below (B.U.setTop { g with pc := g.pc + 3, stack := v.toList ++ rest }) target → Steps p.tables e below (T.setTop g) target := by
  obtain ⟨mk, methM, cM, hnamed, hmethM, -, -, -, -, -, -, hsigM⟩ := Cond.codeWith_spec hcode
  have hstatic : methM.isStatic = true := Cond.static_spec hnamed hmethM hstat
  obtain ⟨kP, hkP, -⟩ := className_of_methodNamed hnamed
  have hinitP : kP.init = .initialized := Cond.initialized_spec (findClass_of_methodNamed hnamed) hkP hinit
  obtain ⟨vm₁, X₁, hstep₁⟩ := X.invokestatic hexec hown hlink hnamed hmethM hstatic hkP hinitP hy (g := g) hg (argsL := argsL) (rest := rest) (hlen _ hsigM) hstack hdg
  obtain ⟨v, B, X', hpost, hsteps⟩ := hK m meth c ⟨T.setVm vm₁, locs, cells, slots⟩ { g with stack := rest } (.invokestatic index) mk argsL.toArray X₁ hg hsize hdg hW (X₁.named hnamed) (hpre vm₁ X₁.warmed)
  exact ⟨v, vm₁, B, X₁.warmed, X', hpost, fun target h => hstep₁ _ fun acts => by rw [doInvoke_state]; exact hsteps.trans h⟩
end AMW
section AMV
variable {X : am_X} {M M' : am_Mt} {d pc : Nat} {l : am_lo} {st vs : List Value} {h h1 : List va_E} {Q Q' : Option Value → List va_E → Prop}
theorem am_metW {r : Option Value} {hh : List (Nat × Nat × Nat × Nat)} (hnt : am_nt r) (hy : plainName M.1.cls = true ∧ am_hh M.1 = some hh) (hn : (am_en vs).length ≤ M.2.2.1) (hE : am_E X M d 0 (am_fr M.2.2.1 vs) [] h r h1) :
    Met X.1 M.1 (Cond.codeWith M.1 M.2.1 M.2.2.1 M.2.2.2 hh :: am_gw) (am_rm d (h1.length - h.length) (am_sl h1 - am_sl h)) (va_Pc (vs.map (am_v X.2.2.2)) (am_U X h)) (am_Q X r h1) (h1.length - h.length) (am_sl h1 - am_sl h) (am_A X) := by
  refine va_MetW (cc := M.2.1) (maxL := M.2.2.1) (ret := M.2.2.2) (hh := hh) hy.1 rfl ?_
  intro p e s m args below meth c s₁ B hml hv
  obtain ⟨rfl, hU⟩ := hv
  have hts := atoms_spec (ws := Cond.codeWith M.1 M.2.1 M.2.2.1 M.2.2.2 hh :: am_gw) B.pre
  have hown : s.vm.findClass M.1.cls = some m.cls := findClass_of_methodNamed B.named
  have hnm : M.1.name = "<init>" → meth.name = "<init>" := fun h9 => (name_of_methodNamed B.named B.method).1.trans h9
  have hl := lv_entry (vs.map (am_v X.2.2.2)) (n := M.2.2.1) (by rw [am_en_len]; exact hn)
  rw [lg_entry_eq]
  have htab : ∀ hh9, am_hh M.1 = some hh9 → c.exceptionTable.toList.map (fun z => (z.startPc, z.endPc, z.handlerPc, z.catchType)) = hh9 := fun hh9 he => by
    obtain ⟨m9, meth', c', h0, h1, h2, -, -, h3, -⟩ := Cond.codeWith_spec (hts _ List.mem_cons_self)
    cases B.named.symm.trans h0
    cases B.method.symm.trans h1
    cases (Stand.of_body B).code.symm.trans h2
    rw [h3]
    exact Option.some.inj (hy.2.symm.trans he)
  have hW := hE.2 p e s m (vs.map (am_v X.2.2.2)).toArray below meth c h s.heap [] _ ⟨B.exec, B.bytes, hml, B.returns, B.notSynchronized, hown, hnm, fun w hw => hts w (List.mem_cons_of_mem _ hw), hU.2.2, hU.2.1, htab⟩ ⟨Nat.le_refl _, Nat.le_refl _⟩ (am_L.entry hl) hU.1 va_S.rf
  rw [Nat.sub_self, Nat.sub_self] at hW
  intro T hT Xs
  obtain ⟨t, g1, o, g2, g3, g4, g5, L, g6, g7⟩ := hW T hT Xs
  exact ⟨t, g1, o, g2, g3, g4, L, ⟨⟨_, (am_o_nt hnt).mp g4.1⟩, g5, g6⟩, g7⟩
theorem g_staticW {idx n : Nat} {rest : List Value} {hh : List (Nat × Nat × Nat × Nat)} (hd : decode M.2.1 pc = .ok (.invokestatic idx, 3)) (hm : am_moW M' hh n) (hst : Cond.static M'.1 ∈ am_gw) (hln : Cond.methodLink M.1.cls idx M'.1 ∈ am_gw) (hn : vs.length = n) (hen : (am_en vs).length ≤ M'.2.2.1) (hw : (rest.map fun v => v.category).sum ≤ 8)
    (hc : am_C X M' d vs h Q') (hk : ∀ r h1, Q' r h1 → am_nt r ∧ am_G X M (d + 1) (pc + 3) l (r.toList ++ rest) h1 Q) : am_G X M (d + 1) pc l (vs.reverse ++ rest) h Q := by
  refine am_call (fun r h1 hnt hE p e R s m args below meth c h0 H locs ls B hz hl ha hHs hS hR hle => ?_) hc hk
  obtain ⟨hx, hb, hml, hr, hlk, hown, hnm, hts, hK, hsz, hxt⟩ := B
  have hM := am_metW hnt hm.1 hen hE
  have hrm : h.length - h0.length + (h1.length - h.length) ≤ R.cells ∧ am_sl h - am_sl h0 + (am_sl h1 - am_sl h) ≤ R.slots := by
    have := hR.1
    have := hR.2.1
    omega
  refine ⟨(vs.map (am_v X.2.2.2)).toArray, ?_⟩
  have hstk : ((vs.reverse ++ rest).map (am_v X.2.2.2)) = (vs.map (am_v X.2.2.2)).reverse ++ rest.map (am_v X.2.2.2) := by simp
  rw [hstk]
  have h2 := hm.2.1
  have hKb : Back X.1 R p e below s args M'.1 3 8 (PreOf R (h1.length - h.length) (am_sl h1 - am_sl h) (va_Pc (vs.map (am_v X.2.2.2)) (am_U X h))) (PostOf (am_Q X r h1) (h1.length - h.length) (am_sl h1 - am_sl h) (am_A X)) :=
    va_backW (hh := hh) (bytes := M'.2.1) (maxL := M'.2.2.1) (ret := M'.2.2.2) hM am_blind rfl rfl (by rw [hR.2.2.1]; exact Nat.le_refl _) (by rw [hR.2.2.2]; show 8 + (M'.2.2.1 + 11) + d * 80 ≤ (d + 1) * 80; omega)
      (pay_in hts (am_goodW hm)) List.mem_cons_self (fun a' U hW => word_at hW (am_good _ hm.2.2.2.2.1).2 (hts _ hm.2.2.2.2.1))
  intro T hT Xs
  obtain ⟨v, vm₁, ⟨U', l2, c2, s2⟩, hW₁, X', ⟨g', mk, t, L, e1, e2, hq, h1', hL, h2', h3'⟩, st⟩ := am_callSW Xs hx (hh := hh) (bytes := M'.2.1) (maxL := M'.2.2.1) (ret := M'.2.2.2) hown (hts _ hln) (hts _ hst) (hts _ hm.2.2.2.2.1) (hts _ hm.2.2.2.1) hm.2.2.1 hKb (g := F0 m pc ls ((vs.map (am_v X.2.2.2)).reverse ++ rest.map (am_v X.2.2.2))) rfl (by rw [hml]; exact hl.1) (argsL := vs.map (am_v X.2.2.2)) (rest := rest.map (am_v X.2.2.2)) (fun sig h9 => by
      have h8 := hm.2.2.2.2.2
      rw [h9] at h8
      have h7 : sig.parameters.length = n := Option.some.inj h8
      rw [List.length_map, h7]
      exact hn) rfl (lv_room (by rw [am_v_cats]; exact hw)) (by rw [hb]; exact hd)
    (fun vm₁ hW₁ => ⟨hrm.1, hrm.2, am_preS ha hHs hS hK (T.setVm vm₁) hT hW₁⟩)
  dsimp only [Pt.U, Pt.locs, Pt.cells, Pt.slots] at X' e1 e2 h1' h2' h3' st
  subst h1'; subst h2'; subst h3'
  exact ⟨v, (T.setVm vm₁).calling g' mk (vs.map (am_v X.2.2.2)).toArray, t, U', L, hT, X', hL, e1, e2, hq, st⟩
end AMV
