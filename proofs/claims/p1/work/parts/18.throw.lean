/-! ===== exceptions: thrown by the class's own method, caught in the law's ===== -/
section AMT
variable {p : Program} {l : Launch} {e : Env} {R : Room} {s : State} {m : MethodId} {args : Array Value} {below : List Frame} {meth : Method} {c : Code} {T : State} {locs : List Loc} {cells slots : Nat}
/-- the frame as if its method had just been called with this heap -/
theorem am_rebase (X : Stand p l e R s m args below meth c T locs cells slots) {R' : Room} (hf : R'.frames ≤ R.frames) (hl : R'.locals ≤ R.locals) (hc : cells + R'.cells ≤ R.cells) (hs : slots + R'.slots ≤ R.slots) :
    Stand p l e R' ((T.setVm s.vm).setFrames (.invoking m args :: below)) m args below meth c T [] 0 0 := by
  have htop : (T.setVm s.vm).topJava?.isSome := X.here.top
  have hF : ((T.setVm s.vm).setFrames (.invoking m args :: below)).frames = .invoking m args :: below := State.frames_setFrames _ (State.cur_lt_of_top htop)
  obtain ⟨g0, hg0⟩ := Option.isSome_iff_exists.mp htop
  obtain ⟨r, hr⟩ := State.topJava?_eq_some.mp hg0
  obtain ⟨th, hth, -⟩ := State.frames_cons hr
  have hlim : e.platform.stackLimits (T.setVm s.vm).me = e.platform.stackLimits s.me := X.limits
  have hbyt : (T.setVm s.vm).me.stackBytes = s.me.stackBytes := X.bytes
  have hroom : ((T.setVm s.vm).setFrames (.invoking m args :: below)).hasRoom e.platform R' = true := by
    have h := X.room
    have hU : ((T.setVm s.vm).setFrames (.invoking m args :: below)).localsInUse = s.localsInUse := by
      rw [State.localsInUse_invoking hF (meth := meth) (c := c) X.method X.code, State.localsInUse_invoking X.frames X.method X.code]
    simp only [State.hasRoom, Bool.and_eq_true, decide_eq_true_eq] at h ⊢
    obtain ⟨⟨⟨⟨h1, h2, h3, h4, h5, h6⟩, h7⟩, h8⟩, h9⟩ := h
    rw [X.frames, List.length_cons] at h2 h3
    have q1 := X.heapSize
    have q2 := X.used
    simp only [hF, hU, List.length_cons, State.stackLimits_setFrames, State.stackBytes_setFrames, hlim, hbyt]
    refine ⟨⟨⟨⟨by omega, by omega, by omega, by omega, by omega, h6⟩, ?_⟩, ?_⟩, X.book⟩
    · show T.heap.size + R'.cells ≤ e.platform.maxCells
      omega
    · show T.slotsUsed + R'.slots ≤ e.platform.maxSlots
      omega
  have hdrop : (T.heap.toList.drop T.heap.size).map (·.slots.size) = [] := by
    rw [List.drop_eq_nil_of_le (Nat.le_of_eq Array.length_toList)]
    rfl
  refine ⟨X.admits, X.cas, X.clock, hF, hroom, X.hears, X.method, X.code, X.here, X.tail, X.warmed, by rw [State.stackLimits_setFrames]; rfl, by rw [State.stackBytes_setFrames]; rfl, ?_, Nat.le_refl _, Nat.le_refl _, ?_, ?_, fun a c9 h9 => ⟨c9, h9, rfl, rfl, fun _ _ => rfl⟩⟩
  · show T.setVm s.vm = { ((T.setVm s.vm).setFrames (.invoking m args :: below)).setFrames (T.setVm s.vm).frames with heap := T.heap, slotsUsed := T.slotsUsed }
    rw [State.setFrames_setFrames, State.setFrames_self hth]
    rfl
  · show T.slotsUsed = T.slotsUsed + ((T.heap.toList.drop T.heap.size).map (·.slots.size)).sum
    rw [hdrop]
    rfl
  · show ((T.heap.toList.drop T.heap.size).map (·.slots.size)).sum ≤ 0
    rw [hdrop]
    exact Nat.le_refl _
/-- what wasn't written is as it was -/
theorem am_old {U : State} {k n : Nat} (h : s.sameButNew ({ U with vm := s.vm } : State) [] k n) : s.heap.size ≤ U.heap.size ∧ ∀ q : Nat, q < s.heap.size → U.heap[q]? = s.heap[q]? := by
  obtain ⟨-, h2, -, -, -, h6⟩ := h
  refine ⟨h2, fun q hq => ?_⟩
  obtain ⟨c9, e1, e2, e3, e4⟩ := h6 q _ (Array.getElem?_eq_getElem hq)
  have hs : c9.slots = (s.heap[q]).slots := Array.ext_getElem? fun i => e4 i List.not_mem_nil
  rw [hs] at e2
  have e5 : U.heap[q]? = some c9 := e1
  rw [e5, Array.getElem?_eq_getElem hq]
  exact congrArg some e2
end AMT
theorem am_sq.lays {X : am_X} {n d : String} {s : State} {args : Array Value} (h : am_sq X n d s s.heap) : (Cond.laysStatic Bundle.tN n d).before args s = true := by
  obtain ⟨-, c, k, i, f, a, cell, h1, h2, h3, h4, h5, h6, h7, h8, h9, -⟩ := h
  exact Cond.laysStatic_of h1 h2 h3 h4 h5 h6 h7 h8 h9
theorem am_zref {C n d : String} {v : Value} {A : Nat → Prop} {s : State} {args : Array Value} (h : va_Z C n d v A s s.heap) (hv : v = .null ∨ ∃ t, v = .ref t) : (Cond.isRef (.static C n d)).before args s = true := by
  obtain ⟨cf, kf, fi, f, a, cell, h1, h2, h3, h4, h5, h6, h7, -⟩ := h
  have he : (Term.static C n d).eval args s none [] s = some v := by simp [Term.eval, State.fieldNamed?, h1, h2, h4, h5, h6, h7]
  simp only [Cond.before, Cond.holds, Cond.value, he]
  rcases hv with rfl | ⟨t, rfl⟩ <;> rfl
theorem am_sq.ref {X : am_X} {n d : String} {s : State} {args : Array Value} (h : am_sq X n d s s.heap) : (Cond.isRef (.static Bundle.tN n d)).before args s = true := by
  rcases h.1 with h | ⟨t, h⟩
  · exact am_zref h (Or.inl rfl)
  · exact am_zref h (Or.inr ⟨t, rfl⟩)
/-- the words of 'throw new E()' are all there: a good one, one of the nest's kind, or one of the four on Throwable's statics -/
def am_tw (w : Cond) : Prop := w ∈ am_gw ∨ w ∈ am_nw ∨ w = .laysStatic Bundle.tN "UNASSIGNED_STACK" Bundle.steD ∨ w = .laysStatic Bundle.tN "SUPPRESSED_SENTINEL" Bundle.listD ∨ w = .isRef (.static Bundle.tN "UNASSIGNED_STACK" Bundle.steD) ∨ w = .isRef (.static Bundle.tN "SUPPRESSED_SENTINEL" Bundle.listD)
def am_up : List String := ["java/lang/RuntimeException", "java/lang/Exception"]
section AMV
variable {X : am_X} {M M' : am_Mt} {d pc : Nat} {l : am_lo} {st vs : List Value} {h : List va_E} {Q Q' : Option Value → List va_E → Prop}
theorem g_throw {ik ic : Nat} (e9 : UInt64) (hci : am_cl[13 + e9.toNat]? = some (am_xn e9, tt_X, 0)) (hl9 : X.1.stackTraces = false) (hhh : am_hh M.1 = some []) (d0 : decode M.2.1 pc = .ok (.new ik, 3)) (d3 : decode M.2.1 (pc + 3) = .ok (.dup, 1)) (d4 : decode M.2.1 (pc + 4) = .ok (.invokespecial ic, 3)) (d7 : decode M.2.1 (pc + 7) = .ok (.athrow, 1))
    (hfit : Bundle.fit (am_xn e9) = true) (hk : Cond.classLink M.1.cls ik (am_xn e9) ∈ am_gw) (hini : Cond.initialized (am_xn e9) ∈ am_gw) (hat : ∀ w ∈ Bundle.ownAtoms0 M.1.cls ic (am_xn e9) am_up, am_tw w) (hw : (st.map fun v => v.category).sum ≤ 8)
    (hq : Q (some (.double e9)) (h ++ [.inr (13 + e9.toNat, [.null, .null, .null, .null, .null, .null])])) : am_G X M (d + 6) pc l st h Q := by
  have hsl : am_sl (h ++ [.inr (13 + e9.toNat, [.null, .null, .null, .null, .null, .null])]) = am_sl h + 6 := by rw [am_sl_app]; simp [am_sl, am_n]
  have hle : (h ++ [(.inr (13 + e9.toNat, [.null, .null, .null, .null, .null, .null]) : va_E)]).length = h.length + 1 := by simp
  refine ⟨some (.double e9), _, hq, ⟨by omega, by omega⟩, fun p e s m args below meth c h0 H locs ls B hz hl ha hS => ?_⟩
  obtain ⟨hx, hb, hml, hr, hlk, hown, hnm, hts, hK, hsz, hxt⟩ := B
  refine am_size ha hS hsz hz.1 (fun hHs => ?_)
  have hz1 := hz.1
  have hz2 := hz.2
  intro T hT Xs
  have htr : e.platform.stackTraces = false := (show e.platform.stackTraces = X.1.stackTraces by rw [Xs.admits.platform]).trans hl9
  have Y := am_rebase Xs (R' := { frames := d + 6, locals := (d + 6) * 80, cells := 1, slots := 6 }) (Nat.le_refl _) (Nat.le_refl _) (by show h.length - h0.length + 1 ≤ (h ++ [_]).length - h0.length; omega) (by show am_sl h - am_sl h0 + 6 ≤ am_sl (h ++ [_]) - am_sl h0; omega)
  obtain ⟨s', hA⟩ : ∃ z, z = (T.setVm s.vm).setFrames (.invoking m args :: below) := ⟨_, rfl⟩
  rw [← hA] at Y
  have hvm : s'.vm = s.vm := by rw [hA]; rfl
  have hhp : s'.heap = H := by rw [hA]; exact hT
  have hW0 : s.WarmedH s'.vm := by rw [hvm]; exact State.WarmedH.refl s
  have hK' : am_K X s' := am_K.move hK hW0 (by rw [hhp]; exact hS.1) (fun q h1 h2 => by rw [hhp]; exact hS.2.1 q h1 h2)
  have hg : ∀ w ∈ am_gw, w.before args s' = true := fun w hw => word_at hW0 (am_good w hw).2 (hts w hw)
  have hall : ∀ w ∈ Bundle.ownAtoms0 M.1.cls ic (am_xn e9) am_up, w.before args s' = true := fun w hw => by
    rcases hat w hw with h1 | h1 | h1 | h1 | h1 | h1
    · exact hg w h1
    · have h2 := hK'.2.1 w h1
      have h3 := (List.mem_filter.mp h1).2
      cases w <;> first | (simp [am_isn] at h3; done) | exact va_Nw.use rfl h2
    · rw [h1]; exact hK'.2.2.2.2.2.2.2.2.1.lays
    · rw [h1]; exact hK'.2.2.2.2.2.2.2.2.2.lays
    · rw [h1]; exact hK'.2.2.2.2.2.2.2.2.1.ref
    · rw [h1]; exact hK'.2.2.2.2.2.2.2.2.2.ref
  have hown' : s'.vm.findClass M.1.cls = some m.cls := by rw [hvm]; exact hown
  have hins : (Cond.instantiable (am_xn e9) 6).before args s' = true := hall _ (by simp [Bundle.ownAtoms0])
  obtain ⟨vm₁, cX, kX, hfX, hkX, -, -, X₁, st1⟩ := Y.newCold hx (own := M.1.cls) (C := am_xn e9) (index := ik) (n := 6) hown' (hg _ hk) hins (hg _ hini) (g := F0 m pc ls (st.map (am_v X.2.2.2))) rfl (by rw [hb]; exact d0) (Nat.le_refl _) (Nat.le_refl _)
  generalize hT1 : (T.setVm vm₁).pushCell { cls := cX, slots := kX.instanceTypes.map defaultValue, vm := .none } = T1 at X₁ st1
  have hcellA : T1.heap[T.heap.size]? = some (freshCell cX kX) := by rw [← hT1]; exact State.heap_pushCell_size _ _
  have d3' : decode c.code (pc + 3) = .ok (.dup, 1) := by rw [hb]; exact d3
  have htab : c.exceptionTable.toList = [] := by
    have h9 := hxt [] hhh
    exact List.map_eq_nil_iff.mp h9
  have hsum : ((st.map (am_v X.2.2.2)).map fun v => v.category).sum ≤ 8 := by rw [am_v_cats]; exact hw
  obtain ⟨U, hsteps, hrun, hend, hW, hsame, ce, hce, hO⟩ := X₁.ctorThrow0 hx htr (own := M.1.cls) (cls := am_xn e9) (names := am_up) (ic := ic) hown' hfit (by decide +kernel) hall (fun x hx => nomatch hx) hfX hkX hcellA (by rw [hhp, hT]; exact Nat.le_refl _)
    (g := { method := m, pc := pc + 4, locals := ls, stack := .ref T.heap.size :: .ref T.heap.size :: st.map (am_v X.2.2.2), locked := none }) rfl (by rw [hml]; exact hl.1) rfl rfl (rest := st.map (am_v X.2.2.2)) rfl
    (by rw [hb]; exact d4) (by rw [hb]; exact d7) (fun x hx => by rw [htab] at hx; cases hx) (by show 2 + 3 < d + 6; omega) (by
      have h9 : (Value.ref T.heap.size).category = 1 := rfl
      simp only [List.map_cons, List.sum_cons, h9]
      show 2 * 0 + _ + (13 * (2 + 1) + 41) ≤ (d + 6) * 80
      omega) hlk
  obtain ⟨f1, f2⟩ := am_old hsame
  rw [hhp] at f1 f2
  have hWs : s.WarmedH U.vm := State.WarmedH.trans hW0 hW
  have hUsz : U.heap.size ≤ H.size + 1 := by
    have h9 := hsame.2.2.1
    rw [hhp] at h9
    exact h9
  have hUlt : T.heap.size < U.heap.size := (Array.getElem?_eq_some_iff.mp hce).1
  have hcl : s'.vm.findClass (am_xn e9) = some ce.cls := hO.cls
  have hSU : va_S (am_A X) s.heap U.heap locs := ⟨Nat.le_trans hS.1 f1, fun q q1 q2 => (f2 q (Nat.lt_of_lt_of_le q1 hS.1)).trans (hS.2.1 q q1 q2), hS.2.2⟩
  have hKn := hK.1.1 _ _ hci
  have hat9 : am_at X (h ++ [.inr (13 + e9.toNat, [.null, .null, .null, .null, .null, .null])]) U.heap := by
    refine am_push ha hHs f2 ⟨_, hci, ce, ?_, ?_, hO.vm, fun k hk => absurd hk (Nat.not_lt_zero k)⟩
    · show U.heap[X.2.2.2.1 + h.length]? = some ce
      rw [← hHs, ← hT]
      exact hce
    · rw [hvm] at hcl
      exact Option.some.inj (hcl.symm.trans hKn.2.1)
  have hfr : s.sameButNew ({ U with vm := s.vm } : State) locs ((h ++ [(.inr (13 + e9.toNat, [.null, .null, .null, .null, .null, .null]) : va_E)]).length - h0.length) (am_sl (h ++ [(.inr (13 + e9.toNat, [.null, .null, .null, .null, .null, .null]) : va_E)]) - am_sl h0) := by
    subst hA
    obtain ⟨e1, e2⟩ := hsame
    rw [State.setFrames_setFrames] at e1
    have h2 : (T.setVm s.vm).sameButNew ({ U with vm := s.vm } : State) [] (0 + 1) (0 + 6) := ⟨e1, e2⟩
    have h3 := Xs.same.trans h2
    rw [List.append_nil] at h3
    exact h3.mono (by omega) (by omega)
  refine ⟨U, ?_, .threw T.heap.size, hrun, hend, ⟨⟨T.heap.size, ce, rfl, ?_, hce, hO.vm, by rw [hvm] at hcl; exact hcl⟩, ⟨hat9, ?_, am_K.move hK hWs hSU.1 hSU.2.1⟩, hSU.1, hSU.2.1⟩, hWs, locs, hfr, hS.2.2⟩
  · refine st1 _ ?_
    show Steps p.tables e below (T1.setTop { method := m, pc := pc + 3, locals := ls, stack := .ref T.heap.size :: st.map (am_v X.2.2.2), locked := none }) _
    jvm_step X₁.here [X₁.here.top, hx, d3', Value.category]
    exact hsteps
  · rw [hle, hT, hHs]
    rfl
  · rw [hle]
    rw [hT] at hUlt
    omega
end AMV
