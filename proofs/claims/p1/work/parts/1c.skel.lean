/-! THE CLAIM OUT OF ONE WALK OF THE LAW'S BODY. Your part is whole_start (and what it stands on); all else here is the same for every law, but numbers. -/
def R_law : String := "WebFinderLaw"
def lw_P (b : Addr) (xs : List Int32) (args : Array Value) (s : State) : Prop := args = #[.ref b] ∧ s.IntsAt b xs ∧ xs.length ≤ 6 ∧ (Jvm.Cond.and given_1 narrow_1).before args s = true
def lw_Q (_ : Array Value) (s : State) (o : Outcome) (t : State) : Prop := o = .returned (some (.int 1)) ∧ Framed s o t [] 600002 7302232
def lw_Z (below : List Frame) (a : Array Value) (s : State) : State → Prop := fun t => ∃ o, t.status = .running ∧ Ended t below o ∧ lw_Q a s o t
/-- the law's own end, with 1 on the stack, nothing written that was there before, its room as the claim has it -/
theorem lw_ret {p : Program} {l : Launch} {e : Env} {s : State} {m : MethodId} {below : List Frame} {meth : Method} {c : Code} {b : Nat} (hx : p.tables.exec = Jvm.exec) (hb : c.code = code) (hr : meth.sig.returnType = ret) (hlocks : meth.locks = false) {pc : Nat} {H : Heap} {ls : Array Slot} (hdg : decode code pc = .ok (.ireturn, 1)) : W p l e room_1 s m #[Value.ref b] below meth c H [] 600002 7302232 (lw_Z below #[Value.ref b] s) (F0 m pc ls [.int 1]) := by
  intro T hT X
  obtain ⟨fs, hret, hrun, hended, hW, hframe⟩ := X.leave (v := some (.int 1)) (hlocks := hlocks) (fun h => by rw [hr] at h; cases h)
  have hmeth' : T.vm.method? m = some meth := X.method'
  refine ⟨T.setFrames fs, ?_, .returned (some (.int 1)), hrun, hended, rfl, ⟨_, rfl⟩, hW, hframe⟩
  jvm_step X.here [X.here.top, hx, hb, hdg, hmeth', hr, ret, narrow_b1]
  (try refine ⟨rfl, ?_⟩); (try refine ⟨rfl, ?_⟩)
  first | (intro acts; rw [hret _ acts rfl rfl rfl]) | rw [hret _ _ rfl rfl rfl]
  exact Steps.refl _
/-- what holds at the law's entry: the machine, the code, the tables' words (any of lw_tbl by 'hts w (by decide +kernel)'), the script of L ints xs at the cell b, what the Statement gives of the start (any of its parts by flat_of_before) -/
def lw_At (p : Program) (s : State) (m : MethodId) (meth : Method) (c : Code) (b L : Nat) (xs : Nat → Int32) : Prop :=
  p.tables.exec = Jvm.exec ∧ c.code = code ∧ meth.sig.returnType = ret ∧ c.maxLocals = 7 ∧ s.vm.findClass R_law = some m.cls ∧ (∀ w ∈ lw_tbl, w.before #[Value.ref b] s = true) ∧ va_X b L xs s s.heap ∧ b < s.heap.size ∧ meth.locks = false ∧ (Jvm.Cond.and given_1 narrow_1).before #[Value.ref b] s = true
abbrev mt_L_law : am_Mt := (⟨"WebFinderLaw", "law", "([I)Z"⟩, code, 7, some .boolean)
theorem am_room {p : Program} {l : Launch} {e : Env} {R R' : Room} {s : State} {m : MethodId} {args : Array Value} {below : List Frame} {meth : Method} {c : Code} {H : Heap} {locs : List Loc} {cells slots : Nat} {Qs : State → Prop} {g : JFrame}
    (h1 : R'.frames ≤ R.frames) (h2 : R'.cells ≤ R.cells) (h3 : R'.slots ≤ R.slots) (h4 : R'.locals ≤ R.locals) (k : W p l e R' s m args below meth c H locs cells slots Qs g) : W p l e R s m args below meth c H locs cells slots Qs g := by
  intro T hT X
  refine k T hT { X with room := ?_ }
  have h := X.room
  simp only [State.hasRoom, Bool.and_eq_true, decide_eq_true_eq] at h ⊢
  obtain ⟨⟨⟨⟨a1, a2, a3, a4, a5, a6⟩, a7⟩, a8⟩, a9⟩ := h
  exact ⟨⟨⟨⟨by omega, by omega, by omega, by omega, by omega, a6⟩, by omega⟩, by omega⟩, a9⟩
/-- the law's walk out of its contract -/
theorem am_whole {N : Nat} (hlaw : ∀ X : am_X, X.1.stackTraces = false → X.2.2.2.2.2.1 ≤ N → am_C X mt_L_law 60 [.retAddr 300] [] (fun r h => r = some (.int 1) ∧ h.length ≤ 600002 ∧ am_sl h ≤ 7302232))
    {p : Program} {e : Env} {s : State} {m : MethodId} {below : List Frame} {meth : Method} {c : Code} (l : Launch) (hl9 : l.stackTraces = false) {b L : Nat} {xs : Nat → Int32} (hL : L ≤ N) (C0 : lw_At p s m meth c b L xs) : W p l e room_1 s m #[Value.ref b] below meth c s.heap [] 0 0 (lw_Z below #[Value.ref b] s) (entryFrame m ([Value.ref b] : List Value).toArray 7) := by
  obtain ⟨hx, hb, hr, hml, hown, hts, hX, hbl, hlk, hgv⟩ := C0
  obtain ⟨D, dA, E, hE, hK⟩ := am_start l hts hgv hX hbl
  obtain ⟨r, h', ⟨hr1, hcl, hsl⟩, -, hW⟩ := hlaw (l, D, dA, s.heap.size, E, L, xs) hl9 hL
  have hl := lv_entry ([Value.ref b] : List Value) (n := 7) (Nat.le_of_ble_eq_true rfl)
  rw [lg_entry_eq]
  generalize (lg_sl ([Value.ref b] : List Value) ++ List.replicate (7 - (lg_sl ([Value.ref b] : List Value)).length) Slot.unset).toArray = ls at hl ⊢
  have hl' : lv_has ls 7 (lv_args 0 (([.retAddr 300] : List Value).map (am_v (s.heap.size, E, L, xs)))) := by
    show lv_has ls 7 (lv_args 0 [.ref (E 300)])
    rw [hE]
    exact hl
  have hW2 := hW p e s m #[Value.ref b] below meth c [] s.heap [] _ ⟨hx, hb, hml, hr, hlk, hown, fun h9 => absurd h9 (by decide), fun w hw => hts w (List.mem_filter.mp hw).1, hK, rfl, fun hh h9 => absurd h9 (by show ¬ am_hh ⟨"WebFinderLaw", "law", "([I)Z"⟩ = some hh; unfold am_hh; simp)⟩ ⟨Nat.le_refl _, Nat.le_refl _⟩ (am_L.entry hl') (fun k q hk => by simp [am_w] at hk) va_S.rf
  have hW3 := am_room (R := room_1) (show 60 ≤ 2048 by decide) (show h'.length - 0 ≤ 600002 by omega) (show am_sl h' - 0 ≤ 7302232 by omega) (show 60 * 80 ≤ 84000 by decide) hW2
  intro T hT Xs
  subst hr1
  obtain ⟨t, g1, o, g2, g3, ⟨g4, -, -⟩, g6, L9, g7, g8⟩ := hW3 T hT Xs
  have g4' := (am_o_nt (X := (l, D, dA, s.heap.size, E, L, xs)) (r := some (.int 1)) (fun e h9 => by cases h9)).mp g4
  refine ⟨t, g1, o, g2, g3, g4', ⟨_, g4'⟩, g6, g7.weaken (fun y hy hlt => ?_) (by show h'.length - 0 ≤ 600002; omega) (by show am_sl h' - 0 ≤ 7302232; omega)⟩
  have h9 : s.heap.size ≤ y.base := g8 y hy
  exact absurd hlt (Nat.not_lt.mpr h9)
