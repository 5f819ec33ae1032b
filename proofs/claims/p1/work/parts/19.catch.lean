/-! ===== a call whose exception is caught ===== -/
section AMK
variable {p : Program} {l : Launch} {e : Env} {R : Room} {s : State} {m : MethodId} {sargs : Array Value} {below : List Frame} {meth : Method} {c : Code} {U : State} {Ls : List Loc} {c0 s0 : Nat}
/-- a callee that throws: its frame is gone, the note stands over the caller's frame -/
theorem am_backT {y : MethodName} {ws : List Cond} {rm : Room} {Pc : Array Value → State → Prop} {Z : Array Value → State → Addr → State → Prop} {mc ms : Nat} {free : Addr → Prop} {bytes : ByteArray} {maxL len : Nat} {ret : Option FieldType} {g : JFrame} {ig : Instr} {mk : MethodId} {a : Array Value}
    (hM : MetFree l y (headSpec ws rm) Pc (fun _ _ _ _ _ => True) (fun a st o t => ∃ q, o = .threw q ∧ Z a st q t ∧ st.WarmedH t.vm ∧ ∃ L, st.sameButNew ({ t with vm := st.vm } : State) L mc ms ∧ ∀ z ∈ L, free z.base))
    (X : Stand p l e R s m sargs below meth c U Ls c0 s0) (hg : g.method = m) (hsize : g.locals.size = c.maxLocals) (hdg : decode c.code g.pc = .ok (ig, len)) (hwd : 2 * g.monitorRoom + (g.stack.map fun v => v.category).sum ≤ 8) (hn : U.methodNamed? y = some mk)
    (h1 : (headSpec ws rm).pre.before a U = true) (h2 : (Cond.code y bytes maxL ret).before a U = true) (h3 : (Cond.initialized y.cls).before a U = true) (h4 : c0 + rm.cells ≤ R.cells) (h5 : s0 + rm.slots ≤ R.slots) (hframes : rm.frames + 1 ≤ R.frames) (hlocals : 8 + (maxL + 11) + rm.locals ≤ R.locals) (hPc : Pc a (U.calling g mk a)) :
    ∃ (q : Addr) (U' t : State) (L : List Loc), Stand p l e R s m sargs below meth c U' (Ls ++ L) (c0 + mc) (s0 + ms) ∧ (∀ z ∈ L, free z.base) ∧ U'.heap = t.heap ∧ U'.vm = t.vm ∧ Z a (U.calling g mk a) q t ∧ Steps p.tables e below (doInvoke e (U.setTop g) [] mk a).1 ((U'.setTop g).pushFrame (.throwing q)) := by
  obtain ⟨methY, cY, hmY, hcY, -, hlY, -, -, -, -⟩ := Cond.code_spec hn h2
  obtain ⟨kY, hkY, -⟩ := className_of_methodNamed hn
  have hinitY : kY.init = .initialized := Cond.initialized_spec (findClass_of_methodNamed hn) hkY h3
  have h : At U g.method c below := by rw [hg]; exact X.here
  have happ : (headSpec ws rm).appliesLoose y e.platform (U.calling g mk a) = true :=
    Spec.appliesLoose_calling (g := g) h hdg hn hkY hinitY (X.room_calling (g := g) (R' := (headSpec ws rm).room) hsize hmY hcY hframes (by rw [hlY]; have : (headSpec ws rm).room.locals = rm.locals := rfl; omega) h4 h5) h1
  obtain ⟨mid, hmid⟩ := h.above
  have hfr : (U.setTop g).frames = (.java g :: mid) ++ below := by rw [State.frames_setTop' g h.top, hmid]; rfl
  obtain ⟨o, s2, hsteps, -, hend, hq⟩ := Steps.callFree hM p X.admits X.cas X.clock (acts := []) hfr happ hPc trivial
  have hq' : ∃ q, o = .threw q ∧ Z a (U.calling g mk a) q s2 ∧ (U.calling g mk a).WarmedH s2.vm ∧ ∃ L, (U.calling g mk a).sameButNew ({ s2 with vm := (U.calling g mk a).vm } : State) L mc ms ∧ ∀ z ∈ L, free z.base := hq
  obtain ⟨q, rfl, hZ, hW2, L, hsm, hL⟩ := hq'
  rw [State.frames_setTop' g h.top] at hend
  obtain ⟨g0, hg0⟩ := Option.isSome_iff_exists.mp h.top
  obtain ⟨r, hr⟩ := State.topJava?_eq_some.mp hg0
  obtain ⟨th, hth, -⟩ := State.frames_cons hr
  have hr' : (({ U with heap := s2.heap, slotsUsed := s2.slotsUsed } : State).setVm s2.vm).frames = .java g0 :: r := hr
  obtain ⟨e2, q2, q3, q4, q5, q6⟩ := id hsm
  have e3 : s2 = ({ (U.calling g mk a).setFrames s2.frames with heap := s2.heap, slotsUsed := s2.slotsUsed } : State).setVm s2.vm := by
    have h9 : s2 = ({ s2 with vm := (U.calling g mk a).vm } : State).setVm s2.vm := rfl
    rw [e2] at h9
    exact h9
  have hf2 : s2.frames = .throwing q :: .java g :: U.frames.tail := hend
  have hW' : U.WarmedH s2.vm := hW2
  have hs2 : s2 = ((({ U with heap := s2.heap, slotsUsed := s2.slotsUsed } : State).setVm s2.vm).setTop g).pushFrame (.throwing q) := by
    refine e3.trans ?_
    rw [hf2, State.calling_eq h.top, State.setFrames_setFrames, State.pushFrame, State.frames_setTop _ hr', State.setTop_of_frames _ hr', State.setFrames_setFrames, hr]
    rfl
  have hsame : U.sameButNew ({ U with heap := s2.heap, slotsUsed := s2.slotsUsed } : State) L mc ms := by
    refine ⟨?_, q2, q3, q4, q5, q6⟩
    show ({ U with heap := s2.heap, slotsUsed := s2.slotsUsed } : State) = { U.setFrames U.frames with heap := s2.heap, slotsUsed := s2.slotsUsed }
    rw [State.setFrames_self hth]
  subst hg
  refine ⟨q, ({ U with heap := s2.heap, slotsUsed := s2.slotsUsed } : State).setVm s2.vm, s2, L, ⟨X.admits, X.cas, X.clock, X.frames, X.room, X.hears, X.method, X.code, (X.here.setHeapUsed s2.heap s2.slotsUsed).setVm hW'.alike, X.tail, State.WarmedH.trans X.warmed hW', X.limits, X.bytes, X.same.trans (hsame.setVm s.vm)⟩, hL, rfl, rfl, hZ, ?_⟩
  rw [← hs2]
  exact hsteps
end AMK
section AMJ
variable {X : am_X} {M M' : am_Mt} {d pc : Nat} {l : am_lo} {st vs : List Value} {h h1 : List va_E} {Q Q' : Option Value → List va_E → Prop}
theorem am_metT {e9 : UInt64} (hy : plainFor M.1 = true ∧ (am_hh M.1).getD [] = []) (hn : (am_en vs).length ≤ M.2.2.1) (hE : am_E X M d 0 (am_fr M.2.2.1 vs) [] h (some (.double e9)) h1) :
    MetFree X.1 M.1 (headSpec (Cond.code M.1 M.2.1 M.2.2.1 M.2.2.2 :: am_gw) (am_rm d (h1.length - h.length) (am_sl h1 - am_sl h))) (va_Pc (vs.map (am_v X.2.2.2)) (am_U X h)) (fun _ _ _ _ _ => True)
      (fun a st o t => ∃ q, o = .threw q ∧ (am_o X (some (.double e9)) h1 st (.threw q) t ∧ am_U X h1 t ∧ va_F (am_A X) st t) ∧ st.WarmedH t.vm ∧ ∃ L, st.sameButNew ({ t with vm := st.vm } : State) L (h1.length - h.length) (am_sl h1 - am_sl h) ∧ ∀ z ∈ L, am_A X z.base) := by
  refine MetFree.of_bodySF (code := M.2.1) (maxLocals := M.2.2.1) (ret := M.2.2.2) hy.1 ?_ ?_
  · intro args s m h9 hn9
    obtain ⟨meth, c, g1, g2, g3, g4, g5, g6, -, -⟩ := Cond.code_spec hn9 (atoms_spec (ws := Cond.code M.1 M.2.1 M.2.2.1 M.2.2.2 :: am_gw) h9 _ List.mem_cons_self)
    exact ⟨meth, c, g1, g2, g3, g4, g5, g6⟩
  · intro p e s m args below meth c s₁ B hml hv _
    obtain ⟨rfl, hU⟩ := hv
    have hts := atoms_spec (ws := Cond.code M.1 M.2.1 M.2.2.1 M.2.2.2 :: am_gw) B.pre
    have hown : s.vm.findClass M.1.cls = some m.cls := findClass_of_methodNamed B.named
    have hnm : M.1.name = "<init>" → meth.name = "<init>" := fun h9 => (name_of_methodNamed B.named B.method).1.trans h9
    have hl := lv_entry (vs.map (am_v X.2.2.2)) (n := M.2.2.1) (by rw [am_en_len]; exact hn)
    have hW := hE.2 p e s m (vs.map (am_v X.2.2.2)).toArray below meth c h s.heap [] _ ⟨B.exec, B.bytes, hml, B.returns, B.notSynchronized, hown, hnm, fun w hw => hts w (List.mem_cons_of_mem _ hw), hU.2.2, hU.2.1, am_tab hy.2 B.named B.method (Stand.of_body B).code (hts _ List.mem_cons_self)⟩ ⟨Nat.le_refl _, Nat.le_refl _⟩ (am_L.entry hl) hU.1 va_S.rf
    rw [Nat.sub_self, Nat.sub_self] at hW
    have hh0 : s₁.heap = s.heap := by rw [B.state]; rfl
    obtain ⟨t, g1, o, g2, g3, g4, g5, L, g6, g7⟩ := hW s₁ hh0 (Stand.of_body B)
    refine ⟨t, o, by rw [lg_entry_eq]; exact g1, g2, g3, ?_⟩
    obtain ⟨⟨q, ce, k1, k2⟩, g8⟩ := g4
    subst k1
    exact ⟨q, rfl, ⟨⟨q, ce, rfl, k2⟩, g8⟩, g5, L, g6, g7⟩
theorem g_vcatch {idx n a ci s0 e0 hp ct : Nat} {fs : List Value} {q : vw_C} {rest : List Value} (hd : decode M.2.1 pc = .ok (.invokevirtual idx, 3)) (hm : am_mo M' n) (hi : Cond.instanceMethod M'.1 ∈ am_gw) (hsel : Cond.selects M'.1.cls M'.1 M'.1 ∈ am_gw) (hln : Cond.methodLink M.1.cls idx M'.1 ∈ am_gw) (hh : h[a]? = some (.inr (ci, fs))) (hci : am_cl[ci]? = some q) (hq : q.1 = M'.1.cls) (hn : vs.length = n) (hen : (am_en (.ref a :: vs)).length ≤ M'.2.2.1) (hw : (rest.map fun v => v.category).sum ≤ 8)
    (hhh : am_hh M.1 = some [(s0, e0, hp, ct)]) (hpc : s0 ≤ pc ∧ pc < e0) (hct : ct ≠ 0) (e9 : UInt64) (hlk9 : Cond.classLink M.1.cls ct (am_xn e9) ∈ am_gw) (hca : Cond.castable (am_xn e9) (am_xn e9) ∈ am_nw)
    (hc : am_G X M' d 0 (am_fr M'.2.2.1 (.ref a :: vs)) [] h (fun r h1 => (am_nt r ∧ am_G X M (d + 1) (pc + 3) l (r.toList ++ rest) h1 Q) ∨ (r = some (.double e9) ∧ 0 < h1.length ∧ am_G X M (d + 1) hp l [.ref (h1.length - 1)] h1 Q))) : am_G X M (d + 1) pc l (vs.reverse ++ .ref a :: rest) h Q := by
  obtain ⟨r1, h1, hq1, hE⟩ := hc
  rcases hq1 with ⟨hnt, hG⟩ | ⟨rfl, hpos, hG⟩
  · exact g_virtual (Q' := fun r h9 => r = r1 ∧ h9 = h1) hd hm hi hsel (Or.inl hln) hh hci hq hn hen hw ⟨r1, h1, ⟨rfl, rfl⟩, hE⟩ (fun r h9 hr => by obtain ⟨rfl, rfl⟩ := hr; exact ⟨hnt, hG⟩)
  · have hle := hE.1
    refine am_G.gen (l' := l) hle (fun p e R s m args below meth c h0 H locs ls Qs B hz hl ha hS hR k2 => ?_) hG
    obtain ⟨hx, hb, hml, hr, hlk, hown, hnm, hts, hK, hsz, hxt⟩ := B
    refine am_size ha hS hsz hz.1 (fun hHs => ?_)
    have hM := am_metT hm.1 hen hE
    have he := am_w_get (f := X.2.2.2) (dA := X.2.2.1) h 0 a _ hh
    rw [Nat.zero_add] at he
    obtain ⟨cellB, hcB, hoB, hclB⟩ := va_recv hK.1 ha hci he
    rw [hq] at hclB
    have hz1 := hz.1
    have hz2 := hz.2
    have hR1 := hR.1
    have hR2 := hR.2.1
    have hm2 := hm.2.1
    intro T hT Xs
    obtain ⟨mk, methM, hnamed, hmethM, hstM, habM⟩ := Cond.instanceMethod_spec (hts _ hi)
    obtain ⟨methM', cM, hmethM', -, -, -, -, -, -, hsigM⟩ := Cond.code_spec hnamed (hts _ hm.2.2.2.1)
    cases hmethM.symm.trans hmethM'
    obtain ⟨c2, r2, m2, q1, q2, q3, q4, kP, hkP, hkPi⟩ := Cond.selects_spec (hts _ hsel)
    cases hclB.symm.trans q1
    cases (State.methodFound?_of_named hnamed hm.2.2.1).symm.trans q2
    cases hnamed.symm.trans q3
    have hselP : selectMethod e.platform s.vm cellB.cls mk = .method mk := by rw [Launch.admits_selectMethod Xs.admits]; exact q4
    have hlen : (vs.map (am_v X.2.2.2)).length = methM.sig.parameters.length := by
      have h9 := hm.2.2.2.2.2
      rw [hsigM] at h9
      have h8 : methM.sig.parameters.length = n := Option.some.inj h9
      rw [List.length_map, h8]
      exact hn
    have hstk : (F0 m pc ls ((vs.reverse ++ .ref a :: rest).map (am_v X.2.2.2))).stack = (vs.map (am_v X.2.2.2)).reverse ++ .ref (X.2.2.2.1 + a) :: rest.map (am_v X.2.2.2) := by simp [am_v]
    obtain ⟨vm₁, X₁, hstep₁⟩ := Xs.invokevirtual hx hown (hts _ hln) hnamed hmethM hstM hkP hkPi hm.2.2.1 (a := X.2.2.2.1 + a) (cell := cellB) (by rw [hT]; exact hcB) (fun z h9 => by rw [h9] at hoB; cases hoB) hselP hmethM habM hkP hkPi (g := F0 m pc ls ((vs.reverse ++ .ref a :: rest).map (am_v X.2.2.2))) rfl (argsL := vs.map (am_v X.2.2.2)) (rest := rest.map (am_v X.2.2.2)) hlen hstk (by rw [hb]; exact hd)
    have hwarm := X₁.warmed
    have hpay : ∀ w ∈ Cond.code M'.1 M'.2.1 M'.2.2.1 M'.2.2.2 :: am_gw, ∀ (a' : Array Value) (V : State), s.WarmedH V.vm → w.before a' V = true := pay_in hts (am_goodc hm)
    obtain ⟨q9, U', t, L, X', hL, u1, u2, ⟨hO, hU, hF⟩, hcome⟩ := am_backT (bytes := M'.2.1) (maxL := M'.2.2.1) (ret := M'.2.2.2) (g := { F0 m pc ls ((vs.reverse ++ .ref a :: rest).map (am_v X.2.2.2)) with stack := rest.map (am_v X.2.2.2) }) (mk := mk) (a := (Value.ref (X.2.2.2.1 + a) :: vs.map (am_v X.2.2.2) : List Value).toArray) hM X₁ rfl (by rw [hml]; exact hl.1) (by rw [hb]; exact hd) (lv_room (by rw [am_v_cats]; exact hw)) (X₁.named hnamed)
      (atoms_intro fun w hw9 => hpay w hw9 _ _ hwarm) (hpay _ List.mem_cons_self _ _ hwarm) (word_at hwarm (am_good _ hm.2.2.2.2.1).2 (hts _ hm.2.2.2.2.1)) (by show h.length - h0.length + (h1.length - h.length) ≤ R.cells; omega) (by show am_sl h - am_sl h0 + (am_sl h1 - am_sl h) ≤ R.slots; omega) (by rw [hR.2.2.1]; exact Nat.le_refl _) (by rw [hR.2.2.2]; show 8 + (M'.2.2.1 + 11) + d * 80 ≤ (d + 1) * 80; omega)
      (am_blind _ _ _ _ (am_preS (vs := .ref a :: vs) ha hHs hS hK (T.setVm vm₁) hT hwarm))
    obtain ⟨q9', ce, k1, k2', k3, k4, k5⟩ := hO
    cases k1
    have k5' : s.vm.findClass (am_xn e9) = some ce.cls := by
      have h9 : (T.setVm vm₁).vm.findClass (am_xn e9) = some ce.cls := k5
      rw [hwarm.alike.findClass] at h9
      exact h9
    have htab := hxt _ hhh
    obtain ⟨x, hx1, hx2⟩ : ∃ x, c.exceptionTable.toList = [x] ∧ (x.startPc, x.endPc, x.handlerPc, x.catchType) = (s0, e0, hp, ct) := by
      cases htl : c.exceptionTable.toList with
      | nil => rw [htl] at htab; cases htab
      | cons x t9 =>
        rw [htl] at htab
        simp only [List.map_cons, List.cons.injEq, List.map_eq_nil_iff] at htab
        exact ⟨x, by rw [htab.2], htab.1⟩
    simp only [Prod.mk.injEq] at hx2
    obtain ⟨y1, y2, y3, y4⟩ := hx2
    have hcas := va_Nw.use (A := args) rfl (hK.2.1 _ hca)
    obtain ⟨c3, c4, hc3, hc4, hasg⟩ := Cond.castable_spec hcas
    cases Option.some.inj (hc3.symm.trans k5')
    obtain ⟨hcat, hk0⟩ := X'.catches_of_link (x := x) hown (by rw [y4]; exact hct) (by rw [y4]; exact hts _ hlk9) hc4 hasg
    have hce9 : U'.heap[q9]? = some ce := by rw [u1]; exact k3
    obtain ⟨vm', X2, st2⟩ := X'.thenCaughtThrough q9 (g := { F0 m pc ls ((vs.reverse ++ .ref a :: rest).map (am_v X.2.2.2)) with stack := rest.map (am_v X.2.2.2) }) rfl hcome hce9 (by rw [k4]; rfl) hk0 [] x [] hx1 (fun z hz9 => by cases hz9) (by simp only [covers, y1, y2]; have := hpc.1; have := hpc.2; simp; omega) hcat
    have a1 : h.length - h0.length + (h1.length - h.length) = h1.length - h0.length := by have := hle.1; omega
    have a2 : am_sl h - am_sl h0 + (am_sl h1 - am_sl h) = am_sl h1 - am_sl h0 := by have := hle.2; omega
    rw [a1, a2] at X2
    obtain ⟨f1, f2⟩ := hF
    have hTv : (T.setVm vm₁).heap = H := hT
    have f1' : H.size ≤ t.heap.size := by rw [← hTv]; exact f1
    have f2' : ∀ z : Nat, z < H.size → ¬ am_A X z → t.heap[z]? = H[z]? := fun z z1 z2 => by rw [← hTv]; exact f2 z (by rw [← hTv] at z1; exact z1) z2
    obtain ⟨t2, b1, b2⟩ := k2 U'.heap (locs ++ L) ls hl (by rw [u1]; exact hU.1) ⟨Nat.le_trans hS.1 (by rw [u1]; exact f1'), fun z z1 z2 => by rw [u1, f2' z (Nat.lt_of_lt_of_le z1 hS.1) z2]; exact hS.2.1 z z1 z2, fun z hz9 => by
      rcases List.mem_append.mp hz9 with w | w
      · exact hS.2.2 z w
      · exact hL z w⟩ (U'.setVm vm') rfl X2
    refine ⟨t2, hstep₁ _ (fun acts => ?_), b2⟩
    rw [doInvoke_state]
    refine st2.trans ?_
    rw [y3, k2']
    exact b1
end AMJ
