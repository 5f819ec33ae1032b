/-! ===== new int[4][n] ===== -/
theorem am_w_app2 {f : am_z} {dA : Nat → ClassId} : ∀ (h g : List va_E) (i : Nat), am_w f dA i (h ++ g) = am_w f dA i h ++ am_w f dA (i + h.length) g
  | [], g, i => by simp [am_w]
  | a :: t, g, i => by
    have := am_w_app2 (f := f) (dA := dA) t g (i + 1)
    rw [show i + 1 + t.length = i + (a :: t).length by simp; omega] at this
    simp only [List.cons_append, am_w, this]
theorem am_outer (c : ClassId) (N h0 : Nat) : ∀ i : Nat, Jvm.Free.Multi.outerC c N h0 i = arrV c N (fun j => va_rf (if j < i then some (h0 + 1 + j) else none))
  | 0 => by
    show ({ cls := c, slots := Array.replicate N .null, vm := .none } : Cell) = _
    rw [arrV_new]
    refine congrArg (arrV c N) (funext fun j => ?_)
    simp [va_rf]
  | i + 1 => by
    show (Jvm.Free.Multi.outerC c N h0 i).setSlot i (.ref (h0 + 1 + i)) = _
    rw [am_outer c N h0 i, arrV_store]
    refine congrArg (arrV c N) (funext fun j => ?_)
    by_cases e : j = i
    · subst e
      simp [updV, va_rf]
    · by_cases h : j < i
      · simp [updV, e, h, Nat.lt_succ_of_lt h]
      · simp [updV, e, h, show ¬ j < i + 1 by omega]
/-- the cells of a table of four rows of n, the first of them at place k -/
def am_gr (k n : Nat) : List va_E := [.inl (6, 4, .inr (.inr (.inr (.inr (fun j => if j < 4 then some (k + 1 + j) else none))))), .inl (1, n, .inl (fun _ => 0)), .inl (1, n, .inl (fun _ => 0)), .inl (1, n, .inl (fun _ => 0)), .inl (1, n, .inl (fun _ => 0))]
section AMM
variable {X : am_X} {M : am_Mt} {d pc : Nat} {l : am_lo} {st : List Value} {h : List va_E} {Q : Option Value → List va_E → Prop}
theorem g_multianew {idx n : Nat} (hd : decode M.2.1 pc = .ok (.multianewarray idx 2, 4)) (hw : Cond.classLink M.1.cls idx "[[I" ∈ am_gw) (hn : n ≤ 134217728) (kk : am_G X M d (pc + 4) l (.ref h.length :: st) (h ++ am_gr h.length n) Q) : am_G X M d pc l (.int (nI n) :: .int 4 :: st) h Q := by
  have hsl : am_sl (h ++ am_gr h.length n) = am_sl h + 4 + 4 * n := by rw [am_sl_app]; simp [am_sl, am_n, am_gr]; omega
  have hle : (h ++ am_gr h.length n).length = h.length + 1 + 4 := by simp [am_gr]
  refine am_G.gen (l' := l) ⟨by omega, by omega⟩ (fun p e R s m args below meth c h0 H locs ls Qs B hz hl ha hS hR k2 => ?_) kk
  obtain ⟨hx, hb, hml, hr, hlk, hown, hnm, hts, hK, hsz, hxt⟩ := B
  refine am_size ha hS hsz hz.1 (fun hHs => ?_)
  rw [hle, hsl] at hR k2
  intro T hT Xs
  have c1 : (nI n).toNatClampNeg = n := nI_clamp (by omega)
  have c4 : (4 : Int32).toNatClampNeg = 4 := by decide
  have hz1 := hz.1
  have hz2 := hz.2
  have hR1 := hR.1
  have hR2 := hR.2.1
  obtain ⟨vm₁, cA, comp, hwarm, fA, fC, X', step⟩ := Xs.multianewarray2 hx hown (hts _ hw) hK.2.2.1.2.2 (hts _ am_wi) (g := F0 m pc ls ((.int (nI n) :: .int 4 :: st : List Value).map (am_v X.2.2.2))) rfl (by rw [hb]; exact hd) rfl (by decide) (nI_pos (by omega)) (by rw [c4]; decide) (by rw [c1]; show n * 4 ≤ _; omega) (by rw [c1]; omega) rfl rfl (by rw [c4]; omega) (by rw [c4, c1]; omega)
  rw [c4, c1] at X' step
  have hcA : cA = X.2.2.1 6 := Option.some.inj (fA.symm.trans (hK.1.2 6 _ rfl).2)
  have hcC : comp = X.2.2.1 1 := Option.some.inj (fC.symm.trans (hK.1.2 1 _ rfl).2)
  subst hcA
  subst hcC
  have hTh : (T.setVm vm₁).heap = H := hT
  obtain ⟨f1, f2, -, -⟩ := Jvm.Free.Multi.fill_facts (T.setVm vm₁) (X.2.2.1 6) (X.2.2.1 1) 4 n (defaultValue .int) 4
  have hold : ∀ q : Nat, q < H.size → (Jvm.Free.Multi.fill (T.setVm vm₁) (X.2.2.1 6) (X.2.2.1 1) 4 n (defaultValue .int) 4).heap[q]? = H[q]? := fun q hq => by
    have := Jvm.Free.Multi.fill_old (T.setVm vm₁) (X.2.2.1 6) (X.2.2.1 1) 4 n (defaultValue .int) (a := q) (by rw [hTh]; exact hq) 4
    rw [hTh] at this
    exact this
  have hrow : ∀ j : Nat, j < 4 → (Jvm.Free.Multi.fill (T.setVm vm₁) (X.2.2.1 6) (X.2.2.1 1) 4 n (defaultValue .int) 4).heap[H.size + 1 + j]? = some (arrV (X.2.2.1 1) n (fun _ => .int 0)) := fun j hj => by
    have := Jvm.Free.Multi.fill_inner (T.setVm vm₁) (X.2.2.1 6) (X.2.2.1 1) 4 n (defaultValue .int) 4 j hj
    rw [hTh] at this
    rw [this]
    show some ({ cls := X.2.2.1 1, slots := Array.replicate n (.int 0), vm := .none } : Cell) = _
    rw [arrV_new]
  rw [hTh, am_outer] at f2
  rw [hTh] at f1
  have hcells : h.length - h0.length + 1 + 4 = h.length + 1 + 4 - h0.length := by omega
  have hslots : am_sl h - am_sl h0 + 4 + 4 * n = am_sl h + 4 + 4 * n - am_sl h0 := by omega
  rw [hcells, hslots] at X'
  generalize hF : Jvm.Free.Multi.fill (T.setVm vm₁) (X.2.2.1 6) (X.2.2.1 1) 4 n (defaultValue .int) 4 = F at X' step f1 f2 hold hrow
  have hat : am_at X (h ++ am_gr h.length n) F.heap := by
    unfold am_at
    rw [am_w_app2]
    refine va_P.app (va_P.kept ha (fun k q hk => hold q.1 ((ha k q hk).lt))) (fun k q hk => ?_)
    obtain ⟨e9, g1, rfl⟩ := am_w_inv _ _ k q hk
    have hk5 : k < 5 := (List.getElem?_eq_some_iff.mp g1).1
    rcases (by omega : k = 0 ∨ k = 1 ∨ k = 2 ∨ k = 3 ∨ k = 4) with rfl | rfl | rfl | rfl | rfl
    · cases g1
      show F.heap[X.2.2.2.1 + (0 + h.length + 0)]? = _
      rw [show X.2.2.2.1 + (0 + h.length + 0) = H.size by omega, f2]
      show _ = some (vp_cell _ (4, .inr (.inr (.inr (.inr (fun j => (if j < 4 then some (h.length + 1 + j) else none : Option Nat).map (fun k => X.2.2.2.1 + k)))))))
      rw [vp_cell_q]
      refine congrArg some (congrArg (arrV _ _) (funext fun j => ?_))
      by_cases hj : j < 4
      · simp only [hj, if_true, Option.map_some]
        rw [show H.size + 1 + j = X.2.2.2.1 + (h.length + 1 + j) by omega]
      · simp only [hj, if_false, Option.map_none]
    · cases g1
      show F.heap[X.2.2.2.1 + (0 + h.length + 1)]? = _
      rw [show X.2.2.2.1 + (0 + h.length + 1) = H.size + 1 + 0 by omega, hrow 0 (by decide)]
      rfl
    · cases g1
      show F.heap[X.2.2.2.1 + (0 + h.length + 2)]? = _
      rw [show X.2.2.2.1 + (0 + h.length + 2) = H.size + 1 + 1 by omega, hrow 1 (by decide)]
      rfl
    · cases g1
      show F.heap[X.2.2.2.1 + (0 + h.length + 3)]? = _
      rw [show X.2.2.2.1 + (0 + h.length + 3) = H.size + 1 + 2 by omega, hrow 2 (by decide)]
      rfl
    · cases g1
      show F.heap[X.2.2.2.1 + (0 + h.length + 4)]? = _
      rw [show X.2.2.2.1 + (0 + h.length + 4) = H.size + 1 + 3 by omega, hrow 3 (by decide)]
      rfl
  have hSt : va_S (am_A X) s.heap F.heap (locs ++ (List.range 4).map fun j => ⟨T.heap.size, j⟩) := by
    refine ⟨Nat.le_trans hS.1 (by omega), fun q q1 q2 => (hold q (Nat.lt_of_lt_of_le q1 hS.1)).trans (hS.2.1 q q1 q2), fun q hq => ?_⟩
    rcases List.mem_append.mp hq with z | z
    · exact hS.2.2 q z
    · obtain ⟨j, -, rfl⟩ := List.mem_map.mp z
      show X.2.2.2.1 ≤ T.heap.size
      rw [hT]
      omega
  obtain ⟨t, a1, b1⟩ := k2 F.heap _ ls hl hat hSt F rfl X'
  refine ⟨t, step t ?_, b1⟩
  have e9 : (.ref T.heap.size :: st.map (am_v X.2.2.2) : List Value) = (.ref h.length :: st : List Value).map (am_v X.2.2.2) := by
    rw [hT, hHs]
    rfl
  have := a1
  rw [← e9] at this
  exact this
end AMM
