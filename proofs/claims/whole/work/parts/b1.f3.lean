/-! ===== the class folds copies ===== -/
/-- documents out of a part of the order -/
def foC (w : Gw) (h : List va_E) (K : Kn) (l : List Nat) : Prop := dO w h (dfk K l).length ∧ dpC w h K (dfk K l) ∧ (∃ gn, iA w h 61 250 gn ∧ arN gn (dfk K l)) ∧ (∃ gc, iA w h 65 250 gc ∧ ∀ j, j < (dfk K l).length → gc j = nI (cnL K l (K.tx (gN (dfk K l) j)) - 1)) ∧ (∃ gl, iA w h 64 250 gl ∧ ∀ j, j < (dfk K l).length → gl j = 0) ∧ ∃ go, iA w h 75 250 go ∧ ∀ i, i ∈ l → go i = er (nbr (txs K (dfk K l)) (K.tx i))
section F3S
variable {X : am_X} {d i k n x p pg : Nat} {w w0 w1 : Gw} {h h0 h1 : List va_E} {I : List Nat} {K V : Kn} {l : List Nat} {c : Cw} {st9 : Bool} {lim : Nat → Nat} {ck an sv sn : Nat} {cr : Option Nat} {g gn gc gl go : Nat → Int32}
theorem gN_app {j : Nat} (h : j < l.length) : gN (l ++ [i]) j = gN l j := by
  unfold gN
  rw [List.getD_eq_getElem?_getD, List.getElem?_append_left h, List.getD_eq_getElem?_getD]
theorem gN_new : gN (l ++ [i]) l.length = i := by
  unfold gN
  rw [List.getD_eq_getElem?_getD, List.getElem?_append_right (Nat.le_refl _), Nat.sub_self]
  rfl
theorem arN_new (z : arN g l) : arN (upd g l.length (nI i)) (l ++ [i]) := fun j hj => by
  have hj2 : j < l.length + 1 := by rw [List.length_append] at hj; exact hj
  by_cases e : j = l.length
  · rw [e, upd_s, gN_new]
  · rw [upd_n e, gN_app (by omega)]; exact z j (by omega)
theorem tkN (h : k < l.length) : l.take (k + 1) = l.take k ++ [gN l k] := by
  rw [List.take_add_one, List.getElem?_eq_getElem h, gN_at h]
  rfl
/-- what becomes of the arrays when a first one comes -/
theorem fo_new (hw : wfK K) (hpr : prO K (l ++ [i])) (hf : isF K i = true) (h1 : ∀ j, j < (dfk K l).length → gc j = nI (cnL K l (K.tx (gN (dfk K l) j)) - 1)) (h2 : ∀ j, j < (dfk K l).length → gl j = 0) (h3 : ∀ x, x ∈ l → go x = er (nbr (txs K (dfk K l)) (K.tx x))) : (∀ j, j < (dfk K (l ++ [i])).length → upd gc (dfk K l).length 0 j = nI (cnL K (l ++ [i]) (K.tx (gN (dfk K (l ++ [i])) j)) - 1)) ∧ (∀ j, j < (dfk K (l ++ [i])).length → upd gl (dfk K l).length 0 j = 0) ∧ ∀ x, x ∈ l ++ [i] → upd go i (nI (dfk K l).length) x = er (nbr (txs K (dfk K (l ++ [i]))) (K.tx x)) := by
  have e : dfk K (l ++ [i]) = dfk K l ++ [i] := by rw [dfk_app, if_pos hf]
  have hn := nbr_new hw hpr hf
  rw [e]
  refine ⟨fun j hj => ?_, fun j hj => ?_, fun x hx => ?_⟩
  · have hj2 : j < (dfk K l).length + 1 := by rw [List.length_append] at hj; exact hj
    rw [cnL_app]
    by_cases q : j = (dfk K l).length
    · rw [q, upd_s, gN_new, if_pos rfl, cnL_0 (fun y hy => isF_new hw hpr hf hy)]
      rfl
    · rw [upd_n q, gN_app (by omega), if_neg (fun e9 => isF_new hw hpr hf (dfk_sub (gN_mem (show j < (dfk K l).length by omega))) e9.symm), Nat.add_zero]
      exact h1 j (by omega)
  · have hj2 : j < (dfk K l).length + 1 := by rw [List.length_append] at hj; exact hj
    by_cases q : j = (dfk K l).length
    · rw [q, upd_s]
    · rw [upd_n q]; exact h2 j (by omega)
  · rw [txs_app]
    by_cases q : x = i
    · rw [q, upd_s]
      have h9 : nbr (txs K (dfk K l) ++ [K.tx i]) (K.tx i) = some (dfk K l).length := nbr_fst (by rw [List.length_append, txs_len]; exact Nat.lt_succ_self _) (by rw [← txs_len (K := K) (l := dfk K l)]; exact gT_new) (fun j hj => by
        rw [gT_app (by rw [txs_len]; exact hj), txs_g hj]
        exact isF_new hw hpr hf (dfk_sub (gN_mem hj)))
      rw [h9]
      rfl
    · have hx2 : x ∈ l := (List.mem_append.mp hx).resolve_right (fun e9 => q (List.mem_singleton.mp e9))
      rw [upd_n q, h3 x hx2, nbr_app ?_]
      cases ex : nbr (txs K (dfk K l)) (K.tx x) with
      | none =>
        exfalso
        obtain ⟨l1, l2, el⟩ := List.append_of_mem hx2
        have hp2 : prO K (l1 ++ [x]) := by
          refine List.IsPrefix.trans ?_ (prO_pre hpr)
          rw [el]
          exact ⟨l2, by rw [List.append_assoc]; rfl⟩
        have hsub : ∀ y, y ∈ dfk K (l1 ++ [x]) → y ∈ dfk K l := fun y hy => by
          rw [el]
          refine List.mem_filter.mpr ⟨?_, (List.mem_filter.mp hy).2⟩
          rcases List.mem_append.mp (List.mem_filter.mp hy).1 with q | q
          · exact List.mem_append_left _ q
          · rw [List.mem_singleton.mp q]; exact List.mem_append_right _ (List.mem_cons_self ..)
        have : ∃ y, y ∈ dfk K (l1 ++ [x]) ∧ K.tx y = K.tx x := by
          cases hfx : isF K x with
          | true => exact ⟨x, List.mem_filter.mpr ⟨List.mem_append_right _ (List.mem_singleton_self x), hfx⟩, rfl⟩
          | false =>
            obtain ⟨y, y1, y2⟩ := notF_old hw hp2 hfx
            exact ⟨y, List.mem_filter.mpr ⟨List.mem_append_left _ (dfk_sub y1), (List.mem_filter.mp y1).2⟩, y2⟩
        obtain ⟨y, y1, y2⟩ := this
        exact nbr_n ex (List.mem_map.mpr ⟨y, hsub y y1, y2⟩)
      | some v =>
        have := nbr_s ex
        rw [← this.2]
        exact gT_mem this.1
theorem fo_old {dd : Nat} (hw : wfK K) (hpr : prO K (l ++ [i])) (hf : isF K i = false) (hd : dd < (dfk K l).length) (hn : nbr (txs K (dfk K l)) (K.tx i) = some dd) (ht : K.tx (gN (dfk K l) dd) = K.tx i) (h1 : ∀ j, j < (dfk K l).length → gc j = nI (cnL K l (K.tx (gN (dfk K l) j)) - 1)) (h3 : ∀ x, x ∈ l → go x = er (nbr (txs K (dfk K l)) (K.tx x))) : (∀ j, j < (dfk K l).length → upd gc dd (nI (cnL K l (K.tx i) - 1 + 1)) j = nI (cnL K (l ++ [i]) (K.tx (gN (dfk K l) j)) - 1)) ∧ ∀ x, x ∈ l ++ [i] → upd go i (nI dd) x = er (nbr (txs K (dfk K l)) (K.tx x)) := by
  refine ⟨fun j hj => ?_, fun x hx => ?_⟩
  · rw [cnL_app]
    by_cases q : j = dd
    · rw [q, upd_s, ht, if_pos rfl]
      have := cnL_1 (K := K) (l := l) (t := K.tx i) (dfk_sub (gN_mem hd)) ht
      rw [show cnL K l (K.tx i) - 1 + 1 = cnL K l (K.tx i) + 1 - 1 by omega]
    · rw [upd_n q, if_neg (fun e9 => ?_), Nat.add_zero]
      · exact h1 j hj
      · have h9 := nbr_at (txs_nd hw (prO_pre hpr)) (by rw [txs_len]; exact hj) ((txs_g hj).trans e9.symm)
        rw [hn] at h9
        exact q (Option.some.inj h9).symm
  · by_cases q : x = i
    · rw [q, upd_s, hn]; rfl
    · have hx2 : x ∈ l := (List.mem_append.mp hx).resolve_right (fun e9 => q (List.mem_singleton.mp e9))
      rw [upd_n q]; exact h3 x hx2
theorem cnL_le {t : List Int32} : cnL K l t ≤ l.length := List.length_filter_le _ _
end F3S
