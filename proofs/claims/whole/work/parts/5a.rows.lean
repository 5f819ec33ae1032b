/-! ===== rows of texts one behind the other ===== -/
theorem q_tx0 {X : am_X} {M : am_Mt} {d pc : Nat} {l : am_lo} {st : List Value} {h : List va_E} {Q : Option Value → List va_E → Prop} {a n : Nat} (i : Nat) {g : Nat → Int32} {L : List Int32} (hd : decode M.2.1 pc = .ok (.baload, 1)) (hh : h[a]? = some (.inl (0, n, .inl g))) (hT : tx g 0 L) (hs : L.length ≤ n) (hi : i < L.length) (hn : n < 2 ^ 30) (k : am_G X M d (pc + 1) l (.int (gx L i) :: st) h Q) : am_G X M d pc l (.int (nI i) :: .ref a :: st) h Q :=
  q_baload i hd hh (by omega) (by omega) (by have h9 := hT i hi; rw [Nat.zero_add] at h9; rw [h9]; exact k)
theorem eq_gx {L M : List Int32} : L = M ↔ L.length = M.length ∧ ∀ j, j < M.length → gx L j = gx M j := by
  constructor
  · rintro rfl
    exact ⟨rfl, fun _ _ => rfl⟩
  · rintro ⟨h1, h2⟩
    apply List.ext_getElem h1
    intro i a b
    have := h2 i b
    rw [gx_eq a, gx_eq b] at this
    exact this
def gT (T : List (List Int32)) (k : Nat) : List Int32 := T.getD k []
/-- where row k begins -/
def ofs (T : List (List Int32)) (k : Nat) : Nat := ((T.take k).map List.length).sum
theorem gT_eq {T : List (List Int32)} {k : Nat} (h : k < T.length) : gT T k = T[k] := by unfold gT; rw [List.getD_eq_getElem?_getD, List.getElem?_eq_getElem h]; rfl
theorem ofs_0 (T : List (List Int32)) : ofs T 0 = 0 := rfl
theorem ofs_s {T : List (List Int32)} {k : Nat} (h : k < T.length) : ofs T (k + 1) = ofs T k + (gT T k).length := by
  unfold ofs
  rw [List.take_add_one, List.getElem?_eq_getElem h, gT_eq h, List.map_append, List.sum_append]
  simp
theorem ofs_le {T : List (List Int32)} {m : Nat} (hm : ∀ k, k < T.length → (gT T k).length ≤ m) : ∀ k, k ≤ T.length → ofs T k ≤ m * k
  | 0, _ => Nat.le_refl _
  | k + 1, h => by
    rw [ofs_s (by omega), Nat.mul_succ]
    have := ofs_le hm k (by omega)
    have := hm k (by omega)
    omega
theorem gT_app {T : List (List Int32)} {D : List Int32} {k : Nat} (h : k < T.length) : gT (T ++ [D]) k = gT T k := by
  rw [gT_eq h, gT_eq (by rw [List.length_append]; omega), List.getElem_append_left h]
theorem gT_new {T : List (List Int32)} {D : List Int32} : gT (T ++ [D]) T.length = D := by
  rw [gT_eq (by rw [List.length_append]; exact Nat.lt_succ_self _), List.getElem_append_right (Nat.le_refl _)]
  simp
theorem ofs_app {T : List (List Int32)} {D : List Int32} {k : Nat} (h : k ≤ T.length) : ofs (T ++ [D]) k = ofs T k := by unfold ofs; rw [List.take_append_of_le_length h]
/-- rows T: at k the place, ln k the length -/
def rws (b at_ ln : Nat → Int32) (T : List (List Int32)) : Prop := ∀ k, k < T.length → at_ k = nI (ofs T k) ∧ ln k = nI (gT T k).length ∧ tx b (ofs T k) (gT T k)
/-- D written from n on -/
def wrt (g : Nat → Int32) (n : Nat) (D : List Int32) : Nat → Int32 := fun j => if n ≤ j ∧ j < n + D.length then gx D (j - n) else g j
theorem wrt_nil (g : Nat → Int32) (n : Nat) : wrt g n [] = g := by
  funext j
  unfold wrt
  rw [if_neg (by intro h; have h1 := h.2; simp at h1; omega)]
theorem gx_app_l {D E : List Int32} {j : Nat} (h : j < D.length) : gx (D ++ E) j = gx D j := by
  rw [gx_eq h, gx_eq (by rw [List.length_append]; omega), List.getElem_append_left h]
theorem gx_app_r {D E : List Int32} {j : Nat} (h : D.length ≤ j) : gx (D ++ E) j = gx E (j - D.length) := by
  show (D ++ E).getD j 0 = E.getD (j - D.length) 0
  rw [List.getD_eq_getElem?_getD, List.getD_eq_getElem?_getD, List.getElem?_append_right h]
theorem wrt_snoc (g : Nat → Int32) (n : Nat) (D : List Int32) (v : Int32) : upd (wrt g n D) (n + D.length) v = wrt g n (D ++ [v]) := by
  funext j
  unfold upd wrt
  rw [List.length_append]
  show (if j = n + D.length then v else _) = if n ≤ j ∧ j < n + (D.length + 1) then _ else _
  by_cases h1 : j = n + D.length
  · rw [if_pos h1, if_pos (by omega), gx_app_r (by omega), show j - n - D.length = 0 by omega]
    rfl
  · rw [if_neg h1]
    by_cases h2 : n ≤ j ∧ j < n + D.length
    · rw [if_pos h2, if_pos (by omega), gx_app_l (by omega)]
    · rw [if_neg h2, if_neg (by omega)]
theorem wrt_tx (g : Nat → Int32) (n : Nat) (D : List Int32) : tx (wrt g n D) n D := fun j hj => by
  unfold wrt
  rw [if_pos (by omega), Nat.add_sub_cancel_left]
theorem wrt_tx_l {g : Nat → Int32} {n s : Nat} {D L : List Int32} (h : tx g s L) (hs : s + L.length ≤ n) : tx (wrt g n D) s L := fun j hj => by
  unfold wrt
  rw [if_neg (by omega)]
  exact h j hj
theorem ofs_mono {T : List (List Int32)} {j : Nat} : ∀ {k : Nat}, j ≤ k → k ≤ T.length → ofs T j ≤ ofs T k
  | 0, h, _ => by rw [show j = 0 by omega]; exact Nat.le_refl _
  | k + 1, h, hk => by
    rcases Nat.eq_or_lt_of_le h with e | e
    · rw [e]; exact Nat.le_refl _
    · rw [ofs_s (by omega)]
      have := ofs_mono (T := T) (j := j) (k := k) (by omega) (by omega)
      omega
theorem flat_len : ∀ (T : List (List Int32)), T.flatten.length = ofs T T.length
  | [] => rfl
  | D :: T => by
    rw [List.flatten_cons, List.length_append, flat_len T]
    unfold ofs
    rw [List.length_cons, List.take_succ_cons, List.map_cons, List.sum_cons]
theorem gT_c0 {D : List Int32} {T : List (List Int32)} : gT (D :: T) 0 = D := rfl
theorem gT_cs {D : List Int32} {T : List (List Int32)} {k : Nat} : gT (D :: T) (k + 1) = gT T k := rfl
theorem ofs_cs {D : List Int32} {T : List (List Int32)} {k : Nat} : ofs (D :: T) (k + 1) = D.length + ofs T k := by
  unfold ofs
  rw [List.take_succ_cons, List.map_cons, List.sum_cons]
theorem flat_gx : ∀ (T : List (List Int32)) (P : List Int32) (k j : Nat), k < T.length → j < (gT T k).length → gx (T.flatten ++ P) (ofs T k + j) = gx (gT T k) j
  | [], P, k, j, hk, hj => absurd hk (Nat.not_lt_zero k)
  | D :: T, P, 0, j, hk, hj => by
    rw [ofs_0, Nat.zero_add, List.flatten_cons, List.append_assoc, gT_c0]
    rw [gT_c0] at hj
    exact gx_app_l hj
  | D :: T, P, k + 1, j, hk, hj => by
    rw [gT_cs] at hj ⊢
    rw [ofs_cs, List.flatten_cons, List.append_assoc, gx_app_r (by omega), show D.length + ofs T k + j - D.length = ofs T k + j by omega]
    exact flat_gx T P k j (by simpa using hk) hj
/-- row k stands at its place -/
theorem flat_tx {g : Nat → Int32} {T : List (List Int32)} {P : List Int32} {k : Nat} (h : tx g 0 (T.flatten ++ P)) (hk : k < T.length) : tx g (ofs T k) (gT T k) := fun j hj => by
  have h1 := ofs_s hk
  have h2 := ofs_mono (T := T) (j := k + 1) (k := T.length) (by omega) (Nat.le_refl _)
  have h3 := h (ofs T k + j) (by rw [List.length_append, flat_len]; omega)
  rw [Nat.zero_add] at h3
  rw [h3]
  exact flat_gx T P k j hk hj
theorem flat_take {T : List (List Int32)} {P : List Int32} {k : Nat} (hk : k ≤ T.length) : sub (T.flatten ++ P) 0 (ofs T k) = (T.take k).flatten := by
  have e : T.flatten ++ P = (T.take k).flatten ++ ((T.drop k).flatten ++ P) := by
    rw [← List.append_assoc, ← List.flatten_append, List.take_append_drop]
  have hl : (T.take k).flatten.length = ofs T k := by
    rw [flat_len, List.length_take]
    unfold ofs
    rw [List.take_take]
    congr 3
    omega
  rw [e]
  unfold sub
  rw [Nat.sub_zero, List.drop_zero, ← hl, List.take_left]
/-- the first row that is D -/
def nbr (T : List (List Int32)) (D : List Int32) : Option Nat := if fx (fun j => decide (¬ gT T j = D)) 0 T.length < T.length then some (fx (fun j => decide (¬ gT T j = D)) 0 T.length) else none
