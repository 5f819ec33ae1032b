/-! ===== the order of addresses, and the got ones in their order ===== -/
def bl : List Int32 → List Int32 → Bool
  | _, [] => false
  | [], _ :: _ => true
  | a :: A, b :: B => if a = b then bl A B else decide (a < b)
theorem gx_c0 {a : Int32} {A : List Int32} : gx (a :: A) 0 = a := rfl
theorem gx_cs {a : Int32} {A : List Int32} {j : Nat} : gx (a :: A) (j + 1) = gx A j := rfl
theorem bef_bl : ∀ D E : List Int32, bef D E = bl D E
  | [], [] => rfl
  | a :: A, [] => by
    unfold bef
    rw [if_neg (by rw [show min (a :: A).length ([] : List Int32).length = 0 from Nat.min_eq_right (Nat.zero_le _)]; exact Nat.not_lt_zero _)]
    rfl
  | [], b :: B => by
    unfold bef
    rw [if_neg (by rw [show min ([] : List Int32).length (b :: B).length = 0 from Nat.min_eq_left (Nat.zero_le _)]; exact Nat.not_lt_zero _)]
    exact decide_eq_true (Nat.succ_pos _)
  | a :: A, b :: B => by
    have hm : min (a :: A).length (b :: B).length = min A.length B.length + 1 := by
      show min (A.length + 1) (B.length + 1) = _
      omega
    show bef (a :: A) (b :: B) = if a = b then bl A B else decide (a < b)
    by_cases e : a = b
    · have hd : dfp (a :: A) (b :: B) = dfp A B + 1 := by
        unfold dfp
        rw [hm]
        have hb := fx_bd (P := fun j => decide (gx A j = gx B j)) (f := 0) (t := min A.length B.length) (Nat.zero_le _)
        refine fx_eq (Nat.zero_le _) (by omega) (fun j _ hj => ?_) (fun h9 => ?_)
        · cases j with
          | zero => exact decide_eq_true e
          | succ j => exact fx_in (P := fun j => decide (gx A j = gx B j)) (f := 0) (t := min A.length B.length) (Nat.zero_le _) (by omega)
        · exact fx_out (P := fun j => decide (gx A j = gx B j)) (f := 0) (t := min A.length B.length) (by omega)
      rw [if_pos e, ← bef_bl A B]
      unfold bef
      rw [hd, hm]
      by_cases h : dfp A B < min A.length B.length
      · rw [if_pos h, if_pos (by omega)]
        rfl
      · rw [if_neg h, if_neg (by omega)]
        exact decide_eq_decide.mpr ⟨fun h9 => Nat.lt_of_succ_lt_succ h9, fun h9 => Nat.succ_lt_succ h9⟩
    · have hd : dfp (a :: A) (b :: B) = 0 := fx_eq (Nat.le_refl _) (Nat.zero_le _) (fun j _ hj => absurd hj (Nat.not_lt_zero j)) (fun _ => decide_eq_false e)
      rw [if_neg e]
      unfold bef
      rw [hd, hm, if_pos (Nat.succ_pos _)]
      rfl
theorem bl_nil : ∀ D : List Int32, bl D [] = false
  | [] => rfl
  | _ :: _ => rfl
theorem bl_ir : ∀ D : List Int32, bl D D = false
  | [] => rfl
  | a :: A => by
    show (if a = a then bl A A else decide (a < a)) = false
    rw [if_pos rfl]
    exact bl_ir A
theorem bl_to : ∀ D E : List Int32, ¬ D = E → bl D E = false → bl E D = true
  | [], [], h, _ => absurd rfl h
  | _ :: _, [], _, _ => rfl
  | [], _ :: _, _, h => by cases h
  | a :: A, b :: B, h, h2 => by
    have h3 : (if a = b then bl A B else decide (a < b)) = false := h2
    show (if b = a then bl B A else decide (b < a)) = true
    by_cases e : a = b
    · rw [if_pos e] at h3
      rw [if_pos e.symm]
      exact bl_to A B (fun h9 => h (by rw [e, h9])) h3
    · rw [if_neg e] at h3
      rw [if_neg (fun h9 => e h9.symm)]
      have h4 := of_decide_eq_false h3
      refine decide_eq_true ?_
      rcases Int32.lt_or_eq_of_le (Int32.not_lt.mp h4) with h5 | h5
      · exact h5
      · exact absurd h5.symm e
theorem bl_tr : ∀ D E F : List Int32, bl D E = true → bl E F = true → bl D F = true
  | D, [], _, h, _ => by rw [bl_nil D] at h; cases h
  | _, E :: EE, [], _, h => by rw [bl_nil (E :: EE)] at h; cases h
  | [], _ :: _, _ :: _, _, _ => rfl
  | a :: A, b :: B, c :: C, h1, h2 => by
    have h1 : (if a = b then bl A B else decide (a < b)) = true := h1
    have h2 : (if b = c then bl B C else decide (b < c)) = true := h2
    show (if a = c then bl A C else decide (a < c)) = true
    by_cases e1 : a = b
    · rw [if_pos e1] at h1
      by_cases e2 : b = c
      · rw [if_pos e2] at h2
        rw [if_pos (e1.trans e2)]
        exact bl_tr A B C h1 h2
      · rw [if_neg e2] at h2
        rw [if_neg (by rw [e1]; exact e2), e1]
        exact h2
    · rw [if_neg e1] at h1
      have l1 := of_decide_eq_true h1
      by_cases e2 : b = c
      · rw [if_neg (by rw [← e2]; exact e1), ← e2]
        exact h1
      · rw [if_neg e2] at h2
        have l2 := of_decide_eq_true h2
        have l3 := Int32.lt_trans l1 l2
        rw [if_neg (fun h9 => by rw [h9] at l3; exact Int32.lt_irrefl l3)]
        exact decide_eq_true l3
theorem bef_ir (D : List Int32) : bef D D = false := by rw [bef_bl]; exact bl_ir D
theorem bef_to {D E : List Int32} (h : ¬ D = E) (h2 : bef D E = false) : bef E D = true := by rw [bef_bl] at h2 ⊢; exact bl_to D E h h2
theorem bef_tr {D E F : List Int32} (h1 : bef D E = true) (h2 : bef E F = true) : bef D F = true := by rw [bef_bl] at h1 h2 ⊢; exact bl_tr D E F h1 h2
/-- known ones by their addresses -/
def bfi (K : Kn) (i j : Nat) : Bool := bef (gT K.ad i) (gT K.ad j)
def insK (K : Kn) (x : Nat) (l : List Nat) : List Nat := l.filter (fun e => !bfi K x e) ++ x :: l.filter (fun e => bfi K x e)
/-- those that were got, in the order of their addresses -/
def srtK (K : Kn) : Nat → List Nat
  | 0 => []
  | n + 1 => if K.st n = 2 then insK K n (srtK K n) else srtK K n
def gN (l : List Nat) (j : Nat) : Nat := l.getD j 0
def srd (K : Kn) (l : List Nat) : Prop := l.Pairwise (fun a b => bfi K a b = true)
section ORD
variable {K : Kn} {l : List Nat} {x n i j p : Nat}
theorem gN_mem (h : j < l.length) : gN l j ∈ l := by
  unfold gN
  rw [List.getD_eq_getElem?_getD, List.getElem?_eq_getElem h]
  exact List.getElem_mem h
theorem gN_at (h : j < l.length) : gN l j = l[j] := by
  unfold gN
  rw [List.getD_eq_getElem?_getD, List.getElem?_eq_getElem h]
  rfl
theorem mem_gN (h : x ∈ l) : ∃ j, j < l.length ∧ gN l j = x := by
  obtain ⟨j, hj, e⟩ := List.getElem_of_mem h
  exact ⟨j, hj, (gN_at hj).trans e⟩
theorem insK_mem : i ∈ insK K x l ↔ i = x ∨ i ∈ l := by
  unfold insK
  rw [List.mem_append, List.mem_cons, List.mem_filter, List.mem_filter]
  constructor
  · rintro (h | h | h)
    · exact Or.inr h.1
    · exact Or.inl h
    · exact Or.inr h.1
  · rintro (h | h)
    · exact Or.inr (Or.inl h)
    · cases e : bfi K x i with
      | false => exact Or.inl ⟨h, rfl⟩
      | true => exact Or.inr (Or.inr ⟨h, rfl⟩)
theorem srtK_mem : ∀ n : Nat, i ∈ srtK K n ↔ i < n ∧ K.st i = 2
  | 0 => ⟨fun h => (by cases h), fun h => absurd h.1 (Nat.not_lt_zero i)⟩
  | n + 1 => by
    have ih := srtK_mem n
    show i ∈ (if K.st n = 2 then insK K n (srtK K n) else srtK K n) ↔ _
    by_cases h2 : K.st n = 2
    · rw [if_pos h2, insK_mem, ih]
      constructor
      · rintro (h | h)
        · exact ⟨by omega, by rw [h]; exact h2⟩
        · exact ⟨by omega, h.2⟩
      · rintro ⟨h, h3⟩
        by_cases e : i = n
        · exact Or.inl e
        · exact Or.inr ⟨by omega, h3⟩
    · rw [if_neg h2, ih]
      constructor
      · rintro ⟨h, h3⟩
        exact ⟨by omega, h3⟩
      · rintro ⟨h, h3⟩
        by_cases e : i = n
        · rw [e] at h3; exact absurd h3 h2
        · exact ⟨by omega, h3⟩
theorem ad_inj (hw : wfK K) (hi : i < K.ad.length) (hj : j < K.ad.length) (e : gT K.ad i = gT K.ad j) : i = j := by
  unfold gT at e
  rw [List.getD_eq_getElem?_getD, List.getD_eq_getElem?_getD, List.getElem?_eq_getElem hi, List.getElem?_eq_getElem hj] at e
  have hn := List.pairwise_iff_getElem.mp hw.2.1
  rcases Nat.lt_trichotomy i j with h | h | h
  · exact absurd e (hn i j hi hj h)
  · exact h
  · exact absurd e.symm (hn j i hj hi h)
theorem insK_srd (hs : srd K l) (hd : ∀ e, e ∈ l → ¬ gT K.ad x = gT K.ad e) : srd K (insK K x l) := by
  unfold srd insK
  rw [List.pairwise_append]
  refine ⟨hs.filter _, List.pairwise_cons.mpr ⟨fun b hb => (List.mem_filter.mp hb).2, hs.filter _⟩, fun a ha b hb => ?_⟩
  obtain ⟨ha1, ha2⟩ := List.mem_filter.mp ha
  have hax : bfi K a x = true := bef_to (hd a ha1) (by
    cases e : bef (gT K.ad x) (gT K.ad a) with
    | false => rfl
    | true => rw [show bfi K x a = true from e] at ha2; cases ha2)
  rcases List.mem_cons.mp hb with e | e
  · rw [e]; exact hax
  · exact bef_tr hax (List.mem_filter.mp e).2
theorem srtK_srd (hw : wfK K) : ∀ n : Nat, n ≤ K.ad.length → srd K (srtK K n)
  | 0, _ => List.Pairwise.nil
  | n + 1, hn => by
    have ih := srtK_srd hw n (by omega)
    show srd K (if K.st n = 2 then insK K n (srtK K n) else srtK K n)
    split
    · refine insK_srd ih (fun e he h9 => ?_)
      have h8 := ((srtK_mem n).mp he).1
      have := ad_inj hw (by omega) (by omega) h9
      omega
    · exact ih
theorem insK_len : (insK K x l).length = l.length + 1 := by
  unfold insK
  rw [List.length_append, List.length_cons]
  have h : ∀ l : List Nat, (l.filter (fun e => !bfi K x e)).length + (l.filter (fun e => bfi K x e)).length = l.length := by
    intro l
    induction l with
    | nil => rfl
    | cons a l ih =>
      rw [List.filter_cons, List.filter_cons]
      cases bfi K x a with
      | false => rw [if_pos (show (!false) = true from rfl), if_neg (by decide), List.length_cons, List.length_cons]; omega
      | true => rw [if_neg (show ¬ (!true) = true by decide), if_pos rfl, List.length_cons, List.length_cons]; omega
  have := h l
  omega
theorem srtK_len : ∀ n : Nat, (srtK K n).length ≤ n
  | 0 => Nat.le_refl _
  | n + 1 => by
    have ih := srtK_len n
    show (if K.st n = 2 then insK K n (srtK K n) else srtK K n).length ≤ _
    split
    · rw [insK_len]; omega
    · omega
theorem srd_lt (hs : srd K l) (h1 : i < j) (h2 : j < l.length) : bfi K (gN l i) (gN l j) = true := by
  rw [gN_at (by omega), gN_at h2]
  exact List.pairwise_iff_getElem.mp hs i j (by omega) h2 h1
/-- where it is put in -/
theorem insK_at (hp : p ≤ l.length) (h1 : ∀ j, p ≤ j → j < l.length → bfi K x (gN l j) = true) (h2 : ∀ j, j < p → bfi K x (gN l j) = false) : insK K x l = l.take p ++ x :: l.drop p := by
  have ht : ∀ e, e ∈ l.take p → bfi K x e = false := fun e he => by
    obtain ⟨j, hj, e9⟩ := List.getElem_of_mem he
    rw [List.length_take] at hj
    rw [List.getElem_take] at e9
    have := h2 j (by omega)
    rw [gN_at (by omega), e9] at this
    exact this
  have hd : ∀ e, e ∈ l.drop p → bfi K x e = true := fun e he => by
    obtain ⟨j, hj, e9⟩ := List.getElem_of_mem he
    rw [List.length_drop] at hj
    rw [List.getElem_drop] at e9
    have := h1 (p + j) (by omega) (by omega)
    rw [gN_at (by omega), e9] at this
    exact this
  unfold insK
  have e0 : l = l.take p ++ l.drop p := (List.take_append_drop p l).symm
  have f1 : l.filter (fun e => !bfi K x e) = l.take p := by
    conv => lhs; rw [e0]
    rw [List.filter_append, List.filter_eq_self.mpr (fun e he => by rw [ht e he]; rfl), List.filter_eq_nil_iff.mpr (fun e he => by rw [hd e he]; decide), List.append_nil]
  have f2 : l.filter (fun e => bfi K x e) = l.drop p := by
    conv => lhs; rw [e0]
    rw [List.filter_append, List.filter_eq_nil_iff.mpr (fun e he => by rw [ht e he]; decide), List.filter_eq_self.mpr (fun e he => hd e he), List.nil_append]
  rw [f1, f2]
theorem insK_fil {q : Nat → Bool} (hx : q x = true) : (insK K x l).filter q = insK K x (l.filter q) := by
  unfold insK
  rw [List.filter_append, List.filter_cons, if_pos hx, List.filter_filter, List.filter_filter, List.filter_filter, List.filter_filter]
  congr 1
  · congr 1
    funext e
    exact Bool.and_comm _ _
  · congr 2
    funext e
    exact Bool.and_comm _ _
theorem insK_fil0 {q : Nat → Bool} (hx : q x = false) : (insK K x l).filter q = (l.filter q).filter (fun e => !bfi K x e) ++ (l.filter q).filter (fun e => bfi K x e) := by
  unfold insK
  rw [List.filter_append, List.filter_cons, if_neg (by rw [hx]; decide), List.filter_filter, List.filter_filter, List.filter_filter, List.filter_filter]
  congr 1
  · congr 1
    funext e
    exact Bool.and_comm _ _
  · congr 1
    funext e
    exact Bool.and_comm _ _
end ORD
