/-! ===== The machine over abstract cells: cells told by their order, values with these numbers for addresses. am_E: from a place of a method it comes to its end with an answer and cells that are told ahead. ===== -/
section AMA
/-- an array's contents, its addresses changed by f -/
def am_a (sz : Nat) (a : (Nat → Int32) ⊕ (Nat → Int64) ⊕ (Nat → UInt32) ⊕ (Nat → UInt64) ⊕ (Nat → Option Nat)) : (Nat → Int32) ⊕ (Nat → Int64) ⊕ (Nat → UInt32) ⊕ (Nat → UInt64) ⊕ (Nat → Option Nat) := match a with
  | .inr (.inr (.inr (.inr g))) => .inr (.inr (.inr (.inr (fun j => (g j).map (fun k => sz + k)))))
  | x => x
/-- z: the first address of ours; the addresses of what stands ahead of them (told as .retAddr); the script's length and ints -/
abbrev am_z : Type := Nat × (Nat → Nat) × Nat × (Nat → Int32)
def am_v (f : am_z) : Value → Value
  | .ref k => .ref (f.1 + k)
  | .retAddr k => .ref (f.2.1 k)
  | v => v
theorem am_v_cat (f : am_z) (v : Value) : (am_v f v).category = v.category := by cases v <;> rfl
theorem am_v_cats (f : am_z) (st : List Value) : ((st.map (am_v f)).map fun v => v.category).sum = (st.map fun v => v.category).sum := by
  rw [List.map_map]
  congr 1
  apply List.map_congr_left
  intro v _
  exact am_v_cat f v
def am_e (f : am_z) (dA : Nat → ClassId) : va_E → va_E
  | .inl (t, n, a) => .inl (dA t, n, am_a f.1 a)
  | .inr (c, fs) => .inr (c, fs.map (am_v f))
def am_w (f : am_z) (dA : Nat → ClassId) : Nat → List va_E → va_W
  | _, [] => []
  | i, e :: t => (f.1 + i, am_e f dA e) :: am_w f dA (i + 1) t
variable {f : am_z} {dA : Nat → ClassId}
theorem am_w_get : ∀ (h : List va_E) (i k : Nat) (e : va_E), h[k]? = some e → (am_w f dA i h)[k]? = some (f.1 + (i + k), am_e f dA e)
  | [], i, k, e, hk => by simp at hk
  | a :: t, i, 0, e, hk => by
    simp at hk
    subst hk
    simp [am_w]
  | a :: t, i, k + 1, e, hk => by
    have hk' : t[k]? = some e := by simpa using hk
    have := am_w_get t (i + 1) k e hk'
    rw [show i + 1 + k = i + (k + 1) by omega] at this
    simpa [am_w] using this
theorem am_w_inv : ∀ (h : List va_E) (i k : Nat) (q : Nat × va_E), (am_w f dA i h)[k]? = some q → ∃ e, h[k]? = some e ∧ q = (f.1 + (i + k), am_e f dA e)
  | [], i, k, q, hk => by simp [am_w] at hk
  | a :: t, i, 0, q, hk => by
    simp [am_w] at hk
    exact ⟨a, by simp, by simpa using hk.symm⟩
  | a :: t, i, k + 1, q, hk => by
    have hk' : (am_w f dA (i + 1) t)[k]? = some q := by simpa [am_w] using hk
    obtain ⟨e, h1, h2⟩ := am_w_inv t (i + 1) k q hk'
    exact ⟨e, by simpa using h1, by rw [h2, show i + 1 + k = i + (k + 1) by omega]⟩
theorem am_w_set : ∀ (h : List va_E) (i k : Nat) (e : va_E), am_w f dA i (h.set k e) = (am_w f dA i h).set k (f.1 + (i + k), am_e f dA e)
  | [], i, k, e => by simp [am_w]
  | a :: t, i, 0, e => by simp [am_w]
  | a :: t, i, k + 1, e => by
    have := am_w_set t (i + 1) k e
    rw [show i + 1 + k = i + (k + 1) by omega] at this
    simp [am_w, this]
theorem am_w_app : ∀ (h : List va_E) (i : Nat) (e : va_E), am_w f dA i (h ++ [e]) = am_w f dA i h ++ [(f.1 + (i + h.length), am_e f dA e)]
  | [], i, e => by simp [am_w]
  | a :: t, i, e => by
    have := am_w_app t (i + 1) e
    rw [show i + 1 + t.length = i + (a :: t).length by simp; omega] at this
    simp only [List.cons_append, am_w, this]
/-- how many fields or elements -/
def am_n : va_E → Nat
  | .inl (_, n, _) => n
  | .inr (_, fs) => fs.length
def am_sl : List va_E → Nat
  | [] => 0
  | e :: t => am_n e + am_sl t
theorem am_sl_app : ∀ (h g : List va_E), am_sl (h ++ g) = am_sl h + am_sl g
  | [], g => by simp [am_sl]
  | a :: t, g => by
    have := am_sl_app t g
    simp only [List.cons_append, am_sl, this]
    omega
theorem am_sl_set : ∀ (h : List va_E) (k : Nat) (e e0 : va_E), h[k]? = some e0 → am_n e = am_n e0 → am_sl (h.set k e) = am_sl h
  | [], k, e, e0, hk, _ => by simp at hk
  | a :: t, 0, e, e0, hk, hn => by
    simp at hk
    subst hk
    simp [am_sl, hn]
  | a :: t, k + 1, e, e0, hk, hn => by
    have hk' : t[k]? = some e0 := by simpa using hk
    have := am_sl_set t k e e0 hk' hn
    simp [am_sl, this]
/-! locals -/
def am_L (f : am_z) (ls : Array Slot) (n : Nat) (l : List (Option Value)) : Prop := ls.size = n ∧ lv_wf ls ∧ ∀ (i : Nat) (v : Value), l[i]? = some (some v) → ls[i]? = some (.val (am_v f v))
def am_al (f : am_z) : Nat → List (Option Value) → List (Nat × Value)
  | _, [] => []
  | i, none :: t => am_al f (i + 1) t
  | i, some v :: t => (i, am_v f v) :: am_al f (i + 1) t
theorem am_al_in : ∀ (l : List (Option Value)) (i k : Nat) (v : Value), l[k]? = some (some v) → (i + k, am_v f v) ∈ am_al f i l
  | [], i, k, v, h => by simp at h
  | none :: t, i, 0, v, h => by simp at h
  | some w :: t, i, 0, v, h => by
    simp at h
    subst h
    simp [am_al]
  | none :: t, i, k + 1, v, h => by
    have := am_al_in t (i + 1) k v (by simpa using h)
    rw [show i + 1 + k = i + (k + 1) by omega] at this
    simpa [am_al] using this
  | some w :: t, i, k + 1, v, h => by
    have := am_al_in t (i + 1) k v (by simpa using h)
    rw [show i + 1 + k = i + (k + 1) by omega] at this
    exact List.mem_cons_of_mem _ this
theorem am_al_of : ∀ (l : List (Option Value)) (i : Nat) (q : Nat × Value), q ∈ am_al f i l → ∃ (k : Nat) (v : Value), l[k]? = some (some v) ∧ q = (i + k, am_v f v)
  | [], i, q, h => by simp [am_al] at h
  | none :: t, i, q, h => by
    obtain ⟨k, v, h1, h2⟩ := am_al_of t (i + 1) q h
    exact ⟨k + 1, v, by simpa using h1, by rw [h2, show i + 1 + k = i + (k + 1) by omega]⟩
  | some w :: t, i, q, h => by
    rcases List.mem_cons.mp h with h | h
    · exact ⟨0, w, by simp, by simpa using h⟩
    · obtain ⟨k, v, h1, h2⟩ := am_al_of t (i + 1) q h
      exact ⟨k + 1, v, by simpa using h1, by rw [h2, show i + 1 + k = i + (k + 1) by omega]⟩
theorem am_L.has {ls : Array Slot} {n : Nat} {l : List (Option Value)} (h : am_L f ls n l) : lv_has ls n (am_al f 0 l) := by
  refine ⟨h.1, h.2.1, fun q hq => ?_⟩
  obtain ⟨k, v, h1, rfl⟩ := am_al_of l 0 q hq
  have := h.2.2 k v h1
  simpa using this
/-- a long's first half goes when its second is written over -/
def am_c2 (l : List (Option Value)) (i : Nat) : List (Option Value) := match i with
  | 0 => l
  | j + 1 => match l[j]? with
    | some (some (.long _)) => l.set j none
    | some (some (.double _)) => l.set j none
    | _ => l
theorem am_c2_of {l : List (Option Value)} {i j : Nat} {w : Value} (h : (am_c2 l i)[j]? = some (some w)) : l[j]? = some (some w) ∧ ¬ (j + 1 = i ∧ w.category = 2) := by
  cases i with
  | zero => exact ⟨h, by omega⟩
  | succ i =>
    have key : ∀ x : Option Value, (l.set i x)[j]? = some (some w) → x = none → l[j]? = some (some w) ∧ ¬ j = i := by
      intro x hx hn
      subst hn
      by_cases e : j = i
      · subst e
        by_cases hl : j < l.length
        · rw [List.getElem?_set_self hl] at hx
          cases hx
        · rw [List.getElem?_eq_none (by simpa using hl)] at hx
          cases hx
      · rw [List.getElem?_set_ne (Ne.symm e)] at hx
        exact ⟨hx, e⟩
    unfold am_c2 at h
    dsimp only at h
    split at h
    · obtain ⟨h1, h2⟩ := key none h rfl
      exact ⟨h1, fun q => h2 (by omega)⟩
    · obtain ⟨h1, h2⟩ := key none h rfl
      exact ⟨h1, fun q => h2 (by omega)⟩
    · rename_i n1 n2
      refine ⟨h, fun q => ?_⟩
      have e : j = i := by omega
      subst e
      cases w with
      | long z => exact n1 z h
      | double z => exact n2 z h
      | _ => simp [Value.category] at q
def am_p1 (l : List (Option Value)) (i : Nat) (v : Value) : List (Option Value) := (am_c2 l i).set i (some v)
def am_p2 (l : List (Option Value)) (i : Nat) (v : Value) : List (Option Value) := ((am_c2 l i).set i (some v)).set (i + 1) none
theorem am_set_of {l : List (Option Value)} {i j : Nat} {x : Option Value} {w : Value} (h : (l.set i x)[j]? = some (some w)) : (j = i ∧ x = some w) ∨ (j ≠ i ∧ l[j]? = some (some w)) := by
  by_cases e : j = i
  · subst e
    by_cases hl : j < l.length
    · rw [List.getElem?_set_self hl] at h
      exact Or.inl ⟨rfl, Option.some.inj h⟩
    · rw [List.getElem?_eq_none (by simpa using hl)] at h
      cases h
  · rw [List.getElem?_set_ne (Ne.symm e)] at h
    exact Or.inr ⟨e, h⟩
theorem am_L.p1 {ls : Array Slot} {n i : Nat} {l : List (Option Value)} {v : Value} (h : lv_has ls n ((i, am_v f v) :: (am_al f 0 l).filter (fun q => !(q.1 == i) && !(q.1 + 1 == i && q.2.category == 2)))) : am_L f ls n (am_p1 l i v) := by
  refine ⟨h.1, h.2.1, fun j w hw => ?_⟩
  rcases am_set_of hw with ⟨e, hx⟩ | ⟨e, hx⟩
  · subst e
    cases hx
    exact h.2.2 _ List.mem_cons_self
  · obtain ⟨h1, h2⟩ := am_c2_of hx
    have h3 := am_al_in (f := f) l 0 j w h1
    rw [Nat.zero_add] at h3
    refine h.2.2 (j, am_v f w) (List.mem_cons_of_mem _ (List.mem_filter.mpr ⟨h3, ?_⟩))
    have hcat := am_v_cat f w
    by_cases q : j + 1 = i
    · have : ¬ w.category = 2 := fun z => h2 ⟨q, z⟩
      simp [e, q, hcat, this]
    · simp [e, q]
theorem am_L.p2 {ls : Array Slot} {n i : Nat} {l : List (Option Value)} {v : Value} (h : lv_has ls n ((i, am_v f v) :: (am_al f 0 l).filter (fun q => !(q.1 == i) && (!(q.1 == i + 1) && !(q.1 + 1 == i && q.2.category == 2))))) : am_L f ls n (am_p2 l i v) := by
  refine ⟨h.1, h.2.1, fun j w hw => ?_⟩
  rcases am_set_of hw with ⟨e, hx⟩ | ⟨e0, hw⟩
  · cases hx
  rcases am_set_of hw with ⟨e, hx⟩ | ⟨e, hx⟩
  · subst e
    cases hx
    exact h.2.2 _ List.mem_cons_self
  · obtain ⟨h1, h2⟩ := am_c2_of hx
    have h3 := am_al_in (f := f) l 0 j w h1
    rw [Nat.zero_add] at h3
    refine h.2.2 (j, am_v f w) (List.mem_cons_of_mem _ (List.mem_filter.mpr ⟨h3, ?_⟩))
    have hcat := am_v_cat f w
    by_cases q : j + 1 = i
    · have : ¬ w.category = 2 := fun z => h2 ⟨q, z⟩
      simp [e, e0, q, hcat, this]
    · simp [e, e0, q]
/-! the locals with which a method begins -/
def am_en : List Value → List (Option Value)
  | [] => []
  | v :: t => if v.category = 2 then some v :: none :: am_en t else some v :: am_en t
/-- the values, and free ones up to n -/
def am_fr (n : Nat) (vs : List Value) : List (Option Value) := am_en vs ++ List.replicate (n - (am_en vs).length) none
theorem am_en_of : ∀ (vs : List Value) (i j : Nat) (w : Value), (am_en vs)[j]? = some (some w) → (i + j, am_v f w) ∈ lv_args i (vs.map (am_v f))
  | [], i, j, w, h => by simp [am_en] at h
  | v :: t, i, j, w, h => by
    simp only [List.map_cons, lv_args, am_v_cat]
    by_cases hc : v.category = 2
    · simp only [am_en, hc, if_true] at h ⊢
      match j, h with
      | 0, h =>
        simp at h
        subst h
        simp
      | 1, h => simp at h
      | j + 2, h =>
        have := am_en_of t (i + 2) j w (by simpa using h)
        rw [show i + 2 + j = i + (j + 2) by omega] at this
        exact List.mem_cons_of_mem _ this
    · simp only [am_en, hc, if_false] at h ⊢
      match j, h with
      | 0, h =>
        simp at h
        subst h
        simp
      | j + 1, h =>
        have := am_en_of t (i + 1) j w (by simpa using h)
        rw [show i + 1 + j = i + (j + 1) by omega] at this
        exact List.mem_cons_of_mem _ this
theorem am_L.entry {ls : Array Slot} {n : Nat} {vs : List Value} (h : lv_has ls n (lv_args 0 (vs.map (am_v f)))) : am_L f ls n (am_fr n vs) := by
  refine ⟨h.1, h.2.1, fun j w hw => ?_⟩
  unfold am_fr at hw
  by_cases hl : j < (am_en vs).length
  · rw [List.getElem?_append_left hl] at hw
    have := am_en_of (f := f) vs 0 j w hw
    rw [Nat.zero_add] at this
    exact h.2.2 _ this
  · rw [List.getElem?_append_right (by omega)] at hw
    have := List.eq_of_mem_replicate (List.mem_of_getElem? hw)
    cases this
end AMA
