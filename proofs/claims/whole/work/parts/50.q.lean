/-! ===== locals may be forgotten ===== -/
def am_le : am_lo → am_lo → Prop
  | [], _ => True
  | none :: t, _ :: t' => am_le t t'
  | some v :: t, x :: t' => x = some v ∧ am_le t t'
  | _ :: _, [] => False
theorem am_le_0 {l : am_lo} : am_le [] l := by unfold am_le; trivial
theorem am_le_n {t t' : am_lo} {x : Option Value} (h : am_le t t') : am_le (none :: t) (x :: t') := by unfold am_le; exact h
theorem am_le_s {t t' : am_lo} {v : Value} (h : am_le t t') : am_le (some v :: t) (some v :: t') := by unfold am_le; exact ⟨rfl, h⟩
theorem am_le_g : ∀ {l l' : am_lo}, am_le l l' → ∀ (i : Nat) (v : Value), l[i]? = some (some v) → l'[i]? = some (some v)
  | [], _, _, i, v, hv => by simp at hv
  | none :: t, [], h, _, _, _ => by unfold am_le at h; exact h.elim
  | some _ :: t, [], h, _, _, _ => by unfold am_le at h; exact h.elim
  | none :: t, x :: t', h, 0, v, hv => by simp at hv
  | none :: t, x :: t', h, i + 1, v, hv => by
    unfold am_le at h
    have := am_le_g h i v (by simpa using hv)
    simpa using this
  | some w :: t, x :: t', h, 0, v, hv => by
    unfold am_le at h
    simp at hv
    rw [h.1, hv]
    rfl
  | some w :: t, x :: t', h, i + 1, v, hv => by
    unfold am_le at h
    have := am_le_g h.2 i v (by simpa using hv)
    simpa using this
theorem am_wk {X : am_X} {M : am_Mt} {d pc : Nat} {l l' : am_lo} {st : List Value} {h : List va_E} {Q : Option Value → List va_E → Prop} (hl : am_le l l') (k : am_G X M d pc l st h Q) : am_G X M d pc l' st h Q := by
  obtain ⟨r, h', q, e1, e2⟩ := k
  exact ⟨r, h', q, e1, fun p e s m args below meth c h0 H locs ls B hz hL ha hS => e2 p e s m args below meth c h0 H locs ls B hz ⟨hL.1, hL.2.1, fun i v hv => hL.2.2 i v (am_le_g hl i v hv)⟩ ha hS⟩
/-! ===== rules over numbers that are lengths and places (nI) ===== -/
theorem q_m1 {x : Nat} (h : 1 ≤ x) : nI x + (-1) = nI (x - 1) := by
  obtain ⟨y, rfl⟩ : ∃ y, x = y + 1 := ⟨x - 1, by omega⟩
  have h1 := nI_pred y
  rw [Int32.sub_eq_add_neg] at h1
  rw [Nat.add_sub_cancel]
  exact h1
theorem q_sub {a b : Nat} (h : b ≤ a) : nI a - nI b = nI (a - b) := pk_sub h
theorem q_as (s a b : Nat) : nI (s + a) + nI b = nI (s + (a + b)) := by rw [nI_add, Nat.add_assoc]
theorem q_sa (s a b : Nat) : nI a + nI (s + b) = nI (s + (a + b)) := by rw [nI_add, Nat.add_left_comm]
theorem q_ss {s a b : Nat} (h : b ≤ a) : nI (s + a) - nI (s + b) = nI (a - b) := by rw [pk_sub (by omega)]; exact congrArg nI (by omega)
theorem q_sn {s a b : Nat} (h : b ≤ a) : nI (s + a) - nI b = nI (s + (a - b)) := by rw [pk_sub (by omega)]; exact congrArg nI (by omega)
theorem q_sm1 {s a : Nat} (h : 1 ≤ a) : nI (s + a) + (-1) = nI (s + (a - 1)) := by rw [q_m1 (by omega)]; exact congrArg nI (by omega)
theorem q_nem1 {x : Nat} (h : x < 2 ^ 31) : ¬ nI x = -1 := fun e => by
  have h1 := nI_toInt h
  rw [e] at h1
  have h2 : ((-1 : Int32)).toInt = -1 := by decide
  omega
section QR
variable {X : am_X} {M : am_Mt} {d pc : Nat} {l : am_lo} {st : List Value} {h : List va_E} {Q : Option Value → List va_E → Prop}
theorem q_baload {a n : Nat} (i : Nat) {g : Nat → Int32} (hd : decode M.2.1 pc = .ok (.baload, 1)) (hh : h[a]? = some (.inl (0, n, .inl g))) (hi : i < n) (hn : n < 2 ^ 31) (k : am_G X M d (pc + 1) l (.int (g i) :: st) h Q) : am_G X M d pc l (.int (nI i) :: .ref a :: st) h Q :=
  g_baload hd hh (vp_in_nI hi hn) (by rw [nI_clamp (Nat.lt_trans hi hn)]; exact k)
theorem q_zaload {a n : Nat} (i : Nat) {g : Nat → Int32} (hd : decode M.2.1 pc = .ok (.baload, 1)) (hh : h[a]? = some (.inl (3, n, .inl g))) (hi : i < n) (hn : n < 2 ^ 31) (k : am_G X M d (pc + 1) l (.int (g i) :: st) h Q) : am_G X M d pc l (.int (nI i) :: .ref a :: st) h Q :=
  g_zaload hd hh (vp_in_nI hi hn) (by rw [nI_clamp (Nat.lt_trans hi hn)]; exact k)
theorem q_iaload {a n : Nat} (i : Nat) {g : Nat → Int32} (hd : decode M.2.1 pc = .ok (.iaload, 1)) (hh : h[a]? = some (.inl (1, n, .inl g))) (hi : i < n) (hn : n < 2 ^ 31) (k : am_G X M d (pc + 1) l (.int (g i) :: st) h Q) : am_G X M d pc l (.int (nI i) :: .ref a :: st) h Q :=
  g_iaload hd hh (vp_in_nI hi hn) (by rw [nI_clamp (Nat.lt_trans hi hn)]; exact k)
theorem q_laload {a n : Nat} (i : Nat) {g : Nat → Int64} (hd : decode M.2.1 pc = .ok (.laload, 1)) (hh : h[a]? = some (.inl (2, n, .inr (.inl g)))) (hi : i < n) (hn : n < 2 ^ 31) (k : am_G X M d (pc + 1) l (.long (g i) :: st) h Q) : am_G X M d pc l (.int (nI i) :: .ref a :: st) h Q :=
  g_laload hd hh (vp_in_nI hi hn) (by rw [nI_clamp (Nat.lt_trans hi hn)]; exact k)
theorem q_ialoadV {a n : Nat} (i : Nat) {v : Int32} {g : Nat → Int32} (hd : decode M.2.1 pc = .ok (.iaload, 1)) (hh : h[a]? = some (.inl (1, n, .inl g))) (hi : i < n) (hn : n < 2 ^ 31) (hv : g i = v) (k : am_G X M d (pc + 1) l (.int v :: st) h Q) : am_G X M d pc l (.int (nI i) :: .ref a :: st) h Q := q_iaload i hd hh hi hn (by rw [hv]; exact k)
theorem q_baloadV {a n : Nat} (i : Nat) {v : Int32} {g : Nat → Int32} (hd : decode M.2.1 pc = .ok (.baload, 1)) (hh : h[a]? = some (.inl (0, n, .inl g))) (hi : i < n) (hn : n < 2 ^ 31) (hv : g i = v) (k : am_G X M d (pc + 1) l (.int v :: st) h Q) : am_G X M d pc l (.int (nI i) :: .ref a :: st) h Q := q_baload i hd hh hi hn (by rw [hv]; exact k)
theorem q_zaloadV {a n : Nat} (i : Nat) {v : Int32} {g : Nat → Int32} (hd : decode M.2.1 pc = .ok (.baload, 1)) (hh : h[a]? = some (.inl (3, n, .inl g))) (hi : i < n) (hn : n < 2 ^ 31) (hv : g i = v) (k : am_G X M d (pc + 1) l (.int v :: st) h Q) : am_G X M d pc l (.int (nI i) :: .ref a :: st) h Q := q_zaload i hd hh hi hn (by rw [hv]; exact k)
theorem q_bastore {a n : Nat} (i : Nat) {x : Int32} {g : Nat → Int32} (hd : decode M.2.1 pc = .ok (.bastore, 1)) (hh : h[a]? = some (.inl (0, n, .inl g))) (hi : i < n) (hn : n < 2 ^ 31) (k : am_G X M d (pc + 1) l st (h.set a (.inl (0, n, .inl (upd g i (vp_nar .byte x))))) Q) : am_G X M d pc l (.int x :: .int (nI i) :: .ref a :: st) h Q :=
  g_bastore hd hh (vp_in_nI hi hn) (by rw [nI_clamp (Nat.lt_trans hi hn)]; exact k)
theorem q_zastore {a n : Nat} (i : Nat) {x : Int32} {g : Nat → Int32} (hd : decode M.2.1 pc = .ok (.bastore, 1)) (hh : h[a]? = some (.inl (3, n, .inl g))) (hi : i < n) (hn : n < 2 ^ 31) (k : am_G X M d (pc + 1) l st (h.set a (.inl (3, n, .inl (upd g i (vp_nar .boolean x))))) Q) : am_G X M d pc l (.int x :: .int (nI i) :: .ref a :: st) h Q :=
  g_zastore hd hh (vp_in_nI hi hn) (by rw [nI_clamp (Nat.lt_trans hi hn)]; exact k)
theorem q_iastore {a n : Nat} (i : Nat) {x : Int32} {g : Nat → Int32} (hd : decode M.2.1 pc = .ok (.iastore, 1)) (hh : h[a]? = some (.inl (1, n, .inl g))) (hi : i < n) (hn : n < 2 ^ 31) (k : am_G X M d (pc + 1) l st (h.set a (.inl (1, n, .inl (upd g i x)))) Q) : am_G X M d pc l (.int x :: .int (nI i) :: .ref a :: st) h Q :=
  g_iastore hd hh (vp_in_nI hi hn) (by rw [nI_clamp (Nat.lt_trans hi hn)]; exact k)
theorem q_lastore {a n : Nat} (i : Nat) {x : Int64} {g : Nat → Int64} (hd : decode M.2.1 pc = .ok (.lastore, 1)) (hh : h[a]? = some (.inl (2, n, .inr (.inl g)))) (hi : i < n) (hn : n < 2 ^ 31) (k : am_G X M d (pc + 1) l st (h.set a (.inl (2, n, .inr (.inl (vp_updL g i x))))) Q) : am_G X M d pc l (.long x :: .int (nI i) :: .ref a :: st) h Q :=
  g_lastore hd hh (vp_in_nI hi hn) (by rw [nI_clamp (Nat.lt_trans hi hn)]; exact k)
section QC
variable {off : Int} {tgt : Nat} (x y : Nat)
theorem q_icmp_ge (hd : decode M.2.1 pc = .ok (.if_icmp .ge off, 3)) (hx : x < 2 ^ 31) (hy : y < 2 ^ 31) (ht : (pc : Int) + off = (tgt : Int)) (kt : y ≤ x → am_G X M d tgt l st h Q) (kf : x < y → am_G X M d (pc + 3) l st h Q) : am_G X M d pc l (.int (nI y) :: .int (nI x) :: st) h Q :=
  g_icmp_ge hd ht (fun hc => kt ((nI_leI hy hx).mp hc)) (fun hc => kf (Nat.lt_of_not_le (fun h9 => hc ((nI_leI hy hx).mpr h9))))
theorem q_icmp_le (hd : decode M.2.1 pc = .ok (.if_icmp .le off, 3)) (hx : x < 2 ^ 31) (hy : y < 2 ^ 31) (ht : (pc : Int) + off = (tgt : Int)) (kt : x ≤ y → am_G X M d tgt l st h Q) (kf : y < x → am_G X M d (pc + 3) l st h Q) : am_G X M d pc l (.int (nI y) :: .int (nI x) :: st) h Q :=
  g_icmp_le hd ht (fun hc => kt ((nI_leI hx hy).mp hc)) (fun hc => kf (Nat.lt_of_not_le (fun h9 => hc ((nI_leI hx hy).mpr h9))))
theorem q_icmp_lt (hd : decode M.2.1 pc = .ok (.if_icmp .lt off, 3)) (hx : x < 2 ^ 31) (hy : y < 2 ^ 31) (ht : (pc : Int) + off = (tgt : Int)) (kt : x < y → am_G X M d tgt l st h Q) (kf : y ≤ x → am_G X M d (pc + 3) l st h Q) : am_G X M d pc l (.int (nI y) :: .int (nI x) :: st) h Q :=
  g_icmp_lt hd ht (fun hc => kt ((nI_ltI hx hy).mp hc)) (fun hc => kf (Nat.le_of_not_lt (fun h9 => hc ((nI_ltI hx hy).mpr h9))))
theorem q_icmp_gt (hd : decode M.2.1 pc = .ok (.if_icmp .gt off, 3)) (hx : x < 2 ^ 31) (hy : y < 2 ^ 31) (ht : (pc : Int) + off = (tgt : Int)) (kt : y < x → am_G X M d tgt l st h Q) (kf : x ≤ y → am_G X M d (pc + 3) l st h Q) : am_G X M d pc l (.int (nI y) :: .int (nI x) :: st) h Q :=
  g_icmp_gt hd ht (fun hc => kt ((nI_ltI hy hx).mp hc)) (fun hc => kf (Nat.le_of_not_lt (fun h9 => hc ((nI_ltI hy hx).mpr h9))))
theorem q_icmp_eq (hd : decode M.2.1 pc = .ok (.if_icmp .eq off, 3)) (hx : x < 2 ^ 31) (hy : y < 2 ^ 31) (ht : (pc : Int) + off = (tgt : Int)) (kt : x = y → am_G X M d tgt l st h Q) (kf : x ≠ y → am_G X M d (pc + 3) l st h Q) : am_G X M d pc l (.int (nI y) :: .int (nI x) :: st) h Q :=
  g_icmp_eq hd ht (fun hc => kt ((nI_eq hx hy).mp hc)) (fun hc => kf (fun h9 => hc ((nI_eq hx hy).mpr h9)))
theorem q_icmp_ne (hd : decode M.2.1 pc = .ok (.if_icmp .ne off, 3)) (hx : x < 2 ^ 31) (hy : y < 2 ^ 31) (ht : (pc : Int) + off = (tgt : Int)) (kt : x ≠ y → am_G X M d tgt l st h Q) (kf : x = y → am_G X M d (pc + 3) l st h Q) : am_G X M d pc l (.int (nI y) :: .int (nI x) :: st) h Q :=
  g_icmp_ne hd ht (fun hc => kt (fun h9 => hc ((nI_eq hx hy).mpr h9))) (fun hc => kf ((nI_eq hx hy).mp hc))
theorem q_if_eq (hd : decode M.2.1 pc = .ok (.ifCond .eq off, 3)) (hx : x < 2 ^ 31) (ht : (pc : Int) + off = (tgt : Int)) (kt : x = 0 → am_G X M d tgt l st h Q) (kf : 0 < x → am_G X M d (pc + 3) l st h Q) : am_G X M d pc l (.int (nI x) :: st) h Q :=
  g_if_eq hd ht (fun hc => kt ((nI_eq hx (by omega)).mp (hc.trans nI_0.symm))) (fun hc => kf (Nat.pos_of_ne_zero (fun h9 => hc (by rw [h9]; exact nI_0))))
theorem q_if_ne (hd : decode M.2.1 pc = .ok (.ifCond .ne off, 3)) (hx : x < 2 ^ 31) (ht : (pc : Int) + off = (tgt : Int)) (kt : 0 < x → am_G X M d tgt l st h Q) (kf : x = 0 → am_G X M d (pc + 3) l st h Q) : am_G X M d pc l (.int (nI x) :: st) h Q :=
  g_if_ne hd ht (fun hc => kt (Nat.pos_of_ne_zero (fun h9 => hc (by rw [h9]; exact nI_0)))) (fun hc => kf ((nI_eq hx (by omega)).mp (hc.trans nI_0.symm)))
theorem q_if_gt (hd : decode M.2.1 pc = .ok (.ifCond .gt off, 3)) (hx : x < 2 ^ 31) (ht : (pc : Int) + off = (tgt : Int)) (kt : 0 < x → am_G X M d tgt l st h Q) (kf : x = 0 → am_G X M d (pc + 3) l st h Q) : am_G X M d pc l (.int (nI x) :: st) h Q :=
  g_if_gt hd ht (fun hc => kt (Nat.pos_of_ne_zero (fun h9 => by rw [h9] at hc; exact absurd hc (by decide)))) (fun hc => kf (Nat.eq_zero_of_not_pos (fun h9 => hc (by have := (nI_ltI (a := 0) (b := x) (by omega) hx).mpr h9; exact this))))
theorem q_if_le (hd : decode M.2.1 pc = .ok (.ifCond .le off, 3)) (hx : x < 2 ^ 31) (ht : (pc : Int) + off = (tgt : Int)) (kt : x = 0 → am_G X M d tgt l st h Q) (kf : 0 < x → am_G X M d (pc + 3) l st h Q) : am_G X M d pc l (.int (nI x) :: st) h Q :=
  g_if_le hd ht (fun hc => kt (Nat.eq_zero_of_not_pos (fun h9 => nI_nle h9 hx hc))) (fun hc => kf (Nat.pos_of_ne_zero (fun h9 => hc (by rw [h9]; decide))))
theorem q_if_lt (hd : decode M.2.1 pc = .ok (.ifCond .lt off, 3)) (hx : x < 2 ^ 31) (ht : (pc : Int) + off = (tgt : Int)) (kf : am_G X M d (pc + 3) l st h Q) : am_G X M d pc l (.int (nI x) :: st) h Q :=
  g_if_lt hd ht (fun hc => absurd hc (nI_pos hx)) (fun _ => kf)
theorem q_if_ge (hd : decode M.2.1 pc = .ok (.ifCond .ge off, 3)) (hx : x < 2 ^ 31) (ht : (pc : Int) + off = (tgt : Int)) (kt : am_G X M d tgt l st h Q) : am_G X M d pc l (.int (nI x) :: st) h Q :=
  g_if_ge hd ht (fun _ => kt) (fun hc => absurd (nI_pos' hx) hc)
end QC
theorem b1_c0 {p : Bool} : b1 p = 0 ↔ p = false := by cases p <;> decide
theorem b1_c1 {p : Bool} : ¬ b1 p = 0 ↔ p = true := by cases p <;> decide
section QB
variable {off : Int} {tgt : Nat} {p : Bool}
theorem q_ifb_eq (hd : decode M.2.1 pc = .ok (.ifCond .eq off, 3)) (ht : (pc : Int) + off = (tgt : Int)) (kt : p = false → am_G X M d tgt l st h Q) (kf : p = true → am_G X M d (pc + 3) l st h Q) : am_G X M d pc l (.int (b1 p) :: st) h Q :=
  g_if_eq hd ht (fun hc => kt (b1_c0.mp hc)) (fun hc => kf (b1_c1.mp hc))
theorem q_ifb_ne (hd : decode M.2.1 pc = .ok (.ifCond .ne off, 3)) (ht : (pc : Int) + off = (tgt : Int)) (kt : p = true → am_G X M d tgt l st h Q) (kf : p = false → am_G X M d (pc + 3) l st h Q) : am_G X M d pc l (.int (b1 p) :: st) h Q :=
  g_if_ne hd ht (fun hc => kt (b1_c1.mp hc)) (fun hc => kf (b1_c0.mp hc))
end QB
end QR
/-! ===== texts: a list, its places, and where it stands in an array ===== -/
def gx (L : List Int32) (j : Nat) : Int32 := L.getD j 0
/-- the text L stands in the array from s on -/
def tx (g : Nat → Int32) (s : Nat) (L : List Int32) : Prop := ∀ j, j < L.length → g (s + j) = gx L j
theorem q_tx {X : am_X} {M : am_Mt} {d pc : Nat} {l : am_lo} {st : List Value} {h : List va_E} {Q : Option Value → List va_E → Prop} {a n s : Nat} (i : Nat) {g : Nat → Int32} {L : List Int32} (hd : decode M.2.1 pc = .ok (.baload, 1)) (hh : h[a]? = some (.inl (0, n, .inl g))) (hT : tx g s L) (hs : s + L.length ≤ n) (hi : i < L.length) (hn : n < 2 ^ 30) (k : am_G X M d (pc + 1) l (.int (gx L i) :: st) h Q) : am_G X M d pc l (.int (nI (s + i)) :: .ref a :: st) h Q :=
  q_baload (s + i) hd hh (by omega) (by omega) (by rw [hT i hi]; exact k)
def fwd (p : Int32 → Bool) (L : List Int32) : Nat → Nat → Nat
  | f, 0 => f
  | f, n + 1 => if p (gx L f) = true then fwd p L (f + 1) n else f
/-- the first place from f on, before t, where p isn't so; or t -/
def fw (p : Int32 → Bool) (L : List Int32) (f t : Nat) : Nat := fwd p L f (t - f)
section FW
variable {p : Int32 → Bool} {L : List Int32}
theorem fw_0 {f t : Nat} (h : t ≤ f) : fw p L f t = f := by unfold fw; rw [Nat.sub_eq_zero_of_le h]; rfl
theorem fw_t {f t : Nat} (h : f < t) (hp : p (gx L f) = true) : fw p L f t = fw p L (f + 1) t := by
  unfold fw
  obtain ⟨n, hn⟩ : ∃ n, t - f = n + 1 := ⟨t - f - 1, by omega⟩
  rw [hn, show t - (f + 1) = n by omega]
  show (if p (gx L f) = true then fwd p L (f + 1) n else f) = _
  rw [if_pos hp]
theorem fw_f {f t : Nat} (hp : ¬ p (gx L f) = true) : fw p L f t = f := by
  unfold fw
  cases t - f with
  | zero => rfl
  | succ n =>
    show (if p (gx L f) = true then fwd p L (f + 1) n else f) = _
    rw [if_neg hp]
theorem fwd_ge : ∀ (n f : Nat), f ≤ fwd p L f n ∧ fwd p L f n ≤ f + n ∧ (∀ j, f ≤ j → j < fwd p L f n → p (gx L j) = true) ∧ (fwd p L f n < f + n → p (gx L (fwd p L f n)) = false)
  | 0, f => ⟨Nat.le_refl _, Nat.le_refl _, fun j h1 h2 => absurd h2 (by show ¬ j < f; omega), fun h => absurd h (by show ¬ f < f + 0; omega)⟩
  | n + 1, f => by
    by_cases hp : p (gx L f) = true
    · have e : fwd p L f (n + 1) = fwd p L (f + 1) n := if_pos hp
      obtain ⟨h1, h2, h3, h4⟩ := fwd_ge n (f + 1)
      rw [e]
      refine ⟨by omega, by omega, fun j h5 h6 => ?_, fun h5 => h4 (by omega)⟩
      rcases Nat.eq_or_lt_of_le h5 with e1 | e1
      · rw [← e1]; exact hp
      · exact h3 j e1 h6
    · have e : fwd p L f (n + 1) = f := if_neg hp
      rw [e]
      exact ⟨Nat.le_refl _, by omega, fun j h1 h2 => absurd h2 (by omega), fun _ => by cases hq : p (gx L f) with | true => exact absurd hq hp | false => rfl⟩
theorem fw_ge (f t : Nat) : f ≤ fw p L f t := (fwd_ge _ f).1
theorem fw_le {f t : Nat} (h : f ≤ t) : fw p L f t ≤ t := by have := (fwd_ge (p := p) (L := L) (t - f) f).2.1; unfold fw; omega
theorem fw_in {f t j : Nat} (h1 : f ≤ j) (h2 : j < fw p L f t) : p (gx L j) = true := (fwd_ge _ f).2.2.1 j h1 h2
theorem fw_out {f t : Nat} (h : fw p L f t < t) : p (gx L (fw p L f t)) = false := by
  by_cases e : f ≤ t
  · exact (fwd_ge (p := p) (L := L) (t - f) f).2.2.2 (by unfold fw at h; omega)
  · exact absurd h (by have := fw_ge (p := p) (L := L) f t; omega)
/-- what the two say together: the one place that is so -/
theorem fw_eq {f t k : Nat} (h1 : f ≤ k) (h2 : k ≤ t) (h3 : ∀ j, f ≤ j → j < k → p (gx L j) = true) (h4 : k < t → p (gx L k) = false) : fw p L f t = k := by
  rcases Nat.lt_trichotomy (fw p L f t) k with h | h | h
  · have := h3 _ (fw_ge f t) h
    rw [fw_out (p := p) (L := L) (f := f) (t := t) (by omega)] at this
    cases this
  · exact h
  · have := fw_in h1 h
    rw [h4 (by have := fw_le (p := p) (L := L) (f := f) (t := t) (by omega); omega)] at this
    cases this
theorem fw_bd {f t : Nat} (h : f ≤ t) : f ≤ fw p L f t ∧ fw p L f t ≤ t := ⟨fw_ge f t, fw_le h⟩
end FW
/-- backward: behind the last place, down to f, where p isn't so -/
def bwd (p : Int32 → Bool) (L : List Int32) (f : Nat) : Nat → Nat
  | 0 => f
  | n + 1 => if p (gx L (f + n)) = true then bwd p L f n else f + (n + 1)
def bw (p : Int32 → Bool) (L : List Int32) (f t : Nat) : Nat := bwd p L f (t - f)
theorem bwd_bd (p : Int32 → Bool) (L : List Int32) (f : Nat) : ∀ n : Nat, f ≤ bwd p L f n ∧ bwd p L f n ≤ f + n
  | 0 => ⟨Nat.le_refl _, Nat.le_refl _⟩
  | n + 1 => by
    have ih := bwd_bd p L f n
    by_cases hp : p (gx L (f + n)) = true
    · have e : bwd p L f (n + 1) = bwd p L f n := if_pos hp
      rw [e]; omega
    · have e : bwd p L f (n + 1) = f + (n + 1) := if_neg hp
      rw [e]; omega
theorem bw_bd {p : Int32 → Bool} {L : List Int32} {f t : Nat} (h : f ≤ t) : f ≤ bw p L f t ∧ bw p L f t ≤ t := by
  have := bwd_bd p L f (t - f)
  unfold bw; omega
/-- the piece of a text from f to t -/
def sub (L : List Int32) (f t : Nat) : List Int32 := (L.drop f).take (t - f)
theorem sub_len {L : List Int32} {f t : Nat} (h : t ≤ L.length) : (sub L f t).length = t - f := by unfold sub; rw [List.length_take, List.length_drop]; omega
theorem gx_eq {L : List Int32} {j : Nat} (h : j < L.length) : gx L j = L[j] := by show L.getD j 0 = _; rw [List.getD_eq_getElem?_getD, List.getElem?_eq_getElem h]; rfl
theorem sub_nil {L : List Int32} {f t : Nat} (h : t ≤ f) : sub L f t = [] := by unfold sub; rw [Nat.sub_eq_zero_of_le h]; rfl
theorem sub_cons {L : List Int32} {f t : Nat} (h : f < t) (ht : t ≤ L.length) : sub L f t = gx L f :: sub L (f + 1) t := by
  unfold sub
  obtain ⟨n, hn⟩ : ∃ n, t - f = n + 1 := ⟨t - f - 1, by omega⟩
  rw [hn, show t - (f + 1) = n by omega, List.drop_eq_getElem_cons (show f < L.length by omega), List.take_succ_cons, gx_eq (by omega)]
theorem sub_all {L : List Int32} {t : Nat} (h : t = L.length) : sub L 0 t = L := by unfold sub; rw [h, Nat.sub_zero, List.drop_zero, List.take_length]
theorem sub_snoc {L : List Int32} {f t : Nat} (h : f ≤ t) (ht : t < L.length) : sub L f (t + 1) = sub L f t ++ [gx L t] := by
  unfold sub
  rw [show t + 1 - f = (t - f) + 1 by omega, List.take_add_one, List.getElem?_drop, show f + (t - f) = t by omega, List.getElem?_eq_getElem ht, gx_eq ht]
  rfl
theorem sub_app {L : List Int32} {f t u : Nat} (h : f ≤ t) (h2 : t ≤ u) : sub L f u = sub L f t ++ sub L t u := by
  unfold sub
  rw [show u - f = (t - f) + (u - t) by omega, List.take_add, List.drop_drop, show f + (t - f) = t by omega]
theorem gx_sub {L : List Int32} {f t j : Nat} (h : j < t - f) (ht : t ≤ L.length) : gx (sub L f t) j = gx L (f + j) := by
  have hl := sub_len (L := L) (f := f) ht
  rw [gx_eq (by omega), gx_eq (by omega)]
  unfold sub
  rw [List.getElem_take, List.getElem_drop]
theorem sl_sub {g : Nat → Int32} {s : Nat} {L : List Int32} (hT : tx g s L) : ∀ (n f : Nat), f + n ≤ L.length → sl g (s + f) n = sub L f (f + n)
  | 0, f, _ => (sub_nil (by omega)).symm
  | n + 1, f, h => by
    rw [sub_cons (by omega) h]
    show g (s + f) :: sl g (s + f + 1) n = _
    have ih := sl_sub hT n (f + 1) (by omega)
    rw [hT f (by omega), show s + f + 1 = s + (f + 1) by omega, ih, show f + 1 + n = f + (n + 1) by omega]
theorem tx_of_sl {g : Nat → Int32} : ∀ (L : List Int32) (s : Nat), sl g s L.length = L → tx g s L
  | [], s, _ => fun j hj => absurd hj (Nat.not_lt_zero j)
  | x :: t, s, h => by
    have h1 : g s :: sl g (s + 1) t.length = x :: t := h
    injection h1 with h2 h3
    have ih := tx_of_sl t (s + 1) h3
    intro j hj
    cases j with
    | zero => exact h2
    | succ j =>
      have := ih j (by simpa using hj)
      rw [show s + (j + 1) = s + 1 + j by omega, this]
      rfl
theorem sub_eq_iff {L M : List Int32} : ∀ (n f e : Nat), f + n ≤ L.length → e + n ≤ M.length → (sub L f (f + n) = sub M e (e + n) ↔ ∀ j, j < n → gx L (f + j) = gx M (e + j))
  | 0, f, e, _, _ => ⟨fun _ j hj => absurd hj (Nat.not_lt_zero j), fun _ => by rw [sub_nil (L := L) (f := f) (t := f + 0) (Nat.le_refl _), sub_nil (L := M) (f := e) (t := e + 0) (Nat.le_refl _)]⟩
  | n + 1, f, e, h1, h2 => by
    rw [sub_cons (L := L) (f := f) (by omega) h1, sub_cons (L := M) (f := e) (by omega) h2, show f + (n + 1) = f + 1 + n by omega, show e + (n + 1) = e + 1 + n by omega]
    have ih := sub_eq_iff (L := L) (M := M) n (f + 1) (e + 1) (by omega) (by omega)
    constructor
    · intro h j hj
      injection h with h3 h4
      cases j with
      | zero => exact h3
      | succ j =>
        have := ih.mp h4 j (by omega)
        rw [show f + (j + 1) = f + 1 + j by omega, show e + (j + 1) = e + 1 + j by omega]
        exact this
    · intro h
      have h3 := h 0 (by omega)
      rw [Nat.add_zero, Nat.add_zero] at h3
      rw [h3, ih.mpr (fun j hj => by
        have := h (j + 1) (by omega)
        rw [show f + 1 + j = f + (j + 1) by omega, show e + 1 + j = e + (j + 1) by omega]
        exact this)]
/-! ===== the first place that isn't so ===== -/
def fxd (P : Nat → Bool) : Nat → Nat → Nat
  | f, 0 => f
  | f, n + 1 => if P f = true then fxd P (f + 1) n else f
def fx (P : Nat → Bool) (f t : Nat) : Nat := fxd P f (t - f)
section FX
variable {P : Nat → Bool}
theorem fx_0 {f t : Nat} (h : t ≤ f) : fx P f t = f := by unfold fx; rw [Nat.sub_eq_zero_of_le h]; rfl
theorem fx_t {f t : Nat} (h : f < t) (hp : P f = true) : fx P f t = fx P (f + 1) t := by
  unfold fx
  obtain ⟨n, hn⟩ : ∃ n, t - f = n + 1 := ⟨t - f - 1, by omega⟩
  rw [hn, show t - (f + 1) = n by omega]
  show (if P f = true then fxd P (f + 1) n else f) = _
  rw [if_pos hp]
theorem fx_f {f t : Nat} (hp : ¬ P f = true) : fx P f t = f := by
  unfold fx
  cases t - f with
  | zero => rfl
  | succ n =>
    show (if P f = true then fxd P (f + 1) n else f) = _
    rw [if_neg hp]
theorem fxd_ge : ∀ (n f : Nat), f ≤ fxd P f n ∧ fxd P f n ≤ f + n ∧ (∀ j, f ≤ j → j < fxd P f n → P j = true) ∧ (fxd P f n < f + n → P (fxd P f n) = false)
  | 0, f => ⟨Nat.le_refl _, Nat.le_refl _, fun j h1 h2 => absurd h2 (by show ¬ j < f; omega), fun h => absurd h (by show ¬ f < f + 0; omega)⟩
  | n + 1, f => by
    by_cases hp : P f = true
    · have e : fxd P f (n + 1) = fxd P (f + 1) n := if_pos hp
      obtain ⟨h1, h2, h3, h4⟩ := fxd_ge n (f + 1)
      rw [e]
      refine ⟨by omega, by omega, fun j h5 h6 => ?_, fun h5 => h4 (by omega)⟩
      rcases Nat.eq_or_lt_of_le h5 with e1 | e1
      · rw [← e1]; exact hp
      · exact h3 j e1 h6
    · have e : fxd P f (n + 1) = f := if_neg hp
      rw [e]
      exact ⟨Nat.le_refl _, by omega, fun j h1 h2 => absurd h2 (by omega), fun _ => by cases hq : P f with | true => exact absurd hq hp | false => rfl⟩
theorem fx_ge (f t : Nat) : f ≤ fx P f t := (fxd_ge _ f).1
theorem fx_le {f t : Nat} (h : f ≤ t) : fx P f t ≤ t := by have := (fxd_ge (P := P) (t - f) f).2.1; unfold fx; omega
theorem fx_in {f t j : Nat} (h1 : f ≤ j) (h2 : j < fx P f t) : P j = true := (fxd_ge _ f).2.2.1 j h1 h2
theorem fx_out {f t : Nat} (h : fx P f t < t) : P (fx P f t) = false := by
  by_cases e : f ≤ t
  · exact (fxd_ge (P := P) (t - f) f).2.2.2 (by unfold fx at h; omega)
  · exact absurd h (by have := fx_ge (P := P) f t; omega)
theorem fx_bd {f t : Nat} (h : f ≤ t) : f ≤ fx P f t ∧ fx P f t ≤ t := ⟨fx_ge f t, fx_le h⟩
theorem fx_eq {f t k : Nat} (h1 : f ≤ k) (h2 : k ≤ t) (h3 : ∀ j, f ≤ j → j < k → P j = true) (h4 : k < t → P k = false) : fx P f t = k := by
  rcases Nat.lt_trichotomy (fx P f t) k with h | h | h
  · have := h3 _ (fx_ge f t) h
    rw [fx_out (P := P) (f := f) (t := t) (by omega)] at this
    cases this
  · exact h
  · have := fx_in h1 h
    rw [h4 (by have := fx_le (P := P) (f := f) (t := t) (by omega); omega)] at this
    cases this
end FX
/-- all places from f on, before t, are so -/
def alp (P : Nat → Bool) (f t : Nat) : Bool := decide (t ≤ fx P f t)
theorem alp_iff {P : Nat → Bool} {f t : Nat} : alp P f t = true ↔ ∀ j, f ≤ j → j < t → P j = true := by
  unfold alp
  rw [decide_eq_true_iff]
  constructor
  · intro h j h1 h2
    exact fx_in h1 (by omega : j < fx P f t)
  · intro h
    by_cases hf : t ≤ fx P f t
    · exact hf
    · have h1 := fx_out (P := P) (f := f) (t := t) (by omega)
      rw [h _ (fx_ge f t) (by omega)] at h1
      cases h1
/-- a number, or -1 -/
theorem hxr_er {v : Int32} : hxr v = er (hx v) := by
  unfold hxr er
  cases hx v <;> rfl
theorem er_m1 {o : Option Nat} (hb : ∀ k, o = some k → k < 2 ^ 31) : er o = -1 ↔ o = none := by
  cases o with
  | none => exact ⟨fun _ => rfl, fun _ => rfl⟩
  | some k => exact ⟨fun h => absurd h (q_nem1 (hb k rfl)), fun h => by cases h⟩
theorem er_neg {o : Option Nat} (hb : ∀ k, o = some k → k < 2 ^ 31) : er o < 0 ↔ o = none := by
  cases o with
  | none => exact ⟨fun _ => rfl, fun _ => by decide⟩
  | some k => exact ⟨fun h => absurd h (nI_pos (hb k rfl)), fun h => by cases h⟩
section QO
variable {X : am_X} {M : am_Mt} {d pc : Nat} {l : am_lo} {st : List Value} {h : List va_E} {Q : Option Value → List va_E → Prop} {off : Int} {tgt : Nat} {o : Option Nat}
theorem q_some (hn : ¬ o = none) (k : ∀ j, o = some j → am_G X M d pc l st h Q) : am_G X M d pc l st h Q := by
  cases o with
  | none => exact absurd rfl hn
  | some j => exact k j rfl
theorem q_o_eq (hd : decode M.2.1 pc = .ok (.if_icmp .eq off, 3)) (hb : ∀ k, o = some k → k < 2 ^ 31) (ht : (pc : Int) + off = (tgt : Int)) (kt : o = none → am_G X M d tgt l st h Q) (kf : ∀ k, o = some k → am_G X M d (pc + 3) l st h Q) : am_G X M d pc l (.int (-1) :: .int (er o) :: st) h Q :=
  g_icmp_eq hd ht (fun hc => kt ((er_m1 hb).mp hc)) (fun hc => q_some (fun h9 => hc ((er_m1 hb).mpr h9)) kf)
theorem q_o_ne (hd : decode M.2.1 pc = .ok (.if_icmp .ne off, 3)) (hb : ∀ k, o = some k → k < 2 ^ 31) (ht : (pc : Int) + off = (tgt : Int)) (kt : ∀ k, o = some k → am_G X M d tgt l st h Q) (kf : o = none → am_G X M d (pc + 3) l st h Q) : am_G X M d pc l (.int (-1) :: .int (er o) :: st) h Q :=
  g_icmp_ne hd ht (fun hc => q_some (fun h9 => hc ((er_m1 hb).mpr h9)) kt) (fun hc => kf ((er_m1 hb).mp hc))
theorem q_o_lt (hd : decode M.2.1 pc = .ok (.ifCond .lt off, 3)) (hb : ∀ k, o = some k → k < 2 ^ 31) (ht : (pc : Int) + off = (tgt : Int)) (kt : o = none → am_G X M d tgt l st h Q) (kf : ∀ k, o = some k → am_G X M d (pc + 3) l st h Q) : am_G X M d pc l (.int (er o) :: st) h Q :=
  g_if_lt hd ht (fun hc => kt ((er_neg hb).mp hc)) (fun hc => q_some (fun h9 => hc ((er_neg hb).mpr h9)) kf)
theorem q_o_ge (hd : decode M.2.1 pc = .ok (.ifCond .ge off, 3)) (hb : ∀ k, o = some k → k < 2 ^ 31) (ht : (pc : Int) + off = (tgt : Int)) (kt : ∀ k, o = some k → am_G X M d tgt l st h Q) (kf : o = none → am_G X M d (pc + 3) l st h Q) : am_G X M d pc l (.int (er o) :: st) h Q :=
  g_if_ge hd ht (fun hc => q_some (fun h9 => by subst h9; exact absurd hc (by decide)) kt) (fun hc => kf ((er_neg hb).mp (Int32.not_le.mp hc)))
theorem e_W_hexValue {v : Int32} : am_C X mt_W_hexValue d [.int v] h (fun r h1 => r = some (.int (er (hx v))) ∧ h1 = h) := am_G.mono c_W_hexValue (fun _ _ hq => ⟨hq.1.trans (by rw [hxr_er]), hq.2⟩)
theorem e_M_hex {v : Int32} : am_C X mt_M_hex (d + 1) [.int v] h (fun r h1 => r = some (.int (er (hx v))) ∧ h1 = h) := am_G.mono c_M_hex (fun _ _ hq => ⟨hq.1.trans (by rw [hxr_er]), hq.2⟩)
end QO
theorem hx_b {v : Int32} : ∀ k, hx v = some k → k < 2 ^ 31 := fun k h => by have := hx_lt h; omega
theorem bt_iff {x : Int32} : bt x ↔ -128 ≤ x.toInt ∧ x.toInt ≤ 127 := by
  have e1 : ((-128 : Int32)).toInt = -128 := by decide
  have e2 : ((127 : Int32)).toInt = 127 := by decide
  show (decide ((-128 : Int32) ≤ x) && decide (x ≤ 127)) = true ↔ _
  rw [Bool.and_eq_true, decide_eq_true_eq, decide_eq_true_eq, Int32.le_iff_toInt_le, Int32.le_iff_toInt_le, e1, e2]
theorem i8_bt {x : Int32} (h : bt x) : x.toInt8.toInt32 = x := by
  have h := bt_iff.mp h
  apply Int32.toInt_inj.mp
  rw [Int8.toInt_toInt32, Int32.toInt_toInt8, Int.bmod_eq_of_le (by omega) (by omega)]
theorem nar_bt {x : Int32} (h : bt x) : vp_nar .byte x = x := i8_bt h
theorem by8_bt {x : Int32} (h : bt x) : by8 x = x := (by8_eq x).trans (i8_bt h)
