/-! ===== questions and hits: what is counted ===== -/
def anb (p : Nat → Bool) : Nat → Bool
  | 0 => false
  | n + 1 => anb p n || p n
def alb (p : Nat → Bool) : Nat → Bool
  | 0 => true
  | n + 1 => alb p n && p n
def mkN (p : Nat → Bool) : Nat → Nat
  | 0 => 0
  | n + 1 => mkN p n ||| (if p n = true then 2 ^ n else 0)
/-- word w is word q of the question -/
def isQ (Wd Qs : List (List Int32)) (w q : Nat) : Bool := decide (gT Wd w = gT Qs q)
def anyQ (Wd Qs : List (List Int32)) (w : Nat) : Bool := anb (fun q => isQ Wd Qs w q) Qs.length
def rowQ (Wd Qs : List (List Int32)) (w : Nat) : Bool := decide (0 < Qs.length ∧ w + Qs.length ≤ Wd.length) && alb (fun q => isQ Wd Qs (w + q) q) Qs.length
def hasQ (Wd Qs : List (List Int32)) (q : Nat) : Bool := anb (fun w => isQ Wd Qs w q) Wd.length
/-- how many places of a document count -/
def cntQ (mode : Nat) (Wd Qs : List (List Int32)) : Nat := if mode = 2 then cnb (rowQ Wd Qs) Wd.length else if mode = 1 ∧ alb (hasQ Wd Qs) Qs.length = false then 0 else cnb (anyQ Wd Qs) Wd.length
def gH (H : List (Nat × Nat)) (j : Nat) : Nat × Nat := H.getD j (0, 0)
def posH (H : List (Nat × Nat)) (s : Nat) : Nat → Nat
  | 0 => 0
  | p + 1 => if (gH H p).2 < s then posH H s p else p + 1
/-- a hit goes behind all that count as much -/
def insH (H : List (Nat × Nat)) (x : Nat × Nat) : List (Nat × Nat) := H.take (posH H x.2 H.length) ++ x :: H.drop (posH H x.2 H.length)
def shH (g : Nat → Int32) (f : Nat → Int64) (H : List (Nat × Nat)) (p : Nat) : Prop := (∀ j, j < p → g j = nI (gH H j).1 ∧ f j = lN (gH H j).2) ∧ ∀ j, p < j → j ≤ H.length → g j = nI (gH H (j - 1)).1 ∧ f j = lN (gH H (j - 1)).2
def arH (g : Nat → Int32) (f : Nat → Int64) (H : List (Nat × Nat)) : Prop := ∀ j, j < H.length → g j = nI (gH H j).1 ∧ f j = lN (gH H j).2
/-- the hits out of the documents below d -/
def ansQ (K : Kn) (pn mode : Nat) (Qs : List (List Int32)) : Nat → List (Nat × Nat)
  | 0 => []
  | d + 1 => if 0 < cntQ mode (pgW (K.tx (gN (dcs K) d))) Qs then insH (ansQ K pn mode Qs d) (d, cntQ mode (pgW (K.tx (gN (dcs K) d))) Qs * rkS (ldd K) (dcs K).length pn d) else ansQ K pn mode Qs d
section QZS
variable {p q : Nat → Bool} {n m k j s a b : Nat} {Wd Qs : List (List Int32)} {H : List (Nat × Nat)} {x : Nat × Nat} {g : Nat → Int32} {f : Nat → Int64} {K : Kn} {pn mode : Nat} {l : List Nat} {M : List Int32}
theorem anb_iff : ∀ n, anb p n = true ↔ ∃ a, a < n ∧ p a = true
  | 0 => ⟨fun h => (by cases h), fun h => (by obtain ⟨a, h1, -⟩ := h; exact absurd h1 (Nat.not_lt_zero a))⟩
  | n + 1 => by
    show (anb p n || p n) = true ↔ _
    rw [Bool.or_eq_true, anb_iff n]
    constructor
    · rintro (⟨a, h1, h2⟩ | h)
      · exact ⟨a, by omega, h2⟩
      · exact ⟨n, by omega, h⟩
    · rintro ⟨a, h1, h2⟩
      by_cases q : a = n
      · exact Or.inr (by rw [← q]; exact h2)
      · exact Or.inl ⟨a, by omega, h2⟩
theorem alb_iff : ∀ n, alb p n = true ↔ ∀ a, a < n → p a = true
  | 0 => ⟨fun _ a h => absurd h (Nat.not_lt_zero a), fun _ => rfl⟩
  | n + 1 => by
    show (alb p n && p n) = true ↔ _
    rw [Bool.and_eq_true, alb_iff n]
    constructor
    · rintro ⟨h1, h2⟩ a ha
      by_cases q : a = n
      · rw [q]; exact h2
      · exact h1 a (by omega)
    · intro h
      exact ⟨fun a ha => h a (by omega), h n (by omega)⟩
theorem anb_f (h : anb p n = false) : ∀ a, a < n → p a = false := fun a ha => by
  cases e : p a with
  | false => rfl
  | true =>
    have := (anb_iff n).mpr ⟨a, ha, e⟩
    rw [h] at this
    cases this
theorem anb_cg : ∀ n, (∀ a, a < n → p a = q a) → anb p n = anb q n
  | 0, _ => rfl
  | n + 1, h => by
    show (anb p n || p n) = (anb q n || q n)
    rw [anb_cg n (fun a ha => h a (by omega)), h n (by omega)]
theorem alb_cg : ∀ n, (∀ a, a < n → p a = q a) → alb p n = alb q n
  | 0, _ => rfl
  | n + 1, h => by
    show (alb p n && p n) = (alb q n && q n)
    rw [alb_cg n (fun a ha => h a (by omega)), h n (by omega)]
theorem cnb_tl (h : ∀ a, k ≤ a → a < n → p a = false) (hk : k ≤ n) : cnb p n = cnb p k := by
  induction n with
  | zero => rw [show k = 0 by omega]
  | succ n ih =>
    by_cases q : k = n + 1
    · rw [q]
    · show cnb p n + (if p n = true then 1 else 0) = cnb p k
      rw [h n (by omega) (by omega), ih (fun a h1 h2 => h a h1 (by omega)) (by omega)]
      rfl
theorem mkN_tb : ∀ n j, (mkN p n).testBit j = (decide (j < n) && p j)
  | 0, j => by
    show (0 : Nat).testBit j = _
    rw [Nat.zero_testBit]
    rfl
  | n + 1, j => by
    show (mkN p n ||| (if p n = true then 2 ^ n else 0)).testBit j = _
    rw [Nat.testBit_or, mkN_tb n j]
    by_cases h : j = n
    · rw [h, decide_eq_false (Nat.lt_irrefl n), decide_eq_true (Nat.lt_succ_self n)]
      cases e : p n with
      | false => rw [if_neg (by decide), Nat.zero_testBit]; rfl
      | true => rw [if_pos rfl, Nat.testBit_two_pow_self]; rfl
    · have h2 : (if p n = true then 2 ^ n else 0).testBit j = false := by
        by_cases e : p n = true
        · rw [if_pos e, Nat.testBit_two_pow_of_ne (by omega)]
        · rw [if_neg e, Nat.zero_testBit]
      rw [h2, Bool.or_false]
      by_cases h3 : j < n
      · rw [decide_eq_true h3, decide_eq_true (show j < n + 1 by omega)]
      · rw [decide_eq_false h3, decide_eq_false (show ¬ j < n + 1 by omega)]
theorem mkN_lt : ∀ n, mkN p n < 2 ^ n
  | 0 => by show 0 < 2 ^ 0; decide
  | n + 1 => by
    have h := mkN_lt n
    have h2 : (2 : Nat) ^ n < 2 ^ (n + 1) := Nat.pow_lt_pow_right (by decide) (Nat.lt_succ_self n)
    refine Nat.or_lt_two_pow (Nat.lt_trans h h2) ?_
    by_cases e : p n = true
    · rw [if_pos e]; exact h2
    · rw [if_neg e]; exact Nat.pos_of_ne_zero (fun h9 => by rw [h9] at h2; exact absurd h2 (Nat.not_lt_zero _))
theorem mkN_or : mkN p n ||| mkN q n = mkN (fun a => p a || q a) n := by
  refine Nat.eq_of_testBit_eq (fun j => ?_)
  rw [Nat.testBit_or, mkN_tb, mkN_tb, mkN_tb]
  cases decide (j < n) <;> rfl
theorem mkN_cg (h : ∀ a, a < n → p a = q a) : mkN p n = mkN q n := by
  refine Nat.eq_of_testBit_eq (fun j => ?_)
  rw [mkN_tb, mkN_tb]
  by_cases h3 : j < n
  · rw [h j h3]
  · rw [decide_eq_false h3]; rfl
theorem mkN_0 : mkN p n = 0 ↔ anb p n = false := by
  constructor
  · intro h
    cases e : anb p n with
    | false => rfl
    | true =>
      obtain ⟨a, h1, h2⟩ := (anb_iff n).mp e
      have h3 := mkN_tb (p := p) n a
      rw [h, Nat.zero_testBit, decide_eq_true h1, h2] at h3
      cases h3
  · intro h
    refine Nat.eq_of_testBit_eq (fun j => ?_)
    rw [mkN_tb, Nat.zero_testBit]
    by_cases h3 : j < n
    · rw [anb_f h j h3, Bool.and_false]
    · rw [decide_eq_false h3]; rfl
theorem mkN_all : mkN p n = 2 ^ n - 1 ↔ alb p n = true := by
  constructor
  · intro h
    refine (alb_iff n).mpr (fun a ha => ?_)
    have h3 := mkN_tb (p := p) n a
    rw [h, Nat.testBit_two_pow_sub_one, decide_eq_true ha] at h3
    exact h3.symm
  · intro h
    refine Nat.eq_of_testBit_eq (fun j => ?_)
    rw [mkN_tb, Nat.testBit_two_pow_sub_one]
    by_cases h3 : j < n
    · rw [(alb_iff n).mp h j h3, Bool.and_true]
    · rw [decide_eq_false h3]; rfl
theorem nI_or (ha : a < 2 ^ 32) (hb : b < 2 ^ 32) : nI a ||| nI b = nI (a ||| b) := by
  apply Int32.toBitVec_inj.mp
  rw [Int32.toBitVec_or, show (nI a).toBitVec = BitVec.ofNat 32 a from rfl, show (nI b).toBitVec = BitVec.ofNat 32 b from rfl, show (nI (a ||| b)).toBitVec = BitVec.ofNat 32 (a ||| b) from rfl]
  apply BitVec.eq_of_toNat_eq
  rw [BitVec.toNat_or, BitVec.toNat_ofNat, BitVec.toNat_ofNat, BitVec.toNat_ofNat, Nat.mod_eq_of_lt ha, Nat.mod_eq_of_lt hb, Nat.mod_eq_of_lt (Nat.or_lt_two_pow ha hb)]
theorem sh_1 : ∀ k, k < 9 → (1 : Int32) <<< (nI k &&& 31) = nI (2 ^ k) := by decide
theorem cntQ_le : cntQ mode Wd Qs ≤ Wd.length := by
  unfold cntQ
  split
  · exact cnb_le _
  · split
    · exact Nat.zero_le _
    · exact cnb_le _
theorem posH_le : ∀ n, posH H s n ≤ n
  | 0 => Nat.le_refl _
  | n + 1 => by
    show (if (gH H n).2 < s then posH H s n else n + 1) ≤ n + 1
    split
    · exact Nat.le_succ_of_le (posH_le n)
    · exact Nat.le_refl _
theorem gH_ins (hp : k ≤ H.length) : gH (H.take k ++ x :: H.drop k) j = if j < k then gH H j else if j = k then x else gH H (j - 1) := by
  have hl : (H.take k).length = k := by rw [List.length_take]; omega
  unfold gH
  rw [List.getD_eq_getElem?_getD]
  by_cases h1 : j < k
  · rw [if_pos h1, List.getElem?_append_left (by omega), List.getElem?_take_of_lt h1, List.getD_eq_getElem?_getD]
  · rw [if_neg h1, List.getElem?_append_right (by omega), hl]
    by_cases h2 : j = k
    · rw [if_pos h2, h2, Nat.sub_self]; rfl
    · rw [if_neg h2, show j - k = (j - k - 1) + 1 by omega, List.getElem?_cons_succ, List.getElem?_drop, show k + (j - k - 1) = j - 1 by omega, List.getD_eq_getElem?_getD]
theorem insH_len : (insH H x).length = H.length + 1 := by
  unfold insH
  have := posH_le (H := H) (s := x.2) H.length
  rw [List.length_append, List.length_cons, List.length_take, List.length_drop]
  omega
theorem insH_mem {y : Nat × Nat} (h : y ∈ insH H x) : y = x ∨ y ∈ H := by
  unfold insH at h
  rcases List.mem_append.mp h with q | q
  · exact Or.inr (List.mem_of_mem_take q)
  · rcases List.mem_cons.mp q with q2 | q2
    · exact Or.inl q2
    · exact Or.inr (List.mem_of_mem_drop q2)
theorem gH_mem (h : j < H.length) : gH H j ∈ H := by
  unfold gH
  rw [List.getD_eq_getElem?_getD, List.getElem?_eq_getElem h]
  exact List.getElem_mem h
theorem shH_0 (z : arH g f H) : shH g f H H.length := ⟨z, fun j h1 h2 => absurd h1 (by omega)⟩
theorem shH_s (z : shH g f H (k + 1)) (hk : k < H.length) : shH (upd g (k + 1) (nI (gH H k).1)) (vp_updL f (k + 1) (lN (gH H k).2)) H k := by
  refine ⟨fun j hj => ?_, fun j h1 h2 => ?_⟩
  · rw [upd_n (by omega), pk_uLn (by omega)]
    exact z.1 j (by omega)
  · by_cases e : j = k + 1
    · rw [e, upd_s, pk_uLs]; exact ⟨rfl, rfl⟩
    · rw [upd_n e, pk_uLn e]
      exact z.2 j (by omega) h2
theorem shH_e (z : shH g f H k) (hk : k ≤ H.length) : arH (upd g k (nI x.1)) (vp_updL f k (lN x.2)) (H.take k ++ x :: H.drop k) := by
  intro j hj
  have hl : (H.take k ++ x :: H.drop k).length = H.length + 1 := by rw [List.length_append, List.length_cons, List.length_take, List.length_drop]; omega
  rw [gH_ins hk]
  by_cases h1 : j < k
  · rw [if_pos h1, upd_n (by omega), pk_uLn (by omega)]; exact z.1 j h1
  · rw [if_neg h1]
    by_cases h2 : j = k
    · rw [if_pos h2, h2, upd_s, pk_uLs]; exact ⟨rfl, rfl⟩
    · rw [if_neg h2, upd_n h2, pk_uLn h2]; exact z.2 j (by omega) (by omega)
theorem ansQ_len : ∀ n, (ansQ K pn mode Qs n).length ≤ n
  | 0 => Nat.le_refl _
  | n + 1 => by
    show (if _ then _ else _ : List (Nat × Nat)).length ≤ n + 1
    split
    · rw [insH_len]; exact Nat.succ_le_succ (ansQ_len n)
    · exact Nat.le_succ_of_le (ansQ_len n)
theorem ansQ_s (hw : wfK K) (h8 : ∀ i, i ∈ dcs K → (K.tx i).length ≤ 7999) : ∀ n, n ≤ (dcs K).length → ∀ y, y ∈ ansQ K pn mode Qs n → y.1 < n ∧ y.2 ≤ 8000000000
  | 0, _, y, h => by cases h
  | n + 1, hn, y, h => by
    have ih := ansQ_s hw h8 n (by omega) y
    have h9 : y ∈ (if 0 < cntQ mode (pgW (K.tx (gN (dcs K) n))) Qs then insH (ansQ K pn mode Qs n) (n, cntQ mode (pgW (K.tx (gN (dcs K) n))) Qs * rkS (ldd K) (dcs K).length pn n) else ansQ K pn mode Qs n) := h
    split at h9
    · rcases insH_mem h9 with e | e
      · rw [e]
        refine ⟨Nat.lt_succ_self n, ?_⟩
        have h1 := cntQ_le (mode := mode) (Wd := pgW (K.tx (gN (dcs K) n))) (Qs := Qs)
        have h2 := (pgW_le (L := K.tx (gN (dcs K) n))).2
        have h3 := h8 _ (gN_mem (show n < (dcs K).length by omega))
        have h4 : rkS (ldd K) (dcs K).length pn n ≤ 1000000 := rkS_le (fun a _ => ⟨(ldd_inv hw).1, fun x hx => ((ldd_inv hw).2.1 x hx).1⟩) (by omega)
        exact Nat.le_trans (Nat.mul_le_mul (show cntQ mode (pgW (K.tx (gN (dcs K) n))) Qs ≤ 8000 by omega) h4) (by decide)
      · have := ih e
        exact ⟨by omega, this.2⟩
    · have := ih h9
      exact ⟨by omega, this.2⟩
theorem wdD_at (hj : j < l.length) (ha : a < (pgW (K.tx (gN l j))).length) : (wdD K (l.take j)).length + a < (wdD K l).length ∧ gT (wdD K l) ((wdD K (l.take j)).length + a) = gT (pgW (K.tx (gN l j))) a := by
  have e : wdD K l = wdD K (l.take j) ++ (pgW (K.tx (gN l j)) ++ wdD K (l.drop (j + 1))) := by
    rw [← List.append_assoc, ← wdD_app, ← tkN hj]
    unfold wdD
    rw [← List.flatMap_append, List.take_append_drop]
  rw [e]
  refine ⟨by rw [List.length_append, List.length_append]; omega, ?_⟩
  unfold gT
  rw [List.getD_eq_getElem?_getD, List.getElem?_append_right (by omega), Nat.add_sub_cancel_left, List.getElem?_append_left ha, List.getD_eq_getElem?_getD]
theorem wdD_lt (hj : j < l.length) : (wdD K (l.take (j + 1))).length = (wdD K (l.take j)).length + (pgW (K.tx (gN l j))).length := by
  rw [tkN hj, wdD_app, List.length_append]
theorem spl_20 : ∀ n k : Nat, M.length - k ≤ n → ∀ y, y ∈ spl M k → y.length ≤ 20
  | 0, k, h, y, hy => by rw [spl_e (by omega)] at hy; cases hy
  | n + 1, k, h, y, hy => by
    by_cases hk : k < M.length
    · by_cases hw : wdB (gx M k) = true
      · rw [spl_w hk hw] at hy
        have := fw_gt hk hw
        rcases List.mem_cons.mp hy with e | e
        · rw [e, List.length_map]
          unfold sub
          rw [List.length_take]
          have h2 : Nat.min (fw wdB M k M.length) (k + 20) ≤ k + 20 := Nat.min_le_right _ _
          omega
        · exact spl_20 n _ (by omega) y e
      · rw [spl_n hk hw] at hy
        exact spl_20 n _ (by omega) y hy
    · rw [spl_e (by omega)] at hy; cases hy
end QZS
