/-! ===== a page as a text: its pieces, values, words ===== -/
theorem rwE_bd {L : List Int32} {i f : Nat} (hf : f ≤ L.length) : f ≤ rwE i L f ∧ rwE i L f ≤ L.length := by
  unfold rwE
  by_cases h : fx (rwP i L) f (L.length - cln i) + cln i < L.length
  · rw [if_pos h]; exact ⟨fx_ge f _, by omega⟩
  · rw [if_neg h]; exact ⟨hf, Nat.le_refl _⟩
theorem rwT_bd {L : List Int32} {nf nt f : Nat} {cl : Bool} (hf : f ≤ L.length) : f ≤ rwT L nf nt cl f ∧ rwT L nf nt cl f ≤ L.length := by
  unfold rwT
  split
  · exact ⟨Nat.le_refl _, hf⟩
  · exact rwE_bd hf
theorem rmT_bd {L : List Int32} {p : Nat} (hp : p < L.length) : p < rmT L p ∧ rmT L p ≤ L.length := by
  unfold rmT
  split
  · split
    · have : p + 4 ≤ rmk L (p + 4) L.length := fx_ge _ _
      exact ⟨by omega, by omega⟩
    · exact ⟨hp, Nat.le_refl _⟩
  · have h1 := fw_bd (p := nev 62) (L := L) (f := p) (t := L.length) (by omega)
    have h2 := nmin_bd (fw (nev 62) L p L.length + 1) L.length
    exact ⟨by omega, by omega⟩
theorem nxT_bd {L : List Int32} {p : Nat} (hp : p < L.length) : p < nxT L p ∧ nxT L p ≤ L.length := by
  unfold nxT
  by_cases h2 : kdA L p = 2
  · have hb := tg_bd h2
    rw [if_pos h2]
    by_cases h3 : tgE L p < L.length
    · rw [if_pos h3]
      have := rwT_bd (L := L) (nf := tgF L p) (nt := tgN L p) (cl := tgC L p) (f := tgE L p + 1) (by omega)
      exact ⟨by omega, this.2⟩
    · rw [if_neg h3]
      exact ⟨hp, Nat.le_refl _⟩
  · rw [if_neg h2]
    by_cases h3 : kdA L p = 3
    · rw [if_pos h3]
      exact rmT_bd hp
    · rw [if_neg h3]
      have := fx_bd (P := fun j => decide (kdA L j = 1)) (f := p + 1) (t := L.length) (by omega)
      exact ⟨by omega, this.2⟩
/-- where the pieces of a page begin -/
def its (L : List Int32) : Nat → Nat → List Nat
  | 0, _ => []
  | n + 1, p => if p < L.length then p :: its L n (nxT L p) else []
theorem its_out {L : List Int32} {p : Nat} (h : L.length ≤ p) : ∀ n, its L n p = []
  | 0 => rfl
  | n + 1 => if_neg (by omega)
theorem its_s {L : List Int32} {p n : Nat} (h : p < L.length) : its L (n + 1) p = p :: its L n (nxT L p) := if_pos h
theorem its_more {L : List Int32} : ∀ n m p : Nat, L.length - p ≤ n → L.length - p ≤ m → its L n p = its L m p
  | 0, m, p, h, _ => by rw [its_out (by omega), its_out (by omega)]
  | n + 1, 0, p, _, h => by rw [its_out (by omega), its_out (by omega)]
  | n + 1, m + 1, p, h1, h2 => by
    by_cases hp : p < L.length
    · have := nxT_bd hp
      rw [its_s hp, its_s hp, its_more n m (nxT L p) (by omega) (by omega)]
    · rw [its_out (by omega), its_out (by omega)]
def itm (L : List Int32) (p : Nat) : List Nat := its L (L.length - p) p
theorem itm_s {L : List Int32} {p : Nat} (h : p < L.length) : itm L p = p :: itm L (nxT L p) := by
  have := nxT_bd h
  unfold itm
  rw [its_more (L.length - p) (L.length - p + 1) p (Nat.le_refl _) (by omega), its_s h, its_more (L.length - p) (L.length - nxT L p) (nxT L p) (by omega) (Nat.le_refl _)]
theorem itm_e {L : List Int32} {p : Nat} (h : L.length ≤ p) : itm L p = [] := its_out h _
/-- the base, as far as a piece tells it -/
def bsO (L D : List Int32) (bo : Option (List Int32)) (p : Nat) : Option (List Int32) := match bo with
  | some b => some b
  | none => match nxW 22 L p with
    | some q => mrr (dcd L q.1 q.2) 0 (dcd L q.1 q.2).length (some D)
    | none => none
/-- the value that a piece tells -/
def pvl (L : List Int32) (p : Nat) : List (List Int32) := match nxW 28 L p with
  | some q => [dcd L q.1 q.2]
  | none => []
def wdB (v : Int32) : Bool := isLe v || isDi v
/-- the words of a plain text -/
def spw (M : List Int32) : Nat → Nat → List (List Int32)
  | 0, _ => []
  | n + 1, k => if k < M.length then (if wdB (gx M k) = true then (sub M k (Nat.min (fw wdB M k M.length) (k + 20))).map toLo :: spw M n (fw wdB M k M.length) else spw M n (k + 1)) else []
theorem spw_out {M : List Int32} {k : Nat} (h : M.length ≤ k) : ∀ n, spw M n k = []
  | 0 => rfl
  | n + 1 => if_neg (by omega)
theorem fw_gt {p : Int32 → Bool} {M : List Int32} {k : Nat} (hk : k < M.length) (h : p (gx M k) = true) : k < fw p M k M.length ∧ fw p M k M.length ≤ M.length := by
  rw [fw_t hk h]
  have := fw_bd (p := p) (L := M) (f := k + 1) (t := M.length) (by omega)
  exact ⟨by omega, this.2⟩
theorem spw_more {M : List Int32} : ∀ n m k : Nat, M.length - k ≤ n → M.length - k ≤ m → spw M n k = spw M m k
  | 0, m, k, h, _ => by rw [spw_out (by omega), spw_out (by omega)]
  | n + 1, 0, k, _, h => by rw [spw_out (by omega), spw_out (by omega)]
  | n + 1, m + 1, k, h1, h2 => by
    by_cases hk : k < M.length
    · show (if k < M.length then _ else _) = (if k < M.length then _ else _)
      rw [if_pos hk, if_pos hk]
      by_cases hw : wdB (gx M k) = true
      · have := fw_gt hk hw
        rw [if_pos hw, if_pos hw, spw_more n m (fw wdB M k M.length) (by omega) (by omega)]
      · rw [if_neg hw, if_neg hw, spw_more n m (k + 1) (by omega) (by omega)]
    · rw [spw_out (by omega), spw_out (by omega)]
def spl (M : List Int32) (k : Nat) : List (List Int32) := spw M (M.length - k) k
theorem spl_e {M : List Int32} {k : Nat} (h : M.length ≤ k) : spl M k = [] := spw_out h _
theorem spl_w {M : List Int32} {k : Nat} (hk : k < M.length) (hw : wdB (gx M k) = true) : spl M k = (sub M k (Nat.min (fw wdB M k M.length) (k + 20))).map toLo :: spl M (fw wdB M k M.length) := by
  have := fw_gt hk hw
  unfold spl
  rw [spw_more (M.length - k) (M.length - k + 1) k (Nat.le_refl _) (by omega)]
  show (if k < M.length then _ else _) = _
  rw [if_pos hk, if_pos hw, spw_more (M.length - k) (M.length - fw wdB M k M.length) (fw wdB M k M.length) (by omega) (Nat.le_refl _)]
theorem spl_n {M : List Int32} {k : Nat} (hk : k < M.length) (hw : ¬ wdB (gx M k) = true) : spl M k = spl M (k + 1) := by
  unfold spl
  rw [spw_more (M.length - k) (M.length - k + 1) k (Nat.le_refl _) (by omega)]
  show (if k < M.length then _ else _) = _
  rw [if_pos hk, if_neg hw, spw_more (M.length - k) (M.length - (k + 1)) (k + 1) (by omega) (Nat.le_refl _)]
/-- how long the words are, and how many: together at most one more than the text is long -/
theorem spl_len {M : List Int32} : ∀ n k : Nat, M.length - k ≤ n → k ≤ M.length → (spl M k).flatten.length + (spl M k).length ≤ M.length - k + 1 ∧ (spl M k).length ≤ (spl M k).flatten.length
  | 0, k, h, hk => by rw [spl_e (by omega)]; exact ⟨by simp, by simp⟩
  | n + 1, k, h, hk => by
    by_cases hl : k < M.length
    · by_cases hw : wdB (gx M k) = true
      · have hg := fw_gt hl hw
        have ho : fw wdB M k M.length < M.length → wdB (gx M (fw wdB M k M.length)) = false := fun h9 => fw_out h9
        have hm := nmin_bd (fw wdB M k M.length) (k + 20)
        rw [spl_w hl hw, List.flatten_cons, List.length_cons, List.length_append, List.length_map, sub_len (by omega)]
        by_cases he : fw wdB M k M.length < M.length
        · rw [spl_n he (by rw [ho he]; decide)]
          have r := spl_len (M := M) n (fw wdB M k M.length + 1) (by omega) (by omega)
          omega
        · rw [spl_e (by omega)]
          simp only [List.flatten_nil, List.length_nil]
          omega
      · rw [spl_n hl hw]
        have r := spl_len (M := M) n (k + 1) (by omega) (by omega)
        omega
    · rw [spl_e (by omega)]; exact ⟨by simp, by simp⟩
/-- the words that a piece tells -/
def pwd (L : List Int32) (p : Nat) : List (List Int32) := if kdA L p = 1 then spl (dcd L p (nxT L p)) 0 else []
def pgB (L D : List Int32) : Option (List Int32) := (itm L 0).foldl (bsO L D) none
def pgV (L : List Int32) : List (List Int32) := (itm L 0).flatMap (pvl L)
def pgW (L : List Int32) : List (List Int32) := (itm L 0).flatMap (pwd L)
/-- one more link -/
def lnk (Bs : List Int32) (Ls : List (List Int32)) (V : List Int32) : List (List Int32) := if Ls.length < 60 then (match mrr V 0 V.length (some Bs) with | some E => if E ∈ Ls then Ls else Ls ++ [E] | none => Ls) else Ls
def pgL (L D : List Int32) : List (List Int32) := (pgV L).foldl (lnk ((pgB L D).getD D)) []
theorem bsO_f {L D b : List Int32} : ∀ l : List Nat, l.foldl (bsO L D) (some b) = some b
  | [] => rfl
  | _ :: l => bsO_f l
theorem rws_new {b at_ ln : Nat → Int32} {T : List (List Int32)} {D : List Int32} (h : rws b at_ ln T) : rws (wrt b (ofs T T.length) D) (upd at_ T.length (nI (ofs T T.length))) (upd ln T.length (nI D.length)) (T ++ [D]) := by
  intro k hk
  rw [List.length_append] at hk
  have hk : k < T.length + 1 := hk
  by_cases e : k = T.length
  · subst e
    unfold upd
    rw [if_pos rfl, if_pos rfl, ofs_app (Nat.le_refl _), gT_new]
    exact ⟨rfl, rfl, wrt_tx _ _ _⟩
  · have hk2 : k < T.length := by omega
    unfold upd
    rw [if_neg e, if_neg e, ofs_app (by omega), gT_app hk2]
    refine ⟨(h k hk2).1, (h k hk2).2.1, wrt_tx_l (h k hk2).2.2 ?_⟩
    rw [← ofs_s hk2]
    exact ofs_mono (by omega) (Nat.le_refl _)
