/-! ===== what is made of a reference: the host, and all of it ===== -/
theorem toLo_37 {x : Int32} : toLo x = 37 ↔ x = 37 := by
  by_cases hu : 65 ≤ x.toInt ∧ x.toInt ≤ 90
  · have h1 := (toLo_i x).1 hu
    have h47 : ((37 : Int32)).toInt = 37 := by decide
    constructor
    · intro h
      rw [h] at h1
      omega
    · intro h
      rw [h] at hu
      omega
  · rw [(toLo_i x).2 hu]
theorem pdg_mem {p : Nat} {x : Int32} (h : x ∈ pdg p) : ∃ k, k < 10 ∧ x = nI (48 + k) := by
  unfold pdg at h
  split at h
  · exact ⟨_, Nat.mod_lt _ (by decide), List.mem_singleton.mp h⟩
  · split at h
    · simp only [List.mem_cons, List.not_mem_nil, or_false] at h
      rcases h with h | h <;> exact ⟨_, Nat.mod_lt _ (by decide), h⟩
    · split at h
      · simp only [List.mem_cons, List.not_mem_nil, or_false] at h
        rcases h with h | h | h <;> exact ⟨_, Nat.mod_lt _ (by decide), h⟩
      · split at h
        · simp only [List.mem_cons, List.not_mem_nil, or_false] at h
          rcases h with h | h | h | h <;> exact ⟨_, Nat.mod_lt _ (by decide), h⟩
        · simp only [List.mem_cons, List.not_mem_nil, or_false] at h
          rcases h with h | h | h | h | h <;> exact ⟨_, Nat.mod_lt _ (by decide), h⟩
theorem dg_47 : ∀ k, k < 10 → ¬ nI (48 + k) = 47 ∧ ¬ nI (48 + k) = 37 := by decide
theorem ptx_mem {o : Option (Option Nat)} {x : Int32} (h : x ∈ ptx o) : ¬ x = 47 ∧ ¬ x = 37 := by
  unfold ptx at h
  split at h
  · rcases List.mem_cons.mp h with q | q
    · rw [q]; exact ⟨by decide, by decide⟩
    · obtain ⟨k, hk, e⟩ := pdg_mem q
      rw [e]; exact dg_47 k hk
  · exact absurd h List.not_mem_nil
theorem mem_sub {L : List Int32} {x : Int32} {a b : Nat} (hb : b ≤ L.length) (h : x ∈ sub L a b) : ∃ j, a ≤ j ∧ j < b ∧ x = gx L j := by
  obtain ⟨i, hi, e⟩ := List.mem_iff_getElem.mp h
  have hi2 := hi
  rw [sub_len hb] at hi2
  exact ⟨a + i, by omega, by omega, by rw [← e, ← gx_eq hi, gx_sub hi2 hb]⟩
theorem hoB_x {v : Int32} (h : hoB v = true) : ¬ toLo v = 47 ∧ ¬ toLo v = 37 := by
  constructor
  · intro h9
    rw [toLo_47.mp h9] at h
    exact absurd h (by decide)
  · intro h9
    rw [toLo_37.mp h9] at h
    exact absurd h (by decide)
theorem mho_x {L H : List Int32} {f t : Nat} (hft : f ≤ t) (ht : t ≤ L.length) (h : mho L f t = some H) : ∀ x, x ∈ H → ¬ x = 47 ∧ ¬ x = 37 := by
  have hbd := hst_bd (L := L) hft
  have hk := fw_bd (p := hoB) (L := L) (f := f) (t := hst L f t) hbd.1
  rw [show fw hoB L f (hst L f t) = hoE L f t from rfl] at hk
  have hm : ∀ x, x ∈ (sub L f (hoE L f t)).map toLo → ¬ x = 47 ∧ ¬ x = 37 := by
    intro x hx
    obtain ⟨y, hy, e⟩ := List.mem_map.mp hx
    obtain ⟨j, h1, h2, e2⟩ := mem_sub (by omega) hy
    rw [← e, e2]
    exact hoB_x (fw_in (p := hoB) (L := L) (f := f) (t := hst L f t) h1 h2)
  unfold mho at h
  split at h
  · cases h
  · split at h
    · cases h
      exact hm
    · split at h
      · cases h
      · cases h
        intro x hx
        rcases List.mem_append.mp hx with q | q
        · exact hm x q
        · exact ptx_mem q
section OKM
variable {L D E : List Int32} {f t f0 : Nat} {bo : Option (List Int32)}
theorem okD.host (h : okD D) : 1 ≤ (sub D 7 (hen D)).length ∧ (sub D 7 (hen D)).length ≤ 73 ∧ (∀ x, x ∈ sub D 7 (hen D) → ¬ x = 47) ∧ nfm (sub D 7 (hen D)) ∧ btg (sub D 7 (hen D)) := by
  have h47 := h.h47
  obtain ⟨-, h2, h3, h4, h5, h6, h7⟩ := h
  rw [sub_len (by omega)]
  refine ⟨by omega, by omega, fun x hx => ?_, nfm_sub h7 (by omega) (fun _ => by rw [h47]; exact hx_47), btg_sub h6 (by omega)⟩
  obtain ⟨j, h1, h2, e⟩ := mem_sub (by omega) hx
  rw [e]
  exact of_decide_eq_true (fw_in (p := nev 47) (L := D) (f := 7) (t := D.length) h1 h2)
theorem bsP_ok (ho : okD D) (ha : alp (fun j => isRef L j t) f0 t = true) (h0 : f0 ≤ f) (hft : f ≤ t) : nfm (bsP L f t D) ∧ (bsP L f t D = [] ∨ gx (bsP L f t D) 0 = 47) := by
  have hq := fw_bd (p := nev 63) (L := L) hft
  have hbm := ho.bm
  have h47 := ho.h47
  have hhl := ho.2.2.1
  have hnf := ho.2.2.2.2.2.2
  have hu : nfm (uf L f (fw (nev 63) L f t)) := nfm_rf ha h0 hq.2 (fun h9 => by rw [fw_63 h9]; exact hx_63)
  by_cases h1 : fw (nev 63) L f t = f
  · have eP : bsP L f t D = sub D (hen D) (bmk D) := by unfold bsP; rw [if_pos h1]; exact ho.p1
    rw [eP]
    exact ⟨nfm_sub hnf hbm.2.1 (fun h9 => by rw [hbm.2.2 h9]; exact hx_63), Or.inr (by rw [sub_hd hbm.1 hbm.2.1]; exact h47)⟩
  · by_cases h2 : gx L f = 47
    · have eP : bsP L f t D = uf L f (fw (nev 63) L f t) := by unfold bsP; rw [if_neg h1, if_pos h2]
      rw [eP]
      exact ⟨hu, Or.inr (by rw [uf_hd (by omega) (by rw [h2]; decide)]; exact h2)⟩
    · have hlb := bw_bd (p := nev 47) (L := D) (f := hen D) (t := bmk D) (by omega)
      have hlh := bw_sl (D := D) (f := hen D) (t := bmk D) h47 hbm.1
      have hlo : hen D < bw (nev 47) D (hen D) (bmk D) → nev 47 (gx D (bw (nev 47) D (hen D) (bmk D) - 1)) = false := bw_out (p := nev 47) (L := D) (f := hen D) (bmk D - hen D)
      have hl47 : gx D (bw (nev 47) D (hen D) (bmk D) - 1) = 47 := Decidable.not_not.mp (fun h8 => by
        have h9 := hlo hlh
        rw [nev_t h8] at h9
        cases h9)
      have eU : uf D (hen D) (bw (nev 47) D (hen D) (bmk D)) = sub D (hen D) (bw (nev 47) D (hen D) (bmk D)) := nfm_cut (a := 0) hnf (by omega) hl47 (by omega) (bw (nev 47) D (hen D) (bmk D) - hen D) (hen D) (Nat.le_refl _) (by omega)
      have eP : bsP L f t D = sub D (hen D) (bw (nev 47) D (hen D) (bmk D)) ++ uf L f (fw (nev 63) L f t) := by unfold bsP; rw [if_neg h1, if_neg h2, eU]
      rw [eP]
      refine ⟨nfm_app ?_ hu, Or.inr ?_⟩
      · intro i hi e
        rw [sub_len (by omega)] at hi
        rw [gx_sub (by omega) (by omega)] at e
        obtain ⟨p, q, g2, hp, hq, e1, e2, e3⟩ := hnf (hen D + i) (by omega) e
        have n0 : hen D + i ≠ bw (nev 47) D (hen D) (bmk D) - 1 := fun e9 => by rw [e9, hl47] at e; exact absurd e (by decide)
        have n1 : hen D + i + 1 ≠ bw (nev 47) D (hen D) (bmk D) - 1 := fun e9 => by
          have := hx_ch p hp
          rw [← e1, e9, hl47, hx_47] at this
          cases this
        refine ⟨p, q, by rw [sub_len (by omega)]; omega, hp, hq, ?_, ?_, e3⟩
        · rw [gx_sub (by omega) (by omega)]; exact e1
        · rw [gx_sub (by omega) (by omega)]; exact e2
      · rw [gx_app_l (by rw [sub_len (by omega)]; omega), sub_hd hlh (by omega)]; exact h47
theorem bsQ_ok (ho : okD D) (ha : alp (fun j => isRef L j t) f0 t = true) (h0 : f0 ≤ f) (hft : f ≤ t) : nfm ((bsQ L f t D).getD []) := by
  have hq := fw_bd (p := nev 63) (L := L) hft
  have hbm := ho.bm
  unfold bsQ
  by_cases h1 : fw (nev 63) L f t < t
  · rw [if_pos h1]
    exact nfm_rf ha (by omega) (Nat.le_refl _) (fun h9 => absurd h9 (Nat.lt_irrefl _))
  · rw [if_neg h1]
    by_cases h2 : fw (nev 63) L f t = f ∧ bmk D < D.length
    · rw [if_pos h2, ho.p2]
      exact nfm_sub ho.2.2.2.2.2.2 (Nat.le_refl _) (fun h9 => absurd h9 (Nat.lt_irrefl _))
    · rw [if_neg h2]
      exact nfm_nil
theorem mrs_ok (ha : alp (fun j => isRef L j t) f0 t = true) (h0 : f0 ≤ f) (hft : f ≤ t) (ht : t ≤ L.length) (hbL : btg L) (hb : ∀ D, bo = some D → okD D) (h : mrs L f t bo = some E) : okD E := by
  by_cases h2 : f + 1 < t ∧ gx L f = 47 ∧ gx L (f + 1) = 47
  · unfold mrs at h
    rw [if_pos h2] at h
    cases hm : mho L (f + 2) t with
    | none => rw [hm] at h; cases h
    | some H =>
      rw [hm] at h
      have h : fin H (uf L (hst L (f + 2) t) (fw (nev 63) L (hst L (f + 2) t) t)) (if fw (nev 63) L (hst L (f + 2) t) t < t then some (uf L (fw (nev 63) L (hst L (f + 2) t) t) t) else none) = some E := h
      have hsb := hst_bd (L := L) (f := f + 2) (t := t) (by omega)
      have hmb := nmin_bd (fw (nev 47) L (f + 2) t) (fw (nev 63) L (f + 2) t)
      rw [show Nat.min (fw (nev 47) L (f + 2) t) (fw (nev 63) L (f + 2) t) = hst L (f + 2) t from rfl] at hmb
      have hq := fw_bd (p := nev 63) (L := L) (f := hst L (f + 2) t) (t := t) hsb.2
      have eQ : (if fw (nev 63) L (hst L (f + 2) t) t < t then some (uf L (fw (nev 63) L (hst L (f + 2) t) t) t) else none).getD [] = uf L (fw (nev 63) L (hst L (f + 2) t) t) t := by
        by_cases h9 : fw (nev 63) L (hst L (f + 2) t) t < t
        · rw [if_pos h9]; rfl
        · rw [if_neg h9, uf_nil (by omega)]; rfl
      have k4 : uf L (hst L (f + 2) t) (fw (nev 63) L (hst L (f + 2) t) t) = [] ∨ gx (uf L (hst L (f + 2) t) (fw (nev 63) L (hst L (f + 2) t) t)) 0 = 47 := by
        by_cases h9 : hst L (f + 2) t < fw (nev 63) L (hst L (f + 2) t) t
        · have hne : ¬ gx L (hst L (f + 2) t) = 63 := of_decide_eq_true (fw_in (p := nev 63) (L := L) (f := hst L (f + 2) t) (t := t) (Nat.le_refl _) h9)
          have h47 : gx L (hst L (f + 2) t) = 47 := by
            rcases hmb.2.2 with q | q
            · have ho := fw_out (p := nev 47) (L := L) (f := f + 2) (t := t) (by omega)
              rw [← q] at ho
              exact Decidable.not_not.mp (fun h8 => by rw [nev_t h8] at ho; cases ho)
            · exfalso
              have := fw_63 (L := L) (f := f + 2) (t := t) (by omega)
              rw [← q] at this
              exact hne this
          exact Or.inr (by rw [uf_hd h9 (by rw [h47]; decide)]; exact h47)
        · exact Or.inl (uf_nil (by omega))
      have hi := mho_i hbL (by omega) ht hm
      have hxx := mho_x (by omega) ht hm
      exact fin_ok h hi.1 (by omega) (fun x hx => (hxx x hx).1) (nfm_no (fun x hx => (hxx x hx).2)) hi.2.2 (nfm_rf ha (by omega) hq.2 (fun h9 => by rw [fw_63 h9]; exact hx_63)) (btg_uf hbL _ _ (Nat.le_refl _)) k4 (by rw [eQ]; exact nfm_rf ha (by omega) (Nat.le_refl _) (fun h9 => absurd h9 (Nat.lt_irrefl _))) (by rw [eQ]; exact btg_uf hbL _ _ (Nat.le_refl _))
  · cases bo with
    | none => rw [mrs_n h2] at h; cases h
    | some D =>
      rw [mrs_s h2] at h
      have ho := hb D rfl
      have hh := ho.host
      have hP := bsP_ok ho ha h0 hft
      exact fin_ok h hh.1 hh.2.1 hh.2.2.1 hh.2.2.2.1 hh.2.2.2.2 hP.1 (bsP_i hbL ho.2.2.2.2.2.1 hft ht (Nat.le_of_lt ho.2.2.1)).1 hP.2 (bsQ_ok ho ha h0 hft) (bsQ_i hbL ho.2.2.2.2.2.1 hft (Nat.le_of_lt ho.2.2.1)).1
/-- what is made of a reference is an address -/
theorem mrr_ok (hft : f ≤ t) (ht : t ≤ L.length) (hbL : btg L) (hb : ∀ D, bo = some D → okD D) (h : mrr L f t bo = some E) : okD E := by
  have h1 := fw_bd (p := isBl) (L := L) hft
  have h2 := bw_bd (p := isBl) (L := L) (f := fw isBl L f t) (t := t) h1.2
  have h3 := fw_bd (p := nev 35) (L := L) (f := fw isBl L f t) (t := bw isBl L (fw isBl L f t) t) h2.1
  unfold mrr at h
  generalize fw (nev 35) L (fw isBl L f t) (bw isBl L (fw isBl L f t) t) = e at *
  generalize fw isBl L f t = g at *
  have hc := fw_bd (p := nev 58) (L := L) (f := g) (t := e) h3.1
  unfold mrt at h
  by_cases ha : alp (fun j => isRef L j e) g e = true
  · rw [if_pos ha] at h
    by_cases hcc : fw (nev 58) L g e < fw (nev 47) L g e ∧ fw (nev 58) L g e < fw (nev 63) L g e
    · rw [if_pos hcc] at h
      by_cases hw : isw 29 L g (fw (nev 58) L g e) = true ∧ fw (nev 58) L g e + 2 < e ∧ gx L (fw (nev 58) L g e + 1) = 47 ∧ gx L (fw (nev 58) L g e + 2) = 47
      · rw [if_pos hw] at h
        exact mrs_ok ha (by omega) (by omega) (by omega) hbL hb h
      · rw [if_neg hw] at h
        cases h
    · rw [if_neg hcc] at h
      exact mrs_ok ha (Nat.le_refl _) h3.1 (by omega) hbL hb h
  · rw [if_neg ha] at h
    cases h
end OKM
