/-! ===== what is made of a reference is an address in the one form ===== -/
theorem nfm_nil : nfm [] := fun i hi => absurd hi (Nat.not_lt_zero i)
theorem nfm_no {D : List Int32} (h : ∀ x, x ∈ D → ¬ x = 37) : nfm D := fun _ hi e => absurd e (h _ (gx_mem hi))
theorem nfm_app {A B : List Int32} (ha : nfm A) (hb : nfm B) : nfm (A ++ B) := by
  intro i hi h
  rw [List.length_append] at hi
  by_cases h1 : i < A.length
  · rw [gx_app_l h1] at h
    obtain ⟨p, q, h2, hp, hq, e1, e2, e3⟩ := ha i h1 h
    exact ⟨p, q, by rw [List.length_append]; omega, hp, hq, by rw [gx_app_l (by omega)]; exact e1, by rw [gx_app_l h2]; exact e2, e3⟩
  · rw [gx_app_r (by omega)] at h
    obtain ⟨p, q, h2, hp, hq, e1, e2, e3⟩ := hb (i - A.length) (by omega) h
    refine ⟨p, q, by rw [List.length_append]; omega, hp, hq, ?_, ?_, e3⟩
    · rw [gx_app_r (by omega), show i + 1 - A.length = i - A.length + 1 by omega]; exact e1
    · rw [gx_app_r (by omega), show i + 2 - A.length = i - A.length + 2 by omega]; exact e2
theorem nfm_sub {D : List Int32} {a b : Nat} (h : nfm D) (hb : b ≤ D.length) (hc : b < D.length → hx (gx D b) = none) : nfm (sub D a b) := by
  intro i hi e
  rw [sub_len hb] at hi
  rw [gx_sub (by omega) hb] at e
  obtain ⟨p, q, h2, hp, hq, e1, e2, e3⟩ := h (a + i) (by omega) e
  have n1 : a + i + 1 ≠ b := fun e9 => by
    have := hc (by omega)
    rw [← e9, e1, hx_ch p hp] at this
    cases this
  have n2 : a + i + 2 ≠ b := fun e9 => by
    have := hc (by omega)
    rw [← e9, e2, hx_ch q hq] at this
    cases this
  refine ⟨p, q, by rw [sub_len hb]; omega, hp, hq, ?_, ?_, e3⟩
  · rw [gx_sub (by omega) hb]; exact e1
  · rw [gx_sub (by omega) hb]; exact e2
theorem ch6_37 : ∀ k, k < 16 → ¬ ch 6 k = 37 := by decide
theorem plB_37 : plB 37 = false := by decide
theorem nfm_us {L : List Int32} {f t : Nat} (h : gx L f = 37 → ¬ esx L f t = none) : nfm (us L f t) := by
  cases e : esx L f t with
  | none =>
    rw [us_n e]
    exact nfm_no (fun x hx h9 => h ((List.mem_singleton.mp hx).symm.trans h9) e)
  | some v =>
    have hv := esx_lt e
    cases hp : plB (nI v) with
    | true =>
      rw [us_p e hp]
      exact nfm_no (fun x hx h9 => by
        rw [← List.mem_singleton.mp hx, h9, plB_37] at hp
        cases hp)
    | false =>
      rw [us_q e hp]
      intro i hi e9
      match i, hi, e9 with
      | 0, _, _ => exact ⟨v / 16, v % 16, Nat.lt_succ_self 2, by omega, by omega, rfl, rfl, by rw [show 16 * (v / 16) + v % 16 = v by omega]; exact hp⟩
      | 1, _, e9 => exact absurd e9 (ch6_37 _ (by omega))
      | 2, _, e9 => exact absurd e9 (ch6_37 _ (by omega))
theorem nfm_uf {L : List Int32} {t : Nat} : ∀ n f : Nat, t - f ≤ n → (∀ j, f ≤ j → j < t → gx L j = 37 → ¬ esx L j t = none) → nfm (uf L f t)
  | 0, f, hn, _ => by rw [uf_nil (by omega)]; exact nfm_nil
  | n + 1, f, hn, h => by
    by_cases hf : f < t
    · rw [uf_step hf]
      have hu := ua_le (L := L) hf
      exact nfm_app (nfm_us (h f (Nat.le_refl _) hf)) (nfm_uf n _ (by omega) (fun j hj => h j (by omega)))
    · rw [uf_nil (by omega)]; exact nfm_nil
/-- a stretch of a reference's bytes -/
theorem nfm_rf {L : List Int32} {f t a b : Nat} (h : alp (fun j => isRef L j t) f t = true) (ha : f ≤ a) (hb : b ≤ t) (hc : b < t → hx (gx L b) = none) : nfm (uf L a b) := by
  refine nfm_uf (b - a) a (Nat.le_refl _) (fun j h1 h2 e => ?_)
  rw [← esx_cut hb hc h2]
  have h9 := alp_iff.mp h j (by omega) (by omega)
  intro hn
  have h9 : isRef L j t = true := h9
  unfold isRef at h9
  rw [if_pos e, hn, Bool.and_eq_true] at h9
  exact absurd h9.2 (by decide)
/-- a piece of a path -/
def sgK (s : List Int32) : Prop := 0 < s.length ∧ gx s 0 = 47 ∧ nfm s
theorem nst_ok {L : List Int32} (hL : nfm L) : ∀ (n f : Nat) (Ss : List (List Int32)) (b : Bool), 1 ≤ f → (f ≤ L.length → gx L (f - 1) = 47) → (∀ s, s ∈ Ss → sgK s) → (∀ s, s ∈ (nst L n f Ss b).1 → sgK s) ∧ (Ss ≠ [] ∨ b = true ∨ (f ≤ L.length ∧ 1 ≤ n) → (nst L n f Ss b).1 ≠ [] ∨ (nst L n f Ss b).2 = true)
  | 0, f, Ss, b, h1, _, hs => ⟨hs, fun h9 => (h9).elim (fun q => Or.inl q) (fun h8 => h8.elim (fun q => Or.inr q) (fun q => absurd q.2 (by omega)))⟩
  | n + 1, f, Ss, b, h1, hf, hs => by
    by_cases hl : f ≤ L.length
    · have hb := fw_bd (p := nev 47) (L := L) (f := f) (t := L.length) hl
      have hn : fw (nev 47) L f L.length + 1 ≤ L.length → gx L (fw (nev 47) L f L.length + 1 - 1) = 47 := fun h9 => by
        have ho := fw_out (p := nev 47) (L := L) (f := f) (t := L.length) (by omega)
        rw [Nat.add_sub_cancel]
        exact Decidable.not_not.mp (fun h8 => by rw [nev_t h8] at ho; cases ho)
      by_cases d2 : dts L 2 f (fw (nev 47) L f L.length) = true
      · have e : nst L (n + 1) f Ss b = nst L n (fw (nev 47) L f L.length + 1) Ss.dropLast true := by
          show (if f ≤ L.length then _ else _) = _
          rw [if_pos hl, if_pos d2]
        rw [e]
        have r := nst_ok hL n (fw (nev 47) L f L.length + 1) Ss.dropLast true (by omega) hn (fun s h9 => hs s (List.dropLast_subset Ss h9))
        exact ⟨r.1, fun _ => r.2 (Or.inr (Or.inl rfl))⟩
      · by_cases d1 : dts L 1 f (fw (nev 47) L f L.length) = true
        · have e : nst L (n + 1) f Ss b = nst L n (fw (nev 47) L f L.length + 1) Ss true := by
            show (if f ≤ L.length then _ else _) = _
            rw [if_pos hl, if_neg d2, if_pos d1]
          rw [e]
          have r := nst_ok hL n (fw (nev 47) L f L.length + 1) Ss true (by omega) hn hs
          exact ⟨r.1, fun _ => r.2 (Or.inr (Or.inl rfl))⟩
        · have e : nst L (n + 1) f Ss b = nst L n (fw (nev 47) L f L.length + 1) (Ss ++ [sub L (f - 1) (fw (nev 47) L f L.length)]) false := by
            show (if f ≤ L.length then _ else _) = _
            rw [if_pos hl, if_neg d2, if_neg d1]
          rw [e]
          have hk : sgK (sub L (f - 1) (fw (nev 47) L f L.length)) := by
            refine ⟨by rw [sub_len hb.2]; omega, ?_, nfm_sub hL hb.2 (fun h9 => ?_)⟩
            · rw [gx_sub (by omega) hb.2]; exact hf hl
            · have := hn (by omega)
              rw [Nat.add_sub_cancel] at this
              rw [this]; exact hx_47
          have r := nst_ok hL n (fw (nev 47) L f L.length + 1) (Ss ++ [sub L (f - 1) (fw (nev 47) L f L.length)]) false (by omega) hn (fun s h9 => by
            rcases List.mem_append.mp h9 with q | q
            · exact hs s q
            · rw [List.mem_singleton.mp q]; exact hk)
          exact ⟨r.1, fun _ => r.2 (Or.inl (by simp))⟩
    · have e : nst L (n + 1) f Ss b = (Ss, b) := by
        show (if f ≤ L.length then _ else _) = _
        rw [if_neg hl]
      rw [e]
      exact ⟨hs, fun h9 => (h9).elim (fun q => Or.inl q) (fun h8 => h8.elim (fun q => Or.inr q) (fun q => absurd q.1 hl))⟩
theorem nfm_fl : ∀ Ss : List (List Int32), (∀ s, s ∈ Ss → sgK s) → nfm Ss.flatten
  | [], _ => nfm_nil
  | s :: r, h => by
    rw [List.flatten_cons]
    exact nfm_app (h s (List.mem_cons_self ..)).2.2 (nfm_fl r (fun x hx => h x (List.mem_cons_of_mem _ hx)))
theorem nty_ok {q : List (List Int32) × Bool} (h : ∀ s, s ∈ q.1 → sgK s) (h2 : q.1 ≠ [] ∨ q.2 = true) : sgK (nty q) := by
  obtain ⟨Ss, b⟩ := q
  have h47 : nfm [47] := nfm_no (fun x hx h9 => by rw [h9] at hx; exact absurd (List.mem_singleton.mp hx) (by decide))
  unfold nty
  cases Ss with
  | nil =>
    rcases h2 with q | q
    · exact absurd rfl q
    · rw [if_pos q]
      exact ⟨Nat.zero_lt_one, rfl, h47⟩
  | cons s r =>
    have hk := h s (List.mem_cons_self ..)
    refine ⟨?_, ?_, nfm_app (nfm_fl _ h) ?_⟩
    · have := hk.1
      show 0 < ((s :: r).flatten ++ _).length
      rw [List.length_append, List.flatten_cons, List.length_append]
      omega
    · show gx ((s :: r).flatten ++ _) 0 = 47
      rw [List.flatten_cons, List.append_assoc, gx_app_l hk.1]
      exact hk.2.1
    · by_cases hb : b = true
      · show nfm (if b = true then [47] else [])
        rw [if_pos hb]; exact h47
      · show nfm (if b = true then [47] else [])
        rw [if_neg hb]; exact nfm_nil
theorem ntx_ok {P : List Int32} (hP : nfm P) (h0 : P = [] ∨ gx P 0 = 47) : sgK (ntx (pz P)) := by
  have hz : nfm (pz P) ∧ 1 ≤ (pz P).length ∧ gx (pz P) 0 = 47 := by
    unfold pz
    by_cases h : P.length = 0
    · rw [if_pos h]
      exact ⟨nfm_no (fun x hx h9 => by rw [h9] at hx; exact absurd (List.mem_singleton.mp hx) (by decide)), by decide, rfl⟩
    · rw [if_neg h]
      refine ⟨hP, by omega, ?_⟩
      rcases h0 with q | q
      · rw [q] at h; exact absurd rfl h
      · exact q
  have r := nst_ok hz.1 (pz P).length 1 [] false (Nat.le_refl _) (fun _ => hz.2.2) (fun s h9 => absurd h9 (List.not_mem_nil))
  exact nty_ok r.1 (r.2 (Or.inr (Or.inr ⟨hz.2.1, hz.2.1⟩)))
theorem okD_mk {H N Q : List Int32} (h1 : 1 ≤ H.length) (h2 : H.length ≤ 73) (h3 : ∀ x, x ∈ H → ¬ x = 47) (h4 : nfm H) (h5 : btg H) (n1 : sgK N) (n2 : btg N) (q1 : nfm Q) (q2 : btg Q) (hl : 7 + H.length + N.length + Q.length ≤ 200) : okD (h7 ++ H ++ N ++ Q) := by
  have l7 : h7.length = 7 := rfl
  have ll : (h7 ++ H ++ N ++ Q).length = 7 + H.length + N.length + Q.length := by
    rw [List.length_append, List.length_append, List.length_append, l7]
  have n0 := n1.1
  have hh : hen (h7 ++ H ++ N ++ Q) = 7 + H.length := by
    refine fw_eq (by omega) (by omega) (fun j ha hb => ?_) (fun _ => ?_)
    · rw [gx_app_l (by rw [List.length_append, List.length_append, l7]; omega), gx_app_l (by rw [List.length_append, l7]; omega), gx_app_r (by rw [l7]; omega), l7]
      exact nev_t (h3 _ (gx_mem (by omega)))
    · rw [gx_app_l (by rw [List.length_append, List.length_append, l7]; omega), gx_app_r (by rw [List.length_append, l7]; omega), List.length_append, l7, Nat.sub_self, n1.2.1]
      decide
  refine ⟨?_, by omega, by omega, by omega, by omega, btg_app (btg_app (btg_app btg_h7 h5) n2) q2, nfm_app (nfm_app (nfm_app (nfm_no (by decide)) h4) n1.2.2) q1⟩
  rw [List.append_assoc, List.append_assoc, sub_l (by rw [l7]; omega)]
  rfl
theorem fin_ok {H P E : List Int32} {q : Option (List Int32)} (h : fin H P q = some E) (h1 : 1 ≤ H.length) (h2 : H.length ≤ 73) (h3 : ∀ x, x ∈ H → ¬ x = 47) (h4 : nfm H) (h5 : btg H) (p1 : nfm P) (p2 : btg P) (p3 : P = [] ∨ gx P 0 = 47) (q1 : nfm (q.getD [])) (q2 : btg (q.getD [])) : okD E := by
  unfold fin at h
  by_cases hc : 7 + H.length + (ntx (pz P)).length + (q.getD []).length ≤ 200
  · rw [if_pos hc] at h
    cases h
    exact okD_mk h1 h2 h3 h4 h5 (ntx_ok p1 p3) (btg_ntx p2) q1 q2 hc
  · rw [if_neg hc] at h
    cases h
