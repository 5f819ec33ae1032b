/-! ===== what holds of pages, known and crawl behind a step ===== -/
def wfP (P : List Pg) : Prop := (P.length ≤ 60 ∧ (pad P).Nodup) ∧ ∀ j, j < P.length → okD (gP P j).1 ∧ btg (gP P j).2.2 ∧ (gP P j).2.2.length ≤ 7999 ∧ (gP P j).2.1 ≤ 599
section WFS
variable {k j i v : Nat} {U Ls Rs Rt : List (List Int32)} {K V : Kn} {lim : Nat → Nat} {c : Cw} {P : List Pg} {D L E : List Int32}
theorem pgL_ok (hb : btg L) (ho : okD D) : ∀ x, x ∈ pgL L D → okD x := by
  unfold pgL
  have hB : okD ((pgB L D).getD D) := pgB_ok hb ho _
  have : ∀ (V Ls : List (List Int32)), (∀ x, x ∈ V → btg x) → (∀ x, x ∈ Ls → okD x) → ∀ x, x ∈ V.foldl (lnk ((pgB L D).getD D)) Ls → okD x := fun V => by
    induction V with
    | nil => exact fun Ls _ h => h
    | cons v V ih => exact fun Ls h1 h2 => ih _ (fun x hx => h1 x (List.mem_cons_of_mem _ hx)) (lnk_ok (h1 v (List.mem_cons_self ..)) hB h2)
  exact this _ [] (pgV_bt hb) (fun x hx => absurd hx List.not_mem_nil)
theorem ldl_ok (hb : btg L) (ho : okD D) (h : ldl L D = some E) : okD E := mrr_ok (L := L) (Nat.zero_le _) (fw_bd (p := nev 10) (L := L) (Nat.zero_le _)).2 hb (fun D9 h9 => by cases h9; exact ho) h
theorem wfC_mee {dp ch : Nat} (h : wfC K c) : wfC (mee lim D dp ch K) c := by
  unfold mee
  cases e : nbr K.ad D with
  | none =>
    dsimp only
    split
    · refine ⟨fun i z hi hz => ?_, h.2⟩
      have hi2 : i < (K.ad ++ [D]).length := hi
      have hz2 : upf K.at K.ad.length none i = some z := hz
      rw [List.length_append] at hi2
      have hi3 : i < K.ad.length + 1 := hi2
      by_cases q : i = K.ad.length
      · rw [q, upf_s] at hz2; cases hz2
      · rw [upf_n q] at hz2
        exact h.1 i z (by omega) hz2
    · exact h
  | some k =>
    dsimp only
    split
    · exact h
    · exact h
theorem lkf_wf {dp : Nat} (h0 : lim 0 ≤ 20) (h1 : lim 1 ≤ 8) (hd : dp ≤ 21) : ∀ (Ls : List (List Int32)) (K : Kn), (∀ x, x ∈ Ls → okD x) → wfK K → wfC K c → wfK (lkf lim dp Ls K) ∧ wfC (lkf lim dp Ls K) c
  | [], K, _, h2, h3 => ⟨h2, h3⟩
  | E :: Ls, K, ho, h2, h3 => lkf_wf h0 h1 hd Ls _ (fun x hx => ho x (List.mem_cons_of_mem _ hx)) (mee_wf h0 h1 (ho E (List.mem_cons_self ..)) (Nat.zero_le _) hd h2) (wfC_mee h3)
theorem stK_wf (hv : 1 ≤ v ∧ v ≤ 5) (h : wfK K) : wfK (stK K k v) := ⟨h.1, h.2.1, h.2.2.1, fun i hi => by
  have := h.2.2.2 i hi
  refine ⟨?_, ?_, this.2.2⟩
  · show 1 ≤ upf K.st k v i
    by_cases q : i = k
    · rw [q, upf_s]; exact hv.1
    · rw [upf_n q]; exact this.1
  · show upf K.st k v i ≤ 5
    by_cases q : i = k
    · rw [q, upf_s]; exact hv.2
    · rw [upf_n q]; exact this.2.1⟩
theorem asC_wf (hl : lim 2 ≤ 1000) (h : wfC K c) (hok : ∀ x, x ∈ K.ad → okD x) (hk : k < K.ad.length) (han : c.an < 128000) : wfC (asK lim K c k) (asC lim K c (gT K.ad k)) := by
  have hb := ckr_bd (lim := lim) (D := gT K.ad k) h hl
  obtain ⟨h1, h2, h3, h4, h5, h6, h7⟩ := h
  have hck : (asC lim K c (gT K.ad k)).ck = ckr lim K c (gT K.ad k) + 1 := rfl
  have hae : (asC lim K c (gT K.ad k)).an = c.an + 1 := rfl
  have haq : (asC lim K c (gT K.ad k)).aq = if c.an < 1000 then c.aq ++ [gT K.ad k] else c.aq := rfl
  refine ⟨fun i z hi hz => ?_, fun z hz => ?_, ?_, ?_, ?_, fun x hx => ?_, ?_⟩
  · have hz2 : upf K.at k (some (ckr lim K c (gT K.ad k))) i = some z := hz
    rw [hck]
    by_cases q : i = k
    · rw [q, upf_s] at hz2; injection hz2 with hz3; omega
    · rw [upf_n q] at hz2
      have := h1 i z hi hz2
      omega
  · have := h2 z hz
    rw [hck]; omega
  · rw [hck, hae]; omega
  · rw [hae]; omega
  · rw [haq, hae]
    split
    · rw [List.length_append]; show _ + 1 = _; omega
    · omega
  · rw [haq] at hx
    split at hx
    · rcases List.mem_append.mp hx with q | q
      · exact h6 x q
      · rw [List.mem_singleton.mp q]; exact hok _ (gT_mem hk)
    · exact h6 x hx
  · show c.sn + 1 ≤ c.an + 1
    omega
theorem tak_wf (h0 : lim 0 ≤ 20) (h1 : lim 1 ≤ 8) (h2 : lim 2 ≤ 1000) (hP : wfP P) (hw : wfK K) (hwc : wfC K c) (hk : k < K.ad.length) (han : c.an < 128000) : wfK (tak lim P Rs Rt K c k).2.1 ∧ wfC (tak lim P Rs Rt K c k).2.1 (tak lim P Rs Rt K c k).2.2 := by
  have ha := asC_wf (lim := lim) h2 hwc hw.2.2.1 hk han
  have hwk : wfK (asK lim K c k) := hw
  have h4 := hw.2.2.2 k hk
  have f5 : wfK (stK (asK lim K c k) k 5) ∧ wfC (stK (asK lim K c k) k 5) (asC lim K c (gT K.ad k)) := ⟨stK_wf (by decide) hwk, ha⟩
  unfold tak
  split
  · cases e : nbr (pad P) (gT K.ad k) with
    | none => exact f5
    | some j =>
      dsimp only
      have hj : j < P.length := by have := (nbr_s e).1; rw [pad_len] at this; exact this
      have hj2 : (gP P j).1 = gT K.ad k := (pad_g hj).symm.trans (nbr_s e).2
      obtain ⟨p1, p2, p3, p4⟩ := hP.2 j hj
      rw [hj2] at p1
      split
      · have hwt : wfK (txK (asK lim K c k) k (gP P j).2.2) := stK_wf (K := asK lim K c k) (k := k) (v := 2) (by decide) hwk
        exact lkf_wf h0 h1 (by omega) _ _ (pgL_ok p2 p1) hwt ha
      · split
        · rename_i h9
          cases e2 : ldl (gP P j).2.2 (gT K.ad k) with
          | none => exact f5
          | some E =>
            have hwt : wfK (ldK (asK lim K c k) k E) := stK_wf (K := asK lim K c k) (k := k) (v := 3) (by decide) hwk
            exact ⟨mee_wf h0 h1 (ldl_ok p2 p1 e2) (by omega) (by omega) hwt, wfC_mee (K := ldK (asK lim K c k) k E) ha⟩
        · exact f5
  · exact ⟨stK_wf (by decide) hw, hwc⟩
end WFS
