/-! ===== between two calls: pure facts ===== -/
def gpU (U : List (List Int32)) (K : Kn) : Prop := ∀ i, i < K.ad.length → K.st i = 2 → pgU U (gT K.ad i) (K.tx i)
/-- the addresses that a call may make of its text -/
def adU (L : List Int32) : List (List Int32) := (rfa L).toList ++ (match fsa L with
  | none => []
  | some D => D :: ((pgB (rst L) D).toList ++ (pgL (rst L) D ++ (ldl (rst L) D).toList)))
section D0S
variable {U U1 Y A : List (List Int32)} {K V : Kn} {lim sett : Nat → Nat} {D L E : List Int32} {dp ch k v : Nat} {P : List Pg} {Rs Rt Sd : List (List Int32)} {c : Cw} {q : Cr}
theorem pgU.mo (h : pgU U D L) (hs : ∀ x, x ∈ U → x ∈ U1) : pgU U1 D L := ⟨fun x hx => hs x (h.1 x hx), fun x hx => hs x (h.2.1 x hx), fun x hx => hs x (h.2.2 x hx)⟩
theorem pgP.mo (h : pgP U P) (hs : ∀ x, x ∈ U → x ∈ U1) : pgP U1 P := fun j hj => (h j hj).mo hs
theorem gpU.mo (h : gpU U K) (hs : ∀ x, x ∈ U → x ∈ U1) : gpU U1 K := fun i hi h2 => (h i hi h2).mo hs
theorem gpU.met (h : gpU U K) : gpU U (mee lim D dp ch K) := fun i hi hs => by
  have g := mee_got hi hs
  rw [g.2.1, g.2.2.2]
  exact h i g.1 g.2.2.1
theorem gpU_lkf (h : gpU U K) (Ls : List (List Int32)) : gpU U (lkf lim dp Ls K) := fun i hi hs => by
  have g := lkf_got Ls K i hi hs
  rw [g.2.1, g.2.2.2]
  exact h i g.1 g.2.2.1
theorem gpU_st (h : gpU U K) (hv : ¬ v = 2) : gpU U (stK K k v) := fun i hi hs => by
  have hs2 : upf K.st k v i = 2 := hs
  by_cases e : i = k
  · rw [e, upf_s] at hs2; exact absurd hs2 hv
  · rw [upf_n e] at hs2; exact h i hi hs2
theorem gpU_tx (h : gpU U K) (hp : pgU U (gT K.ad k) L) : gpU U (txK K k L) := fun i hi hs => by
  have hs2 : upf K.st k 2 i = 2 := hs
  show pgU U (gT K.ad i) (upf K.tx k L i)
  by_cases e : i = k
  · rw [e, upf_s]; exact hp
  · rw [upf_n e] at hs2 ⊢
    exact h i hi hs2
theorem gpU_ld (h : gpU U K) : gpU U (ldK K k E) := fun i hi hs => by
  have hs2 : upf K.st k 3 i = 2 := hs
  by_cases e : i = k
  · rw [e, upf_s] at hs2; cases hs2
  · rw [upf_n e] at hs2; exact h i hi hs2
theorem gpU_tak (hp : pgP U P) (h : gpU U K) : gpU U (tak lim P Rs Rt K c k).2.1 := by
  have h0 : gpU U (asK lim K c k) := h
  unfold tak
  split
  · cases e : nbr (pad P) (gT K.ad k) with
    | none => exact gpU_st h0 (by decide)
    | some j =>
      have hj9 : j < P.length := by have := (nbr_s e).1; rw [pad_len] at this; exact this
      have haj : (gP P j).1 = gT K.ad k := (pad_g hj9).symm.trans (nbr_s e).2
      dsimp only
      split
      · exact gpU_lkf (gpU_tx (K := asK lim K c k) h0 (by have := hp j hj9; rw [haj] at this; exact this)) _
      · split
        · cases e2 : ldl (gP P j).2.2 (gT K.ad k) with
          | none => exact gpU_st h0 (by decide)
          | some E => exact gpU.met (gpU_ld h0)
        · exact gpU_st h0 (by decide)
  · exact gpU_st h (by decide)
theorem stp_U {z : Nat × Cr} (e : stp lim P Rs Rt q = some z) (hp : pgP U P) (h1 : gpU U q.1) (h2 : gpU U q.2.2) : gpU U z.2.1 ∧ gpU U z.2.2.2 := by
  unfold stp at e
  cases en : nxw q.1 with
  | none => rw [en] at e; cases e
  | some k =>
    rw [en] at e
    have t := gpU_tak (lim := lim) (Rs := Rs) (Rt := Rt) (c := q.2.1) (k := k) hp h1
    have e9 := Option.some.inj e
    by_cases hif : lim 3 ≤ (tak lim P Rs Rt q.1 q.2.1 k).2.2.sn
    · rw [if_pos hif] at e9
      rw [← e9]
      exact ⟨t, t⟩
    · rw [if_neg hif] at e9
      rw [← e9]
      exact ⟨t, h2⟩
theorem rn_U (hp : pgP U P) : ∀ (n : Nat) (q : Cr), gpU U q.1 → gpU U q.2.2 → gpU U (rn lim P Rs Rt n q).2.1 ∧ gpU U (rn lim P Rs Rt n q).2.2.2
  | 0, q, h1, h2 => ⟨h1, h2⟩
  | n + 1, q, h1, h2 => by
    cases e : stp lim P Rs Rt q with
    | none =>
      rw [rn_n e]
      exact ⟨h1, h2⟩
    | some z =>
      rw [rn_s e]
      have hs := stp_U e hp h1 h2
      exact rn_U hp n z.2 hs.1 hs.2
theorem gpU00 : gpU U K00 := fun i hi => absurd hi (Nat.not_lt_zero i)
theorem sta_U : gpU U (sta sett Sd).1 ∧ gpU U (sta sett Sd).2.2 := ⟨gpU_lkf gpU00 Sd, gpU_lkf gpU00 Sd⟩
theorem rn_eq {M : Nat} (hm : lmO lim) (hP : wfP P) (hw : wfK q.1) (hwc : wfC q.1 q.2.1) (han : q.2.1.an + 250 ≤ 128000) : ∃ n, n ≤ 250 ∧ rn lim P Rs Rt M q = rn lim P Rs Rt n q := by
  by_cases h : M ≤ 250
  · exact ⟨M, h, rfl⟩
  · exact ⟨250, Nat.le_refl _, rn_250 hm.1 hm.2.1 hm.2.2.1 hP 250 M 250 q hw hwc han (Nat.sub_le _ _) (by omega) (Nat.le_refl _)⟩
theorem lnk_le (Bs : List Int32) : ∀ (Vs Ls : List (List Int32)), (Vs.foldl (lnk Bs) Ls).length ≤ Ls.length + Vs.length
  | [], Ls => Nat.le_refl _
  | V :: Vs, Ls => by
    have h := lnk_le Bs Vs (lnk Bs Ls V)
    have h2 : (lnk Bs Ls V).length ≤ Ls.length + 1 := by
      unfold lnk
      split
      · split
        · split
          · exact Nat.le_succ _
          · rw [List.length_append]; exact Nat.le_refl _
        · exact Nat.le_succ _
      · exact Nat.le_succ _
    rw [List.foldl_cons, List.length_cons]
    omega
theorem pgL_8 : 8 * (pgL L D).length ≤ L.length := by
  have h := lnk_le ((pgB L D).getD D) (pgV L) []
  have h2 := pgV_bd (L := L) L.length 0 (by omega) (Nat.zero_le _)
  have h3 : 0 + (pgV L).flatten.length + 8 * (pgV L).length ≤ L.length := h2
  have h4 : (pgL L D).length ≤ 0 + (pgV L).length := h
  omega
theorem opt_1 {o : Option (List Int32)} : o.toList.length ≤ 1 := by
  cases o with
  | none => exact Nat.zero_le _
  | some x => exact Nat.le_refl _
theorem rst_le : (rst L).length ≤ L.length ∧ (L.length ≤ 8000 → (rst L).length ≤ 7999) := by
  have h1 := rst_len (L := L)
  refine ⟨by omega, fun h8 => ?_⟩
  by_cases h0 : L.length = 0
  · omega
  · have h2 : 1 ≤ bhf L := by unfold bhf; omega
    omega
theorem adU_len : 8 * (adU L).length ≤ 32 + L.length := by
  unfold adU
  rw [List.length_append]
  have h0 := opt_1 (o := rfa L)
  cases e : fsa L with
  | none => dsimp only; rw [List.length_nil]; omega
  | some D =>
    dsimp only
    rw [List.length_cons, List.length_append, List.length_append]
    have h1 := opt_1 (o := pgB (rst L) D)
    have h2 := opt_1 (o := ldl (rst L) D)
    have h3 := pgL_8 (L := rst L) (D := D)
    have h4 := (rst_le (L := L)).1
    omega
theorem mem_opt {o : Option (List Int32)} {x : List Int32} (h : o = some x) : x ∈ o.toList := by rw [h]; exact List.mem_singleton_self x
theorem adU_r (h : rfa L = some D) : D ∈ adU L := List.mem_append_left _ (mem_opt h)
theorem adU_f (h : fsa L = some D) : D ∈ adU L := List.mem_append_right _ (by rw [h]; exact List.mem_cons_self ..)
theorem adU_p (h : fsa L = some D) : pgU (adU L) D (rst L) := by
  have e : ∀ x, x ∈ ((pgB (rst L) D).toList ++ (pgL (rst L) D ++ (ldl (rst L) D).toList)) → x ∈ adU L := fun x hx => List.mem_append_right _ (by rw [h]; exact List.mem_cons_of_mem _ hx)
  exact ⟨fun x hx => e x (List.mem_append_left _ (mem_opt hx)), fun x hx => e x (List.mem_append_right _ (List.mem_append_left _ hx)), fun x hx => e x (List.mem_append_right _ (List.mem_append_right _ (mem_opt hx)))⟩
theorem er_fl {a : List Int32} : ∀ Y : List (List Int32), a ∈ Y → (Y.erase a).flatten.length + a.length = Y.flatten.length
  | [], h => by cases h
  | b :: Y, h => by
    by_cases e : b = a
    · rw [e, List.erase_cons_head, List.flatten_cons, List.length_append]
      omega
    · have h2 : a ∈ Y := (List.mem_cons.mp h).resolve_left (fun q => e q.symm)
      have ih := er_fl Y h2
      rw [List.erase_cons_tail (by simp [e]), List.flatten_cons, List.flatten_cons, List.length_append, List.length_append]
      omega
theorem nd_fl : ∀ (A Y : List (List Int32)), A.Nodup → (∀ x, x ∈ A → x ∈ Y) → A.flatten.length ≤ Y.flatten.length
  | [], Y, _, _ => Nat.zero_le _
  | a :: A, Y, h1, h2 => by
    have h3 := List.nodup_cons.mp h1
    have h4 := er_fl Y (h2 a (List.mem_cons_self ..))
    have ih := nd_fl A (Y.erase a) h3.2 (fun x hx => (List.mem_erase_of_ne (fun e => h3.1 (by rw [← e]; exact hx))).mpr (h2 x (List.mem_cons_of_mem _ hx)))
    rw [List.flatten_cons, List.length_append]
    omega
theorem txs_Y (hw : wfK K) (hY : ∀ i, i ∈ dcs K → K.tx i ∈ Y) : (txs K (dcs K)).flatten.length ≤ ofs Y Y.length := by
  rw [← flat_len]
  refine nd_fl _ _ (txs_nd hw (List.prefix_refl _)) (fun x hx => ?_)
  obtain ⟨i, hi, e⟩ := List.mem_map.mp hx
  rw [← e]
  exact hY i hi
end D0S
