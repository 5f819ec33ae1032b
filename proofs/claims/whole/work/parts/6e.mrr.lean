/-! ===== the model's readReference: the address that it makes ===== -/
theorem btg_us {L : List Int32} {f t : Nat} (h : btg L) : btg (us L f t) := by
  cases e : esx L f t with
  | none =>
    rw [us_n e]
    intro j
    cases j with
    | zero => exact h f
    | succ j => exact bt_0
  | some v =>
    have hv := esx_lt e
    cases hp : plB (nI v) with
    | true =>
      rw [us_p e hp]
      have := plB_all v (by omega) hp
      intro j
      cases j with
      | zero => exact bt_nI (by omega)
      | succ j => exact bt_0
    | false =>
      rw [us_q e hp]
      intro j
      match j with
      | 0 => exact bt_nI (j := 37) (by omega)
      | 1 => exact bt_ch (i := 6) (k := v / 16) (by decide) (by show v / 16 < 16; omega)
      | 2 => exact bt_ch (i := 6) (k := v % 16) (by decide) (by show v % 16 < 16; omega)
      | j + 3 => exact bt_0
theorem btg_uf {L : List Int32} {t : Nat} (h : btg L) : ∀ (n f : Nat), t - f ≤ n → btg (uf L f t)
  | 0, f, hn => by rw [uf_nil (by omega)]; exact btg_nil
  | n + 1, f, hn => by
    by_cases hf : f < t
    · have := ua_le (L := L) hf
      rw [uf_step hf]
      exact btg_app (btg_us h) (btg_uf h n _ (by omega))
    · rw [uf_nil (by omega)]; exact btg_nil
theorem btg_nst {L : List Int32} (h : btg L) : ∀ (n f : Nat) (Ss : List (List Int32)) (b : Bool), btg Ss.flatten → btg (nst L n f Ss b).1.flatten
  | 0, f, Ss, b, hs => hs
  | n + 1, f, Ss, b, hs => by
    unfold nst
    split
    · rename_i hfl
      split
      · refine btg_nst h n _ _ _ ?_
        have hdl : Ss.dropLast = Ss.take (Ss.length - 1) := List.dropLast_eq_take
        have hap : Ss.dropLast.flatten ++ ((Ss.drop (Ss.length - 1)).flatten ++ []) = Ss.flatten ++ [] := by rw [hdl]; exact tk_flat
        rw [List.append_nil, List.append_nil] at hap
        exact btg_l (by rw [hap]; exact hs)
      · split
        · exact btg_nst h n _ _ _ hs
        · refine btg_nst h n _ _ _ ?_
          have hb := fw_bd (p := nev 47) (L := L) hfl
          have e : (Ss ++ [sub L (f - 1) (fw (nev 47) L f L.length)]).flatten = Ss.flatten ++ sub L (f - 1) (fw (nev 47) L f L.length) := by simp
          rw [e]
          exact btg_app hs (btg_sub h (by omega))
    · exact hs
theorem btg_47 : btg [47] := fun j => by
  cases j with
  | zero => exact bt_nI (j := 47) (by omega)
  | succ j => exact bt_0
theorem btg_nty {q : List (List Int32) × Bool} (h : btg q.1.flatten) : btg (nty q) := by
  unfold nty
  split
  · exact btg_app h btg_47
  · rw [List.append_nil]; exact h
theorem btg_ntx {L : List Int32} (h : btg L) : btg (ntx (pz L)) := by
  have hz : btg (pz L) := by
    unfold pz
    split
    · exact btg_47
    · exact h
  exact btg_nty (btg_nst hz _ _ _ _ btg_nil)
theorem btg_map {L : List Int32} (h : btg L) : btg (L.map toLo) := fun j => by
  by_cases hj : j < L.length
  · rw [gx_eq (by rw [List.length_map]; exact hj), List.getElem_map, ← gx_eq hj]
    exact bt_toLo (h j)
  · rw [gx_out (by rw [List.length_map]; omega)]; exact bt_0
theorem btg_cons {x : Int32} {L : List Int32} (hx : bt x) (h : btg L) : btg (x :: L) := fun j => by
  cases j with
  | zero => exact hx
  | succ j => exact h j
theorem btg_pdg (p : Nat) : btg (pdg p) := by
  have hd : ∀ q : Nat, bt (nI (48 + q % 10)) := fun q => bt_nI (by omega)
  unfold pdg
  split
  · exact btg_cons (hd _) btg_nil
  · split
    · exact btg_cons (hd _) (btg_cons (hd _) btg_nil)
    · split
      · exact btg_cons (hd _) (btg_cons (hd _) (btg_cons (hd _) btg_nil))
      · split
        · exact btg_cons (hd _) (btg_cons (hd _) (btg_cons (hd _) (btg_cons (hd _) btg_nil)))
        · exact btg_cons (hd _) (btg_cons (hd _) (btg_cons (hd _) (btg_cons (hd _) (btg_cons (hd _) btg_nil))))
theorem btg_ptx (o : Option (Option Nat)) : btg (ptx o) := by
  unfold ptx
  split
  · exact btg_cons (bt_nI (j := 58) (by omega)) (btg_pdg _)
  · exact btg_nil
theorem ptx_len (o : Option (Option Nat)) : (ptx o).length ≤ 6 := by
  unfold ptx
  split
  · have := pdg_len ‹Nat›
    rw [List.length_cons]; omega
  · exact Nat.zero_le _
theorem mho_i {L H : List Int32} {f t : Nat} (hb : btg L) (hft : f ≤ t) (ht : t ≤ L.length) (h : mho L f t = some H) : 1 ≤ H.length ∧ H.length ≤ 66 ∧ btg H := by
  have hbd := hst_bd (L := L) hft
  have hk := fw_bd (p := hoB) (L := L) (f := f) (t := hst L f t) hbd.1
  rw [show fw hoB L f (hst L f t) = hoE L f t from rfl] at hk
  have hl : ((sub L f (hoE L f t)).map toLo).length = hoE L f t - f := by rw [List.length_map, sub_len (by omega)]
  have hm := btg_map (btg_sub (f := f) hb (show hoE L f t ≤ L.length by omega))
  unfold mho at h
  split at h
  · cases h
  · split at h
    · cases h
      exact ⟨by omega, by omega, hm⟩
    · split at h
      · cases h
      · rename_i p hp
        cases h
        have h6 := ptx_len (some p)
        rw [List.length_append]
        exact ⟨by omega, by omega, btg_app hm (btg_ptx _)⟩
/-- the address of host, path and query, if it isn't too long -/
def fin (H P : List Int32) (q : Option (List Int32)) : Option (List Int32) := if 7 + H.length + (ntx (pz P)).length + (q.getD []).length ≤ 200 then some (h7 ++ H ++ ntx (pz P) ++ q.getD []) else none
/-- behind the scheme, from f on -/
def mrs (L : List Int32) (f t : Nat) (bo : Option (List Int32)) : Option (List Int32) := if f + 1 < t ∧ gx L f = 47 ∧ gx L (f + 1) = 47 then (match mho L (f + 2) t with | none => none | some H => fin H (uf L (hst L (f + 2) t) (fw (nev 63) L (hst L (f + 2) t) t)) (if fw (nev 63) L (hst L (f + 2) t) t < t then some (uf L (fw (nev 63) L (hst L (f + 2) t) t) t) else none)) else match bo with | none => none | some D => fin (sub D 7 (hen D)) (bsP L f t D) (bsQ L f t D)
/-- of a trimmed reference -/
def mrt (L : List Int32) (f t : Nat) (bo : Option (List Int32)) : Option (List Int32) := if alp (fun j => isRef L j t) f t = true then (if fw (nev 58) L f t < fw (nev 47) L f t ∧ fw (nev 58) L f t < fw (nev 63) L f t then (if isw 29 L f (fw (nev 58) L f t) = true ∧ fw (nev 58) L f t + 2 < t ∧ gx L (fw (nev 58) L f t + 1) = 47 ∧ gx L (fw (nev 58) L f t + 2) = 47 then mrs L (fw (nev 58) L f t + 1) t bo else none) else mrs L f t bo) else none
def mrr (L : List Int32) (f t : Nat) (bo : Option (List Int32)) : Option (List Int32) := mrt L (fw isBl L f t) (fw (nev 35) L (fw isBl L f t) (bw isBl L (fw isBl L f t) t)) bo
theorem btg_h7 : btg h7 := btg_cons (bt_nI (j := 104) (by omega)) (btg_cons (bt_nI (j := 116) (by omega)) (btg_cons (bt_nI (j := 116) (by omega)) (btg_cons (bt_nI (j := 112) (by omega)) (btg_cons (bt_nI (j := 58) (by omega)) (btg_cons (bt_nI (j := 47) (by omega)) (btg_cons (bt_nI (j := 47) (by omega)) btg_nil))))))
section MRR
variable {X : am_X} {d s t ca f k : Nat} {A B : List va_E} {S : MS} {L H P : List Int32} {T : List (List Int32)} {q : Option (List Int32)}
theorem f_M_readReference (hA : A.length = 84) (hH1 : S.hostLength = H.length) (hH2 : tx S.host 0 H) (hH3 : 1 ≤ H.length ∧ H.length ≤ 80) (hHb : btg H) (hP1 : S.pathLength = P.length) (hP2 : tx S.path 0 P) (hP3 : P.length ≤ 8400) (hPb : btg P) (hq1 : S.queryLength = q.map List.length) (hq2 : tx S.query 0 (q.getD [])) (hq3 : (q.getD []).length ≤ 8400) (hqb : btg (q.getD [])) : am_G X mt_M_readReference (d + 5) 325 [some (.ref 84), none, none, none, none, none, none, none, none, none, none] [] (mput A S B) (fun r h1 => ∃ S1, h1 = mput A S1 B ∧ scA S S1 ∧ match fin H P q with | some D => r = some (.int 1) ∧ mad S1 D | none => r = some (.int 0)) := by
  refine g_aload_n (pc := 325) dc_M_readReference_325 rfl ?_
  refine g_v0 (pc := 326) (M' := mt_M_neaten) dc_M_readReference_326 mo_M_neaten im_M_neaten se_M_neaten ln_M_111 (mp_o hA) rfl rfl (Nat.le_of_ble_eq_true rfl) (Nat.le_of_ble_eq_true rfl) (am_G.mono (c_M_neaten (d := d) (S := S) (L := P) (H := H) (Qy := q.getD []) (qo := q.map List.length) hA hH1 hH2 hH3.2 hHb hq1 (fun k hk => by cases q with | none => cases hk | some z => cases hk; rfl) (fun hk => by cases q with | none => rfl | some z => cases hk) hq2 hq3 hqb hP1 hP2 hP3 hPb) ?_)
  intro r h1 hq
  obtain ⟨S1, e1, e2, e3⟩ := hq
  rw [e1]
  by_cases h200 : 7 + H.length + (ntx (pz P)).length + (q.getD []).length ≤ 200
  · rw [if_pos h200] at e3
    obtain ⟨e3, e4, e5⟩ := e3
    rw [e3]
    refine ⟨am_nti _, ?_⟩
    have hf : fin H P q = some (h7 ++ H ++ ntx (pz P) ++ q.getD []) := if_pos h200
    have hl : (h7 ++ H ++ ntx (pz P) ++ q.getD []).length = 7 + H.length + (ntx (pz P)).length + (q.getD []).length := by simp [h7]; omega
    exact g_zreturn dc_M_readReference_329 rfl rfl ⟨S1, rfl, e2, by rw [hf]; exact ⟨rfl, e4, e5, by omega, btg_app (btg_app (btg_app btg_h7 hHb) (btg_ntx hPb)) hqb⟩⟩
  · rw [if_neg h200] at e3
    rw [e3]
    refine ⟨am_nti _, ?_⟩
    have hf : fin H P q = none := if_neg h200
    exact g_zreturn dc_M_readReference_329 rfl rfl ⟨S1, rfl, e2, by rw [hf]⟩
end MRR
