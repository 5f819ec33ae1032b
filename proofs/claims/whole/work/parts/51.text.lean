/-! ===== the methods that look through a text, told of texts ===== -/
/-- the text L stands from s on in the array at a -/
def tt (h : List va_E) (a s : Nat) (L : List Int32) : Prop := ∃ cap g, h[a]? = some (.inl (0, cap, .inl g)) ∧ tx g s L ∧ s + L.length ≤ cap ∧ cap < 2 ^ 30
def nev (v : Int32) : Int32 → Bool := fun x => decide (x ≠ v)
theorem nev_t {v x : Int32} (h : ¬ x = v) : nev v x = true := decide_eq_true h
theorem nev_f {v x : Int32} (h : x = v) : nev v x = false := decide_eq_false (fun h9 => h9 h)
section TXA
variable {X : am_X} {d : Nat} {h : List va_E} {v : Int32} {a s f t : Nat} {L : List Int32}
theorem v_M_seek {Q : Option Value → List va_E → Prop}  (hx : tt h a s L) (ht : t ≤ L.length) : ∀ n i : Nat, i + n = t → am_G X mt_M_seek d 3 [some (.ref a), some (.int (nI (s + f))), some (.int (nI (s + t))), some (.int v), some (.int (nI (s + (fw (nev v) L i t))))] [] h Q → am_G X mt_M_seek d 3 [some (.ref a), some (.int (nI (s + f))), some (.int (nI (s + t))), some (.int v), some (.int (nI (s + i)))] [] h Q
  | 0, i, e, K => by
    have e1 : fw (nev v) L i t = i := fw_0 (by omega)
    rw [e1] at K
    exact K
  | n + 1, i, e, K => by
    by_cases hp : (nev v) (gx L i) = true
    · rw [fw_t (by omega) hp] at K
      have hx0 := hx
      obtain ⟨cap, g, ha, hT, hs, hc⟩ := hx
      refine g_iload (pc := 3) dc_M_seek_3 rfl ?_
      refine g_iload_n (pc := 5) dc_M_seek_5 rfl ?_
      refine q_icmp_ge (pc := 6) (tgt := 23) (s + i) (s + t) dc_M_seek_6 (by omega) (by omega) rfl (fun hc => absurd hc (by omega)) (fun hc6 => ?_)
      refine g_aload_n (pc := 9) dc_M_seek_9 rfl ?_
      refine g_iload (pc := 10) dc_M_seek_10 rfl ?_
      refine q_tx (pc := 12) i dc_M_seek_12 ha hT hs (by omega) hc ?_
      refine g_iload_n (pc := 13) dc_M_seek_13 rfl ?_
      refine g_icmp_eq (pc := 14) (tgt := 23) dc_M_seek_14 rfl (fun hc14 => ?_) (fun hc14 => ?_)
      · exact absurd hp (by simp [nev, hc6, hc14])
      · refine g_iinc (pc := 17) (v := (nI (s + (i + 1)))) dc_M_seek_17 rfl (q_as s i 1) (by decide) ?_
        refine g_goto (pc := 20) (tgt := 3) dc_M_seek_20 rfl ?_
        exact v_M_seek hx0 ht n (i + 1) (by omega) K
    · rw [fw_f hp] at K
      exact K
theorem t_M_seek (hx : tt h a s L) (hft : f ≤ t) (ht : t ≤ L.length) : am_C X mt_M_seek d [.ref a, .int (nI (s + f)), .int (nI (s + t)), .int v] h (fun r h1 => r = some (.int (nI (s + fw (nev v) L f t))) ∧ h1 = h) := by
  show am_G X mt_M_seek d 0 [some (.ref a), some (.int (nI (s + f))), some (.int (nI (s + t))), some (.int v), none] [] h _
  have hb := fw_bd (p := nev v) (L := L) hft
  refine g_iload_n (pc := 0) dc_M_seek_0 rfl ?_
  refine g_istore (pc := 1) dc_M_seek_1 (by decide) ?_
  refine v_M_seek hx ht (t - f) f (by omega) ?_
  obtain ⟨cap, g, ha, hT, hs, hc⟩ := hx
  have ho := fw_out (p := nev v) (L := L) (f := f) (t := t)
  refine g_iload (pc := 3) dc_M_seek_3 rfl ?_
  refine g_iload_n (pc := 5) dc_M_seek_5 rfl ?_
  refine q_icmp_ge (pc := 6) (tgt := 23) (s + (fw (nev v) L f t)) (s + t) dc_M_seek_6 (by omega) (by omega) rfl (fun hc6 => ?_) (fun hc6 => ?_)
  · refine g_iload (pc := 23) dc_M_seek_23 rfl ?_
    exact g_ireturn dc_M_seek_25 rfl ⟨rfl, rfl⟩
  · refine g_aload_n (pc := 9) dc_M_seek_9 rfl ?_
    refine g_iload (pc := 10) dc_M_seek_10 rfl ?_
    refine q_tx (pc := 12) (fw (nev v) L f t) dc_M_seek_12 ha hT hs (by omega) hc ?_
    refine g_iload_n (pc := 13) dc_M_seek_13 rfl ?_
    refine g_icmp_eq (pc := 14) (tgt := 23) dc_M_seek_14 rfl (fun hc14 => ?_) (fun hc => absurd hc (fun h9 => absurd (ho (by omega)) (by rw [nev_t h9]; decide)))
    refine g_iload (pc := 23) dc_M_seek_23 rfl ?_
    exact g_ireturn dc_M_seek_25 rfl ⟨rfl, rfl⟩
theorem v_W_indexOf {Q : Option Value → List va_E → Prop}  (hx : tt h a s L) (ht : t ≤ L.length) : ∀ n i : Nat, i + n = t → am_G X mt_W_indexOf d 3 [some (.ref a), some (.int v), some (.int (nI (s + f))), some (.int (nI (s + t))), some (.int (nI (s + (fw (nev v) L i t))))] [] h Q → am_G X mt_W_indexOf d 3 [some (.ref a), some (.int v), some (.int (nI (s + f))), some (.int (nI (s + t))), some (.int (nI (s + i)))] [] h Q
  | 0, i, e, K => by
    have e1 : fw (nev v) L i t = i := fw_0 (by omega)
    rw [e1] at K
    exact K
  | n + 1, i, e, K => by
    by_cases hp : (nev v) (gx L i) = true
    · rw [fw_t (by omega) hp] at K
      have hx0 := hx
      obtain ⟨cap, g, ha, hT, hs, hc⟩ := hx
      refine g_iload (pc := 3) dc_W_indexOf_3 rfl ?_
      refine g_iload_n (pc := 5) dc_W_indexOf_5 rfl ?_
      refine q_icmp_ge (pc := 6) (tgt := 23) (s + i) (s + t) dc_W_indexOf_6 (by omega) (by omega) rfl (fun hc => absurd hc (by omega)) (fun hc6 => ?_)
      refine g_aload_n (pc := 9) dc_W_indexOf_9 rfl ?_
      refine g_iload (pc := 10) dc_W_indexOf_10 rfl ?_
      refine q_tx (pc := 12) i dc_W_indexOf_12 ha hT hs (by omega) hc ?_
      refine g_iload_n (pc := 13) dc_W_indexOf_13 rfl ?_
      refine g_icmp_eq (pc := 14) (tgt := 23) dc_W_indexOf_14 rfl (fun hc14 => ?_) (fun hc14 => ?_)
      · exact absurd hp (by simp [nev, hc6, hc14])
      · refine g_iinc (pc := 17) (v := (nI (s + (i + 1)))) dc_W_indexOf_17 rfl (q_as s i 1) (by decide) ?_
        refine g_goto (pc := 20) (tgt := 3) dc_W_indexOf_20 rfl ?_
        exact v_W_indexOf hx0 ht n (i + 1) (by omega) K
    · rw [fw_f hp] at K
      exact K
theorem t_W_indexOf (hx : tt h a s L) (hft : f ≤ t) (ht : t ≤ L.length) : am_C X mt_W_indexOf d [.ref a, .int v, .int (nI (s + f)), .int (nI (s + t))] h (fun r h1 => r = some (.int (nI (s + fw (nev v) L f t))) ∧ h1 = h) := by
  show am_G X mt_W_indexOf d 0 [some (.ref a), some (.int v), some (.int (nI (s + f))), some (.int (nI (s + t))), none] [] h _
  have hb := fw_bd (p := nev v) (L := L) hft
  refine g_iload_n (pc := 0) dc_W_indexOf_0 rfl ?_
  refine g_istore (pc := 1) dc_W_indexOf_1 (by decide) ?_
  refine v_W_indexOf hx ht (t - f) f (by omega) ?_
  obtain ⟨cap, g, ha, hT, hs, hc⟩ := hx
  have ho := fw_out (p := nev v) (L := L) (f := f) (t := t)
  refine g_iload (pc := 3) dc_W_indexOf_3 rfl ?_
  refine g_iload_n (pc := 5) dc_W_indexOf_5 rfl ?_
  refine q_icmp_ge (pc := 6) (tgt := 23) (s + (fw (nev v) L f t)) (s + t) dc_W_indexOf_6 (by omega) (by omega) rfl (fun hc6 => ?_) (fun hc6 => ?_)
  · refine g_iload (pc := 23) dc_W_indexOf_23 rfl ?_
    exact g_ireturn dc_W_indexOf_25 rfl ⟨rfl, rfl⟩
  · refine g_aload_n (pc := 9) dc_W_indexOf_9 rfl ?_
    refine g_iload (pc := 10) dc_W_indexOf_10 rfl ?_
    refine q_tx (pc := 12) (fw (nev v) L f t) dc_W_indexOf_12 ha hT hs (by omega) hc ?_
    refine g_iload_n (pc := 13) dc_W_indexOf_13 rfl ?_
    refine g_icmp_eq (pc := 14) (tgt := 23) dc_W_indexOf_14 rfl (fun hc14 => ?_) (fun hc => absurd hc (fun h9 => absurd (ho (by omega)) (by rw [nev_t h9]; decide)))
    refine g_iload (pc := 23) dc_W_indexOf_23 rfl ?_
    exact g_ireturn dc_W_indexOf_25 rfl ⟨rfl, rfl⟩
theorem v_W_trimmedFrom {Q : Option Value → List va_E → Prop}  (hx : tt h a s L) (ht : t ≤ L.length) : ∀ n i : Nat, i + n = t → am_G X mt_W_trimmedFrom (d + 1) 2 [some (.ref a), some (.int (nI (s + f))), some (.int (nI (s + t))), some (.int (nI (s + (fw isBl L i t))))] [] h Q → am_G X mt_W_trimmedFrom (d + 1) 2 [some (.ref a), some (.int (nI (s + f))), some (.int (nI (s + t))), some (.int (nI (s + i)))] [] h Q
  | 0, i, e, K => by
    have e1 : fw isBl L i t = i := fw_0 (by omega)
    rw [e1] at K
    exact K
  | n + 1, i, e, K => by
    by_cases hp : isBl (gx L i) = true
    · rw [fw_t (by omega) hp] at K
      have hx0 := hx
      obtain ⟨cap, g, ha, hT, hs, hc⟩ := hx
      refine g_iload_n (pc := 2) dc_W_trimmedFrom_2 rfl ?_
      refine g_iload_n (pc := 3) dc_W_trimmedFrom_3 rfl ?_
      refine q_icmp_ge (pc := 4) (tgt := 22) (s + i) (s + t) dc_W_trimmedFrom_4 (by omega) (by omega) rfl (fun hc => absurd hc (by omega)) (fun hc4 => ?_)
      refine g_aload_n (pc := 7) dc_W_trimmedFrom_7 rfl ?_
      refine g_iload_n (pc := 8) dc_W_trimmedFrom_8 rfl ?_
      refine q_tx (pc := 9) i dc_W_trimmedFrom_9 ha hT hs (by omega) hc ?_
      refine g_s1 (pc := 10) (M' := mt_W_isBlank) dc_W_trimmedFrom_10 mo_W_isBlank st_W_isBlank ln_W_305 (Nat.le_of_ble_eq_true rfl) (Nat.le_of_ble_eq_true rfl) (am_G.mono (c_W_isBlank (v := (gx L i))) ?_)
      intro r h1 hq
      rw [hq.1, hq.2]
      clear hq h1 r
      refine ⟨am_nti _, ?_⟩
      refine q_ifb_eq (pc := 13) (tgt := 22) dc_W_trimmedFrom_13 rfl (fun hc13 => ?_) (fun hc13 => ?_)
      · exact absurd hp (by simp [hc4, hc13])
      · refine g_iinc (pc := 16) (v := (nI (s + (i + 1)))) dc_W_trimmedFrom_16 rfl (q_as s i 1) (by decide) ?_
        refine g_goto (pc := 19) (tgt := 2) dc_W_trimmedFrom_19 rfl ?_
        exact v_W_trimmedFrom hx0 ht n (i + 1) (by omega) K
    · rw [fw_f hp] at K
      exact K
theorem t_W_trimmedFrom (hx : tt h a s L) (hft : f ≤ t) (ht : t ≤ L.length) : am_C X mt_W_trimmedFrom (d + 1) [.ref a, .int (nI (s + f)), .int (nI (s + t))] h (fun r h1 => r = some (.int (nI (s + fw isBl L f t))) ∧ h1 = h) := by
  show am_G X mt_W_trimmedFrom (d + 1) 0 [some (.ref a), some (.int (nI (s + f))), some (.int (nI (s + t))), none] [] h _
  have hb := fw_bd (p := isBl) (L := L) hft
  refine g_iload_n (pc := 0) dc_W_trimmedFrom_0 rfl ?_
  refine g_istore_n (pc := 1) dc_W_trimmedFrom_1 (by decide) ?_
  refine v_W_trimmedFrom hx ht (t - f) f (by omega) ?_
  obtain ⟨cap, g, ha, hT, hs, hc⟩ := hx
  have ho := fw_out (p := isBl) (L := L) (f := f) (t := t)
  refine g_iload_n (pc := 2) dc_W_trimmedFrom_2 rfl ?_
  refine g_iload_n (pc := 3) dc_W_trimmedFrom_3 rfl ?_
  refine q_icmp_ge (pc := 4) (tgt := 22) (s + (fw isBl L f t)) (s + t) dc_W_trimmedFrom_4 (by omega) (by omega) rfl (fun hc4 => ?_) (fun hc4 => ?_)
  · refine g_iload_n (pc := 22) dc_W_trimmedFrom_22 rfl ?_
    exact g_ireturn dc_W_trimmedFrom_23 rfl ⟨rfl, rfl⟩
  · refine g_aload_n (pc := 7) dc_W_trimmedFrom_7 rfl ?_
    refine g_iload_n (pc := 8) dc_W_trimmedFrom_8 rfl ?_
    refine q_tx (pc := 9) (fw isBl L f t) dc_W_trimmedFrom_9 ha hT hs (by omega) hc ?_
    refine g_s1 (pc := 10) (M' := mt_W_isBlank) dc_W_trimmedFrom_10 mo_W_isBlank st_W_isBlank ln_W_305 (Nat.le_of_ble_eq_true rfl) (Nat.le_of_ble_eq_true rfl) (am_G.mono (c_W_isBlank (v := (gx L (fw isBl L f t)))) ?_)
    intro r h1 hq
    rw [hq.1, hq.2]
    clear hq h1 r
    refine ⟨am_nti _, ?_⟩
    refine q_ifb_eq (pc := 13) (tgt := 22) dc_W_trimmedFrom_13 rfl (fun hc13 => ?_) (fun hc => absurd hc (by rw [ho (by omega)]; decide))
    refine g_iload_n (pc := 22) dc_W_trimmedFrom_22 rfl ?_
    exact g_ireturn dc_W_trimmedFrom_23 rfl ⟨rfl, rfl⟩
theorem bw_0 {p : Int32 → Bool} {L : List Int32} {f t : Nat} (h : t ≤ f) : bw p L f t = f := by unfold bw; rw [Nat.sub_eq_zero_of_le h]; rfl
theorem bw_t {p : Int32 → Bool} {L : List Int32} {f t : Nat} (h : f ≤ t) (hp : p (gx L t) = true) : bw p L f (t + 1) = bw p L f t := by
  unfold bw
  rw [show t + 1 - f = (t - f) + 1 by omega]
  show (if p (gx L (f + (t - f))) = true then bwd p L f (t - f) else _) = _
  rw [show f + (t - f) = t by omega, if_pos hp]
theorem bw_f {p : Int32 → Bool} {L : List Int32} {f t : Nat} (h : f ≤ t) (hp : ¬ p (gx L t) = true) : bw p L f (t + 1) = t + 1 := by
  unfold bw
  rw [show t + 1 - f = (t - f) + 1 by omega]
  show (if p (gx L (f + (t - f))) = true then bwd p L f (t - f) else _) = _
  rw [show f + (t - f) = t by omega, if_neg hp]
  omega
theorem bw_out {p : Int32 → Bool} {L : List Int32} {f : Nat} : ∀ n : Nat, f < bwd p L f n → p (gx L (bwd p L f n - 1)) = false
  | 0, h => absurd h (by show ¬ f < f; omega)
  | n + 1, h => by
    by_cases hp : p (gx L (f + n)) = true
    · have e : bwd p L f (n + 1) = bwd p L f n := if_pos hp
      rw [e] at h ⊢
      exact bw_out n h
    · have e : bwd p L f (n + 1) = f + (n + 1) := if_neg hp
      rw [e, show f + (n + 1) - 1 = f + n by omega]
      cases hq : p (gx L (f + n)) with
      | true => exact absurd hq hp
      | false => rfl
theorem v_W_trimmedTo {Q : Option Value → List va_E → Prop} (hx : tt h a s L) : ∀ n i : Nat, i = f + n → i ≤ L.length → am_G X mt_W_trimmedTo (d + 1) 2 [some (.ref a), some (.int (nI (s + f))), some (.int (nI (s + t))), some (.int (nI (s + (bw isBl L f i))))] [] h Q → am_G X mt_W_trimmedTo (d + 1) 2 [some (.ref a), some (.int (nI (s + f))), some (.int (nI (s + t))), some (.int (nI (s + i)))] [] h Q
  | 0, i, e, hl, K => by
    have e1 : bw isBl L f i = i := (bw_0 (by omega)).trans (by omega)
    rw [e1] at K
    exact K
  | n + 1, i, e, hl, K => by
    obtain ⟨j, rfl⟩ : ∃ j, i = j + 1 := ⟨i - 1, by omega⟩
    by_cases hp : isBl (gx L j) = true
    · rw [bw_t (by omega) hp] at K
      have hx0 := hx
      obtain ⟨cap, g, ha, hT, hs, hc⟩ := hx
      refine g_iload_n (pc := 2) dc_W_trimmedTo_2 rfl ?_
      refine g_iload_n (pc := 3) dc_W_trimmedTo_3 rfl ?_
      refine q_icmp_le (pc := 4) (tgt := 24) (s + (j + 1)) (s + f) dc_W_trimmedTo_4 (by omega) (by omega) rfl (fun hc => absurd hc (by omega)) (fun hc4 => ?_)
      refine g_aload_n (pc := 7) dc_W_trimmedTo_7 rfl ?_
      refine g_iload_n (pc := 8) dc_W_trimmedTo_8 rfl ?_
      refine g_iconst (pc := 9) (v := 1) dc_W_trimmedTo_9 rfl ?_
      refine g_isub (pc := 10) (v := (nI (s + j))) dc_W_trimmedTo_10 (q_sn (s := s) (a := j + 1) (b := 1) (by omega)) ?_
      refine q_tx (pc := 11) j dc_W_trimmedTo_11 ha hT hs (by omega) hc ?_
      refine g_s1 (pc := 12) (M' := mt_W_isBlank) dc_W_trimmedTo_12 mo_W_isBlank st_W_isBlank ln_W_305 (Nat.le_of_ble_eq_true rfl) (Nat.le_of_ble_eq_true rfl) (am_G.mono (c_W_isBlank (v := (gx L j))) ?_)
      intro r h1 hq
      rw [hq.1, hq.2]
      clear hq h1 r
      refine ⟨am_nti _, ?_⟩
      refine q_ifb_eq (pc := 15) (tgt := 24) dc_W_trimmedTo_15 rfl (fun hc => absurd hc (by rw [hp]; decide)) (fun hc15 => ?_)
      refine g_iinc (pc := 18) (v := (nI (s + j))) dc_W_trimmedTo_18 rfl (q_sm1 (s := s) (a := j + 1) (by omega)) (by decide) ?_
      refine g_goto (pc := 21) (tgt := 2) dc_W_trimmedTo_21 rfl ?_
      exact v_W_trimmedTo hx0 n j (by omega) (by omega) K
    · rw [bw_f (by omega) hp] at K
      exact K
theorem t_W_trimmedTo (hx : tt h a s L) (hft : f ≤ t) (ht : t ≤ L.length) : am_C X mt_W_trimmedTo (d + 1) [.ref a, .int (nI (s + f)), .int (nI (s + t))] h (fun r h1 => r = some (.int (nI (s + bw isBl L f t))) ∧ h1 = h) := by
  show am_G X mt_W_trimmedTo (d + 1) 0 [some (.ref a), some (.int (nI (s + f))), some (.int (nI (s + t))), none] [] h _
  have hb := bw_bd (p := isBl) (L := L) hft
  refine g_iload_n (pc := 0) dc_W_trimmedTo_0 rfl ?_
  refine g_istore_n (pc := 1) dc_W_trimmedTo_1 (by decide) ?_
  refine v_W_trimmedTo hx (t - f) t (by omega) ht ?_
  obtain ⟨cap, g, ha, hT, hs, hc⟩ := hx
  have ho : f < bw isBl L f t → isBl (gx L (bw isBl L f t - 1)) = false := bw_out (p := isBl) (L := L) (f := f) (t - f)
  refine g_iload_n (pc := 2) dc_W_trimmedTo_2 rfl ?_
  refine g_iload_n (pc := 3) dc_W_trimmedTo_3 rfl ?_
  refine q_icmp_le (pc := 4) (tgt := 24) (s + (bw isBl L f t)) (s + f) dc_W_trimmedTo_4 (by omega) (by omega) rfl (fun hc4 => ?_) (fun hc4 => ?_)
  · refine g_iload_n (pc := 24) dc_W_trimmedTo_24 rfl ?_
    exact g_ireturn dc_W_trimmedTo_25 rfl ⟨rfl, rfl⟩
  · refine g_aload_n (pc := 7) dc_W_trimmedTo_7 rfl ?_
    refine g_iload_n (pc := 8) dc_W_trimmedTo_8 rfl ?_
    refine g_iconst (pc := 9) (v := 1) dc_W_trimmedTo_9 rfl ?_
    refine g_isub (pc := 10) (v := (nI (s + (bw isBl L f t - 1)))) dc_W_trimmedTo_10 (q_sn (s := s) (a := bw isBl L f t) (b := 1) (by omega)) ?_
    refine q_tx (pc := 11) (bw isBl L f t - 1) dc_W_trimmedTo_11 ha hT hs (by omega) hc ?_
    refine g_s1 (pc := 12) (M' := mt_W_isBlank) dc_W_trimmedTo_12 mo_W_isBlank st_W_isBlank ln_W_305 (Nat.le_of_ble_eq_true rfl) (Nat.le_of_ble_eq_true rfl) (am_G.mono (c_W_isBlank (v := (gx L (bw isBl L f t - 1)))) ?_)
    intro r h1 hq
    rw [hq.1, hq.2]
    clear hq h1 r
    refine ⟨am_nti _, ?_⟩
    refine q_ifb_eq (pc := 15) (tgt := 24) dc_W_trimmedTo_15 rfl (fun hc15 => ?_) (fun hc => absurd hc (by rw [ho (by omega)]; decide))
    refine g_iload_n (pc := 24) dc_W_trimmedTo_24 rfl ?_
    exact g_ireturn dc_W_trimmedTo_25 rfl ⟨rfl, rfl⟩
end TXA
theorem t0_M_seek {X : am_X} {d : Nat} {h : List va_E} {v : Int32} {a f t : Nat} {L : List Int32} (hx : tt h a 0 L) (hft : f ≤ t) (ht : t ≤ L.length) : am_C X mt_M_seek d [.ref a, .int (nI f), .int (nI t), .int v] h (fun r h1 => r = some (.int (nI (fw (nev v) L f t))) ∧ h1 = h) := by
  have h9 := t_M_seek (X := X) (d := d) (v := v) hx hft ht
  simp only [Nat.zero_add] at h9
  exact h9
theorem t0_W_indexOf {X : am_X} {d : Nat} {h : List va_E} {v : Int32} {a f t : Nat} {L : List Int32} (hx : tt h a 0 L) (hft : f ≤ t) (ht : t ≤ L.length) : am_C X mt_W_indexOf d [.ref a, .int v, .int (nI f), .int (nI t)] h (fun r h1 => r = some (.int (nI (fw (nev v) L f t))) ∧ h1 = h) := by
  have h9 := t_W_indexOf (X := X) (d := d) (v := v) hx hft ht
  simp only [Nat.zero_add] at h9
  exact h9
theorem t0_W_trimmedFrom {X : am_X} {d : Nat} {h : List va_E} {v : Int32} {a f t : Nat} {L : List Int32} (hx : tt h a 0 L) (hft : f ≤ t) (ht : t ≤ L.length) : am_C X mt_W_trimmedFrom (d + 1) [.ref a, .int (nI f), .int (nI t)] h (fun r h1 => r = some (.int (nI (fw isBl L f t))) ∧ h1 = h) := by
  have h9 := t_W_trimmedFrom (X := X) (d := d)  hx hft ht
  simp only [Nat.zero_add] at h9
  exact h9
theorem t0_W_trimmedTo {X : am_X} {d : Nat} {h : List va_E} {v : Int32} {a f t : Nat} {L : List Int32} (hx : tt h a 0 L) (hft : f ≤ t) (ht : t ≤ L.length) : am_C X mt_W_trimmedTo (d + 1) [.ref a, .int (nI f), .int (nI t)] h (fun r h1 => r = some (.int (nI (bw isBl L f t))) ∧ h1 = h) := by
  have h9 := t_W_trimmedTo (X := X) (d := d)  hx hft ht
  simp only [Nat.zero_add] at h9
  exact h9
