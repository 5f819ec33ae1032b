/-! ===== each % with its two in the one form: unfold, putUnescaped ===== -/
theorem q_rem {a d : Nat} (ha : a < 2 ^ 31) (h0 : 0 < d) (hd : d < 2 ^ 31) : nI a - nI a / nI d * nI d = nI (a % d) := by
  rw [pk_div ha h0 hd, pk_mul, pk_sub (Nat.div_mul_le_self a d)]
  exact congrArg nI (Nat.sub_eq_of_eq_add (Nat.mod_add_div' a d).symm)
theorem set_same {h : List va_E} {b : Nat} {c : va_E} (hb : h[b]? = some c) : h.set b c = h := by
  apply List.ext_getElem?
  intro i
  by_cases e : b = i
  · subst e
    rw [List.getElem?_set_self (am_lt hb), hb]
  · rw [List.getElem?_set_ne e]
theorem tt_set {h : List va_E} {a b s : Nat} {c : va_E} {L : List Int32} (h1 : tt h a s L) (hba : b ≠ a) : tt (h.set b c) a s L := by
  obtain ⟨cap, g, ha, r⟩ := h1
  exact ⟨cap, g, am_sn hba ha, r⟩
theorem wrt_cons (g : Nat → Int32) (n : Nat) (v : Int32) (R : List Int32) : wrt (upd g n v) (n + 1) R = wrt g n (v :: R) := by
  funext j
  unfold wrt upd
  rw [List.length_cons]
  by_cases h1 : j = n
  · subst h1
    rw [if_neg (by omega), if_pos rfl, if_pos (by omega), Nat.sub_self]
    rfl
  · by_cases h2 : n + 1 ≤ j ∧ j < n + 1 + R.length
    · rw [if_pos h2, if_pos (by omega), show j - n = (j - (n + 1)) + 1 by omega]
      rfl
    · rw [if_neg h2, if_neg h1, if_neg (by omega)]
/-- the bytes that one place gives, and how far it goes -/
def us (L : List Int32) (f t : Nat) : List Int32 := match esx L f t with
  | some v => if plB (nI v) = true then [nI v] else [37, ch 6 (v / 16), ch 6 (v % 16)]
  | none => [gx L f]
def ua (L : List Int32) (f t : Nat) : Nat := match esx L f t with
  | some _ => 3
  | none => 1
def unf (L : List Int32) : Nat → Nat → Nat → List Int32
  | 0, _, _ => []
  | n + 1, f, t => if f < t then us L f t ++ unf L n (f + ua L f t) t else []
def uf (L : List Int32) (f t : Nat) : List Int32 := unf L (t - f) f t
section UF
variable {L : List Int32} {f t v : Nat}
theorem us_n (h : esx L f t = none) : us L f t = [gx L f] := by unfold us; rw [h]
theorem us_p (h : esx L f t = some v) (hp : plB (nI v) = true) : us L f t = [nI v] := by unfold us; rw [h]; exact if_pos hp
theorem us_q (h : esx L f t = some v) (hp : plB (nI v) = false) : us L f t = [37, ch 6 (v / 16), ch 6 (v % 16)] := by unfold us; rw [h]; exact if_neg (by rw [hp]; decide)
theorem ua_n (h : esx L f t = none) : ua L f t = 1 := by unfold ua; rw [h]
theorem ua_s (h : esx L f t = some v) : ua L f t = 3 := by unfold ua; rw [h]
theorem ua_le (h : f < t) : f + ua L f t ≤ t ∧ 1 ≤ ua L f t := by
  cases e : esx L f t with
  | none => rw [ua_n e]; omega
  | some v => rw [ua_s e]; have := (esx_i e).2.1; omega
theorem us_len : (us L f t).length ≤ ua L f t := by
  cases e : esx L f t with
  | none => rw [ua_n e, us_n e]; exact Nat.le_refl _
  | some v =>
    rw [ua_s e]
    cases hp : plB (nI v) with
    | true => rw [us_p e hp]; show 1 ≤ 3; omega
    | false => rw [us_q e hp]; exact Nat.le_refl _
theorem unf_stop : ∀ n : Nat, t ≤ f → unf L n f t = []
  | 0, _ => rfl
  | n + 1, h => if_neg (by omega)
theorem unf_more : ∀ (n m f : Nat), t - f ≤ n → t - f ≤ m → unf L n f t = unf L m f t
  | 0, m, f, h1, h2 => by rw [unf_stop 0 (by omega), unf_stop m (by omega)]
  | n + 1, 0, f, h1, h2 => by rw [unf_stop 0 (by omega), unf_stop (n + 1) (by omega)]
  | n + 1, m + 1, f, h1, h2 => by
    by_cases h : f < t
    · show (if f < t then us L f t ++ unf L n (f + ua L f t) t else []) = (if f < t then us L f t ++ unf L m (f + ua L f t) t else [])
      have := ua_le (L := L) h
      rw [if_pos h, if_pos h, unf_more n m (f + ua L f t) (by omega) (by omega)]
    · rw [unf_stop _ (by omega), unf_stop _ (by omega)]
theorem uf_nil (h : t ≤ f) : uf L f t = [] := unf_stop _ h
theorem uf_step (h : f < t) : uf L f t = us L f t ++ uf L (f + ua L f t) t := by
  unfold uf
  obtain ⟨n, hn⟩ : ∃ n, t - f = n + 1 := ⟨t - f - 1, by omega⟩
  have := ua_le (L := L) h
  rw [hn]
  show (if f < t then us L f t ++ unf L n (f + ua L f t) t else []) = _
  rw [if_pos h, unf_more n (t - (f + ua L f t)) (f + ua L f t) (by omega) (by omega)]
theorem uf_len : ∀ (n f : Nat), t - f ≤ n → (uf L f t).length ≤ t - f
  | 0, f, h => by rw [uf_nil (by omega)]; exact Nat.zero_le _
  | n + 1, f, h => by
    by_cases hf : f < t
    · have h1 := ua_le (L := L) hf
      have h2 := uf_len n (f + ua L f t) (by omega)
      have h3 := us_len (L := L) (f := f) (t := t)
      rw [uf_step hf, List.length_append]
      omega
    · rw [uf_nil (by omega)]; exact Nat.zero_le _
end UF
theorem plB_all : ∀ j, j < 256 → plB (nI j) = true → j ≤ 126 := by decide +kernel
theorem up_all : ∀ j, j < 128 → ∀ k, k < 16 → hx (nI j) = some k → (isLe (nI j) = true → (toLo (nI j) - 32).toInt8.toInt32 = ch 6 k) ∧ (isLe (nI j) = false → (nI j).toInt8.toInt32 = ch 6 k) := by decide +kernel
theorem hx_rng {x : Int32} {k : Nat} (h : hx x = some k) : 48 ≤ x.toInt ∧ x.toInt ≤ 102 := by
  unfold hx at h
  split at h
  · omega
  · split at h
    · omega
    · split at h
      · omega
      · cases h
theorem up_l {x : Int32} {k : Nat} (hl : isLe x = true) (h : hx x = some k) : (toLo x - 32).toInt8.toInt32 = ch 6 k := by
  have hr := hx_rng h
  have e := i_nat (v := x) (by omega)
  have hk := hx_lt h
  have hj : x.toInt.toNat < 128 := by omega
  generalize x.toInt.toNat = j at e hj
  subst e
  exact (up_all j hj k hk h).1 hl
theorem up_d {x : Int32} {k : Nat} (hl : isLe x = false) (h : hx x = some k) : x.toInt8.toInt32 = ch 6 k := by
  have hr := hx_rng h
  have e := i_nat (v := x) (by omega)
  have hk := hx_lt h
  have hj : x.toInt.toNat < 128 := by omega
  generalize x.toInt.toNat = j at e hj
  subst e
  exact (up_all j hj k hk h).2 hl
theorem bt_nI {j : Nat} (h : j < 128) : bt (nI j) := bt_iff.mpr (by rw [nI_toInt (by omega)]; omega)
theorem bt_ch {i k : Nat} (hi : i < 42) (hk : k < cln i) : bt (ch i k) := by
  have hok := ch_ok hi hk
  unfold chok at hok
  rw [Bool.and_eq_true, Bool.and_eq_true, decide_eq_true_eq, decide_eq_true_eq, decide_eq_true_eq] at hok
  exact bt_iff.mpr (by omega)
section UNF
variable {X : am_X} {d : Nat} {a b s f t cap2 p0 : Nat} {L : List Int32}
theorem l_M_unfold (hbt : ∀ j, bt (gx L j)) (hc2 : cap2 < 2 ^ 30) (ht : t ≤ L.length) (hba : b ≠ a) : ∀ (m i n : Nat) (g2 : Nat → Int32) (h : List va_E), t - i ≤ m → i ≤ t → tt h a s L → h[b]? = some (.inl (0, cap2, .inl g2)) → n + (t - i) ≤ cap2 → am_G X mt_M_unfold (d + 2) 7 [some (.ref a), some (.int (nI (s + f))), some (.int (nI (s + t))), some (.ref b), some (.int (nI p0)), some (.int (nI n)), some (.int (nI (s + i))), none, none] [] h (fun r h1 => r = some (.int (nI (n + (uf L i t).length))) ∧ h1 = h.set b (.inl (0, cap2, .inl (wrt g2 n (uf L i t)))))
  | 0, i, n, g2, h, hm, hi, hx, hb, hn => by
    obtain rfl : i = t := by omega
    rw [uf_nil (Nat.le_refl i), wrt_nil]
    have hx0 := hx
    obtain ⟨cap, g, ha, hT, hs, hc⟩ := hx
    refine g_iload (pc := 7) dc_M_unfold_7 rfl ?_
    refine g_iload_n (pc := 9) dc_M_unfold_9 rfl ?_
    refine q_icmp_ge (pc := 10) (tgt := 239) (s + i) (s + i) dc_M_unfold_10 (by omega) (by omega) rfl (fun hc10 => ?_) (fun hc => absurd hc (by omega))
    refine g_iload (pc := 239) dc_M_unfold_239 rfl ?_
    exact g_ireturn dc_M_unfold_241 rfl ⟨rfl, (set_same hb).symm⟩
  | m + 1, i, n, g2, h, hm, hi, hx, hb, hn => by
    by_cases hit : i < t
    · have hx0 := hx
      obtain ⟨cap, g, ha, hT, hs, hc⟩ := hx
      have hul := uf_len (L := L) (t := t) (t - i) i (Nat.le_refl _)
      have hst := uf_step (L := L) hit
      refine g_iload (pc := 7) dc_M_unfold_7 rfl ?_
      refine g_iload_n (pc := 9) dc_M_unfold_9 rfl ?_
      refine q_icmp_ge (pc := 10) (tgt := 239) (s + i) (s + t) dc_M_unfold_10 (by omega) (by omega) rfl (fun hc => absurd hc (by omega)) (fun hc10 => ?_)
      refine g_aload_n (pc := 13) dc_M_unfold_13 rfl ?_
      refine g_iload (pc := 14) dc_M_unfold_14 rfl ?_
      refine q_tx (pc := 16) i dc_M_unfold_16 ha hT hs (by omega) hc ?_
      refine g_bipush (pc := 17) (v := 37) dc_M_unfold_17 rfl ?_
      refine g_icmp_ne (pc := 19) (tgt := 58) dc_M_unfold_19 rfl (fun hc19 => ?_) (fun hc19 => ?_)
      · refine g_iconst (pc := 58) (v := 0) dc_M_unfold_58 rfl ?_
        have he : esx L i t = none := esx_n1 hc19
        rw [us_n he, ua_n he] at hst
        refine g_istore (pc := 59) dc_M_unfold_59 (by decide) ?_
        refine g_iload (pc := 61) dc_M_unfold_61 rfl ?_
        refine g_if_eq (pc := 63) (tgt := 91) dc_M_unfold_63 rfl (fun _ => ?_) (fun hc => absurd hc (by decide))
        refine g_iconst (pc := 91) (v := 0) dc_M_unfold_91 rfl ?_
        refine g_istore (pc := 92) dc_M_unfold_92 (by decide) ?_
        refine g_iload (pc := 94) dc_M_unfold_94 rfl ?_
        refine g_if_eq (pc := 96) (tgt := 199) dc_M_unfold_96 rfl (fun _ => ?_) (fun hc => absurd hc (by decide))
        refine g_aload_n (pc := 199) dc_M_unfold_199 rfl ?_
        refine g_iload (pc := 200) dc_M_unfold_200 rfl ?_
        refine g_iload (pc := 202) dc_M_unfold_202 rfl ?_
        refine g_if_eq (pc := 204) (tgt := 213) dc_M_unfold_204 rfl (fun _ => ?_) (fun hc => absurd hc (by decide))
        refine g_aload_n (pc := 213) dc_M_unfold_213 rfl ?_
        refine g_iload (pc := 214) dc_M_unfold_214 rfl ?_
        refine q_tx (pc := 216) i dc_M_unfold_216 ha hT hs (by omega) hc ?_
        refine q_bastore (pc := 217) n dc_M_unfold_217 hb (by omega) (by omega) ?_
        refine g_iinc (pc := 218) (v := (nI (n + 1))) dc_M_unfold_218 rfl (nI_add n 1) (by decide) ?_
        refine g_iload (pc := 221) dc_M_unfold_221 rfl ?_
        refine g_iload (pc := 223) dc_M_unfold_223 rfl ?_
        refine g_if_eq (pc := 225) (tgt := 232) dc_M_unfold_225 rfl (fun _ => ?_) (fun hc => absurd hc (by decide))
        refine g_iconst (pc := 232) (v := 1) dc_M_unfold_232 rfl ?_
        refine g_iadd (pc := 233) (v := (nI (s + (i + 1)))) dc_M_unfold_233 (q_as s i 1) ?_
        refine g_istore (pc := 234) dc_M_unfold_234 (by decide) ?_
        refine g_goto (pc := 236) (tgt := 7) dc_M_unfold_236 rfl ?_
        rw [nar_bt (hbt i)]
        refine am_wk (am_le_s (am_le_s (am_le_s (am_le_s (am_le_s (am_le_s (am_le_s (am_le_n (am_le_n am_le_0))))))))) ?_
        refine am_G.mono (l_M_unfold hbt hc2 ht hba m (i + 1) (n + 1) (upd g2 n (gx L i)) _ (by omega) (by omega) (tt_set hx0 hba) (am_se (am_lt hb)) (by omega)) (fun r h1 hq => ⟨?_, ?_⟩)
        · rw [hq.1, hst]; exact congrArg (fun z => some (Value.int (nI z))) (by rw [List.length_append]; show n + 1 + (uf L (i + 1) t).length = n + (1 + (uf L (i + 1) t).length); omega)
        · rw [hq.2, hst, List.set_set, wrt_cons]; rfl
      · refine g_iload (pc := 22) dc_M_unfold_22 rfl ?_
        refine g_iconst (pc := 24) (v := 2) dc_M_unfold_24 rfl ?_
        refine g_iadd (pc := 25) (v := (nI (s + (i + 2)))) dc_M_unfold_25 (q_as s i 2) ?_
        refine g_iload_n (pc := 26) dc_M_unfold_26 rfl ?_
        refine q_icmp_ge (pc := 27) (tgt := 58) (s + (i + 2)) (s + t) dc_M_unfold_27 (by omega) (by omega) rfl (fun hc27 => ?_) (fun hc27 => ?_)
        · refine g_iconst (pc := 58) (v := 0) dc_M_unfold_58 rfl ?_
          have he : esx L i t = none := esx_n2 (by omega)
          rw [us_n he, ua_n he] at hst
          refine g_istore (pc := 59) dc_M_unfold_59 (by decide) ?_
          refine g_iload (pc := 61) dc_M_unfold_61 rfl ?_
          refine g_if_eq (pc := 63) (tgt := 91) dc_M_unfold_63 rfl (fun _ => ?_) (fun hc => absurd hc (by decide))
          refine g_iconst (pc := 91) (v := 0) dc_M_unfold_91 rfl ?_
          refine g_istore (pc := 92) dc_M_unfold_92 (by decide) ?_
          refine g_iload (pc := 94) dc_M_unfold_94 rfl ?_
          refine g_if_eq (pc := 96) (tgt := 199) dc_M_unfold_96 rfl (fun _ => ?_) (fun hc => absurd hc (by decide))
          refine g_aload_n (pc := 199) dc_M_unfold_199 rfl ?_
          refine g_iload (pc := 200) dc_M_unfold_200 rfl ?_
          refine g_iload (pc := 202) dc_M_unfold_202 rfl ?_
          refine g_if_eq (pc := 204) (tgt := 213) dc_M_unfold_204 rfl (fun _ => ?_) (fun hc => absurd hc (by decide))
          refine g_aload_n (pc := 213) dc_M_unfold_213 rfl ?_
          refine g_iload (pc := 214) dc_M_unfold_214 rfl ?_
          refine q_tx (pc := 216) i dc_M_unfold_216 ha hT hs (by omega) hc ?_
          refine q_bastore (pc := 217) n dc_M_unfold_217 hb (by omega) (by omega) ?_
          refine g_iinc (pc := 218) (v := (nI (n + 1))) dc_M_unfold_218 rfl (nI_add n 1) (by decide) ?_
          refine g_iload (pc := 221) dc_M_unfold_221 rfl ?_
          refine g_iload (pc := 223) dc_M_unfold_223 rfl ?_
          refine g_if_eq (pc := 225) (tgt := 232) dc_M_unfold_225 rfl (fun _ => ?_) (fun hc => absurd hc (by decide))
          refine g_iconst (pc := 232) (v := 1) dc_M_unfold_232 rfl ?_
          refine g_iadd (pc := 233) (v := (nI (s + (i + 1)))) dc_M_unfold_233 (q_as s i 1) ?_
          refine g_istore (pc := 234) dc_M_unfold_234 (by decide) ?_
          refine g_goto (pc := 236) (tgt := 7) dc_M_unfold_236 rfl ?_
          rw [nar_bt (hbt i)]
          refine am_wk (am_le_s (am_le_s (am_le_s (am_le_s (am_le_s (am_le_s (am_le_s (am_le_n (am_le_n am_le_0))))))))) ?_
          refine am_G.mono (l_M_unfold hbt hc2 ht hba m (i + 1) (n + 1) (upd g2 n (gx L i)) _ (by omega) (by omega) (tt_set hx0 hba) (am_se (am_lt hb)) (by omega)) (fun r h1 hq => ⟨?_, ?_⟩)
          · rw [hq.1, hst]; exact congrArg (fun z => some (Value.int (nI z))) (by rw [List.length_append]; show n + 1 + (uf L (i + 1) t).length = n + (1 + (uf L (i + 1) t).length); omega)
          · rw [hq.2, hst, List.set_set, wrt_cons]; rfl
        · refine g_aload_n (pc := 30) dc_M_unfold_30 rfl ?_
          refine g_iload (pc := 31) dc_M_unfold_31 rfl ?_
          refine g_iconst (pc := 33) (v := 1) dc_M_unfold_33 rfl ?_
          refine g_iadd (pc := 34) (v := (nI (s + (i + 1)))) dc_M_unfold_34 (q_as s i 1) ?_
          refine q_tx (pc := 35) (i + 1) dc_M_unfold_35 ha hT hs (by omega) hc ?_
          refine g_s1 (pc := 36) (M' := mt_M_hex) dc_M_unfold_36 mo_M_hex st_M_hex ln_M_55 (Nat.le_of_ble_eq_true rfl) (Nat.le_of_ble_eq_true rfl) (am_G.mono (e_M_hex (v := (gx L (i + 1)))) ?_)
          intro r h1 hq
          rw [hq.1, hq.2]
          clear hq h1 r
          refine ⟨am_nti _, ?_⟩
          refine q_o_lt (pc := 39) (tgt := 58) dc_M_unfold_39 hx_b rfl (fun hc39 => ?_) (fun k39 hc39 => ?_)
          · refine g_iconst (pc := 58) (v := 0) dc_M_unfold_58 rfl ?_
            have he : esx L i t = none := esx_a hc39
            rw [us_n he, ua_n he] at hst
            refine g_istore (pc := 59) dc_M_unfold_59 (by decide) ?_
            refine g_iload (pc := 61) dc_M_unfold_61 rfl ?_
            refine g_if_eq (pc := 63) (tgt := 91) dc_M_unfold_63 rfl (fun _ => ?_) (fun hc => absurd hc (by decide))
            refine g_iconst (pc := 91) (v := 0) dc_M_unfold_91 rfl ?_
            refine g_istore (pc := 92) dc_M_unfold_92 (by decide) ?_
            refine g_iload (pc := 94) dc_M_unfold_94 rfl ?_
            refine g_if_eq (pc := 96) (tgt := 199) dc_M_unfold_96 rfl (fun _ => ?_) (fun hc => absurd hc (by decide))
            refine g_aload_n (pc := 199) dc_M_unfold_199 rfl ?_
            refine g_iload (pc := 200) dc_M_unfold_200 rfl ?_
            refine g_iload (pc := 202) dc_M_unfold_202 rfl ?_
            refine g_if_eq (pc := 204) (tgt := 213) dc_M_unfold_204 rfl (fun _ => ?_) (fun hc => absurd hc (by decide))
            refine g_aload_n (pc := 213) dc_M_unfold_213 rfl ?_
            refine g_iload (pc := 214) dc_M_unfold_214 rfl ?_
            refine q_tx (pc := 216) i dc_M_unfold_216 ha hT hs (by omega) hc ?_
            refine q_bastore (pc := 217) n dc_M_unfold_217 hb (by omega) (by omega) ?_
            refine g_iinc (pc := 218) (v := (nI (n + 1))) dc_M_unfold_218 rfl (nI_add n 1) (by decide) ?_
            refine g_iload (pc := 221) dc_M_unfold_221 rfl ?_
            refine g_iload (pc := 223) dc_M_unfold_223 rfl ?_
            refine g_if_eq (pc := 225) (tgt := 232) dc_M_unfold_225 rfl (fun _ => ?_) (fun hc => absurd hc (by decide))
            refine g_iconst (pc := 232) (v := 1) dc_M_unfold_232 rfl ?_
            refine g_iadd (pc := 233) (v := (nI (s + (i + 1)))) dc_M_unfold_233 (q_as s i 1) ?_
            refine g_istore (pc := 234) dc_M_unfold_234 (by decide) ?_
            refine g_goto (pc := 236) (tgt := 7) dc_M_unfold_236 rfl ?_
            rw [nar_bt (hbt i)]
            refine am_wk (am_le_s (am_le_s (am_le_s (am_le_s (am_le_s (am_le_s (am_le_s (am_le_n (am_le_n am_le_0))))))))) ?_
            refine am_G.mono (l_M_unfold hbt hc2 ht hba m (i + 1) (n + 1) (upd g2 n (gx L i)) _ (by omega) (by omega) (tt_set hx0 hba) (am_se (am_lt hb)) (by omega)) (fun r h1 hq => ⟨?_, ?_⟩)
            · rw [hq.1, hst]; exact congrArg (fun z => some (Value.int (nI z))) (by rw [List.length_append]; show n + 1 + (uf L (i + 1) t).length = n + (1 + (uf L (i + 1) t).length); omega)
            · rw [hq.2, hst, List.set_set, wrt_cons]; rfl
          · have hk39 := hx_b k39 hc39
            refine g_aload_n (pc := 42) dc_M_unfold_42 rfl ?_
            refine g_iload (pc := 43) dc_M_unfold_43 rfl ?_
            refine g_iconst (pc := 45) (v := 2) dc_M_unfold_45 rfl ?_
            refine g_iadd (pc := 46) (v := (nI (s + (i + 2)))) dc_M_unfold_46 (q_as s i 2) ?_
            refine q_tx (pc := 47) (i + 2) dc_M_unfold_47 ha hT hs (by omega) hc ?_
            refine g_s1 (pc := 48) (M' := mt_M_hex) dc_M_unfold_48 mo_M_hex st_M_hex ln_M_55 (Nat.le_of_ble_eq_true rfl) (Nat.le_of_ble_eq_true rfl) (am_G.mono (e_M_hex (v := (gx L (i + 2)))) ?_)
            intro r h1 hq
            rw [hq.1, hq.2]
            clear hq h1 r
            refine ⟨am_nti _, ?_⟩
            refine q_o_lt (pc := 51) (tgt := 58) dc_M_unfold_51 hx_b rfl (fun hc51 => ?_) (fun k51 hc51 => ?_)
            · refine g_iconst (pc := 58) (v := 0) dc_M_unfold_58 rfl ?_
              have he : esx L i t = none := esx_b' hc51
              rw [us_n he, ua_n he] at hst
              refine g_istore (pc := 59) dc_M_unfold_59 (by decide) ?_
              refine g_iload (pc := 61) dc_M_unfold_61 rfl ?_
              refine g_if_eq (pc := 63) (tgt := 91) dc_M_unfold_63 rfl (fun _ => ?_) (fun hc => absurd hc (by decide))
              refine g_iconst (pc := 91) (v := 0) dc_M_unfold_91 rfl ?_
              refine g_istore (pc := 92) dc_M_unfold_92 (by decide) ?_
              refine g_iload (pc := 94) dc_M_unfold_94 rfl ?_
              refine g_if_eq (pc := 96) (tgt := 199) dc_M_unfold_96 rfl (fun _ => ?_) (fun hc => absurd hc (by decide))
              refine g_aload_n (pc := 199) dc_M_unfold_199 rfl ?_
              refine g_iload (pc := 200) dc_M_unfold_200 rfl ?_
              refine g_iload (pc := 202) dc_M_unfold_202 rfl ?_
              refine g_if_eq (pc := 204) (tgt := 213) dc_M_unfold_204 rfl (fun _ => ?_) (fun hc => absurd hc (by decide))
              refine g_aload_n (pc := 213) dc_M_unfold_213 rfl ?_
              refine g_iload (pc := 214) dc_M_unfold_214 rfl ?_
              refine q_tx (pc := 216) i dc_M_unfold_216 ha hT hs (by omega) hc ?_
              refine q_bastore (pc := 217) n dc_M_unfold_217 hb (by omega) (by omega) ?_
              refine g_iinc (pc := 218) (v := (nI (n + 1))) dc_M_unfold_218 rfl (nI_add n 1) (by decide) ?_
              refine g_iload (pc := 221) dc_M_unfold_221 rfl ?_
              refine g_iload (pc := 223) dc_M_unfold_223 rfl ?_
              refine g_if_eq (pc := 225) (tgt := 232) dc_M_unfold_225 rfl (fun _ => ?_) (fun hc => absurd hc (by decide))
              refine g_iconst (pc := 232) (v := 1) dc_M_unfold_232 rfl ?_
              refine g_iadd (pc := 233) (v := (nI (s + (i + 1)))) dc_M_unfold_233 (q_as s i 1) ?_
              refine g_istore (pc := 234) dc_M_unfold_234 (by decide) ?_
              refine g_goto (pc := 236) (tgt := 7) dc_M_unfold_236 rfl ?_
              rw [nar_bt (hbt i)]
              refine am_wk (am_le_s (am_le_s (am_le_s (am_le_s (am_le_s (am_le_s (am_le_s (am_le_n (am_le_n am_le_0))))))))) ?_
              refine am_G.mono (l_M_unfold hbt hc2 ht hba m (i + 1) (n + 1) (upd g2 n (gx L i)) _ (by omega) (by omega) (tt_set hx0 hba) (am_se (am_lt hb)) (by omega)) (fun r h1 hq => ⟨?_, ?_⟩)
              · rw [hq.1, hst]; exact congrArg (fun z => some (Value.int (nI z))) (by rw [List.length_append]; show n + 1 + (uf L (i + 1) t).length = n + (1 + (uf L (i + 1) t).length); omega)
              · rw [hq.2, hst, List.set_set, wrt_cons]; rfl
            · have hk51 := hx_b k51 hc51
              refine g_iconst (pc := 54) (v := 1) dc_M_unfold_54 rfl ?_
              refine g_goto (pc := 55) (tgt := 59) dc_M_unfold_55 rfl ?_
              have he : esx L i t = some (16 * k39 + k51) := esx_s hc19 (by omega) hc39 hc51
              have h16a := hx_lt hc39
              have h16b := hx_lt hc51
              refine g_istore (pc := 59) dc_M_unfold_59 (by decide) ?_
              refine g_iload (pc := 61) dc_M_unfold_61 rfl ?_
              refine g_if_eq (pc := 63) (tgt := 91) dc_M_unfold_63 rfl (fun hc => absurd hc (by decide)) (fun _ => ?_)
              refine g_bipush (pc := 66) (v := 16) dc_M_unfold_66 rfl ?_
              refine g_aload_n (pc := 68) dc_M_unfold_68 rfl ?_
              refine g_iload (pc := 69) dc_M_unfold_69 rfl ?_
              refine g_iconst (pc := 71) (v := 1) dc_M_unfold_71 rfl ?_
              refine g_iadd (pc := 72) (v := (nI (s + (i + 1)))) dc_M_unfold_72 (q_as s i 1) ?_
              refine q_tx (pc := 73) (i + 1) dc_M_unfold_73 ha hT hs (by omega) hc ?_
              refine g_s1 (pc := 74) (M' := mt_M_hex) dc_M_unfold_74 mo_M_hex st_M_hex ln_M_55 (Nat.le_of_ble_eq_true rfl) (Nat.le_of_ble_eq_true rfl) (am_G.mono (e_M_hex (v := gx L (i + 1))) ?_)
              intro r h1 hq
              rw [hq.1, hq.2]
              clear hq h1 r
              refine ⟨am_nti _, ?_⟩
              rw [hc39]
              refine g_imul (pc := 77) (v := (nI (16 * k39))) dc_M_unfold_77 (pk_mul 16 k39) ?_
              refine g_aload_n (pc := 78) dc_M_unfold_78 rfl ?_
              refine g_iload (pc := 79) dc_M_unfold_79 rfl ?_
              refine g_iconst (pc := 81) (v := 2) dc_M_unfold_81 rfl ?_
              refine g_iadd (pc := 82) (v := (nI (s + (i + 2)))) dc_M_unfold_82 (q_as s i 2) ?_
              refine q_tx (pc := 83) (i + 2) dc_M_unfold_83 ha hT hs (by omega) hc ?_
              refine g_s1 (pc := 84) (M' := mt_M_hex) dc_M_unfold_84 mo_M_hex st_M_hex ln_M_55 (Nat.le_of_ble_eq_true rfl) (Nat.le_of_ble_eq_true rfl) (am_G.mono (e_M_hex (v := gx L (i + 2))) ?_)
              intro r h1 hq
              rw [hq.1, hq.2]
              clear hq h1 r
              refine ⟨am_nti _, ?_⟩
              rw [hc51]
              refine g_iadd (pc := 87) (v := (nI (16 * k39 + k51))) dc_M_unfold_87 (nI_add (16 * k39) k51) ?_
              refine g_goto (pc := 88) (tgt := 92) dc_M_unfold_88 rfl ?_
              refine g_istore (pc := 92) dc_M_unfold_92 (by decide) ?_
              refine g_iload (pc := 94) dc_M_unfold_94 rfl ?_
              refine g_if_eq (pc := 96) (tgt := 199) dc_M_unfold_96 rfl (fun hc => absurd hc (by decide)) (fun _ => ?_)
              refine g_iload (pc := 99) dc_M_unfold_99 rfl ?_
              refine g_s1 (pc := 101) (M' := mt_M_isPlainByte) dc_M_unfold_101 mo_M_isPlainByte st_M_isPlainByte ln_M_61 (Nat.le_of_ble_eq_true rfl) (Nat.le_of_ble_eq_true rfl) (am_G.mono (c_M_isPlainByte (v := nI (16 * k39 + k51))) ?_)
              intro r h1 hq
              rw [hq.1, hq.2]
              clear hq h1 r
              refine ⟨am_nti _, ?_⟩
              refine q_ifb_ne (pc := 104) (tgt := 199) dc_M_unfold_104 rfl (fun hc104 => ?_) (fun hc104 => ?_)
              · have hpl := plB_all _ (by omega) hc104
                refine g_aload_n (pc := 199) dc_M_unfold_199 rfl ?_
                refine g_iload (pc := 200) dc_M_unfold_200 rfl ?_
                refine g_iload (pc := 202) dc_M_unfold_202 rfl ?_
                refine g_if_eq (pc := 204) (tgt := 213) dc_M_unfold_204 rfl (fun hc => absurd hc (by decide)) (fun _ => ?_)
                refine g_iload (pc := 207) dc_M_unfold_207 rfl ?_
                refine g_i2b (pc := 209) dc_M_unfold_209 (i8_bt (bt_nI (show 16 * k39 + k51 < 128 by omega))) ?_
                refine g_goto (pc := 210) (tgt := 217) dc_M_unfold_210 rfl ?_
                refine q_bastore (pc := 217) n dc_M_unfold_217 hb (by omega) (by omega) ?_
                refine g_iinc (pc := 218) (v := (nI (n + 1))) dc_M_unfold_218 rfl (nI_add n 1) (by decide) ?_
                refine g_iload (pc := 221) dc_M_unfold_221 rfl ?_
                refine g_iload (pc := 223) dc_M_unfold_223 rfl ?_
                refine g_if_eq (pc := 225) (tgt := 232) dc_M_unfold_225 rfl (fun hc => absurd hc (by decide)) (fun _ => ?_)
                refine g_iconst (pc := 228) (v := 3) dc_M_unfold_228 rfl ?_
                refine g_goto (pc := 229) (tgt := 233) dc_M_unfold_229 rfl ?_
                refine g_iadd (pc := 233) (v := (nI (s + (i + 3)))) dc_M_unfold_233 (q_as s i 3) ?_
                refine g_istore (pc := 234) dc_M_unfold_234 (by decide) ?_
                refine g_goto (pc := 236) (tgt := 7) dc_M_unfold_236 rfl ?_
                rw [nar_bt (bt_nI (show 16 * k39 + k51 < 128 by omega))]
                rw [us_p he hc104, ua_s he] at hst
                refine am_wk (am_le_s (am_le_s (am_le_s (am_le_s (am_le_s (am_le_s (am_le_s (am_le_n (am_le_n am_le_0))))))))) ?_
                refine am_G.mono (l_M_unfold hbt hc2 ht hba m (i + 3) (n + 1) (upd g2 n (nI (16 * k39 + k51))) _ (by omega) (by omega) (tt_set hx0 hba) (am_se (am_lt hb)) (by omega)) (fun r h1 hq => ⟨?_, ?_⟩)
                · rw [hq.1, hst]; exact congrArg (fun z => some (Value.int (nI z))) (by rw [List.length_append]; show n + 1 + (uf L (i + 3) t).length = n + (1 + (uf L (i + 3) t).length); omega)
                · rw [hq.2, hst, List.set_set, wrt_cons]; rfl
              · refine g_aload_n (pc := 107) dc_M_unfold_107 rfl ?_
                refine g_iload (pc := 108) dc_M_unfold_108 rfl ?_
                refine g_bipush (pc := 110) (v := 37) dc_M_unfold_110 rfl ?_
                refine q_bastore (pc := 112) n dc_M_unfold_112 hb (by omega) (by omega) ?_
                refine g_aload_n (pc := 113) dc_M_unfold_113 rfl ?_
                refine g_iload (pc := 114) dc_M_unfold_114 rfl ?_
                refine g_iconst (pc := 116) (v := 1) dc_M_unfold_116 rfl ?_
                refine g_iadd (pc := 117) (v := (nI (n + 1))) dc_M_unfold_117 (nI_add n 1) ?_
                refine g_aload_n (pc := 118) dc_M_unfold_118 rfl ?_
                refine g_iload (pc := 119) dc_M_unfold_119 rfl ?_
                refine g_iconst (pc := 121) (v := 1) dc_M_unfold_121 rfl ?_
                refine g_iadd (pc := 122) (v := (nI (s + (i + 1)))) dc_M_unfold_122 (q_as s i 1) ?_
                refine q_tx (pc := 123) (i + 1) dc_M_unfold_123 (am_sn hba ha) hT hs (by omega) hc ?_
                refine g_s1 (pc := 124) (M' := mt_M_isLetter) dc_M_unfold_124 mo_M_isLetter st_M_isLetter ln_M_58 (Nat.le_of_ble_eq_true rfl) (Nat.le_of_ble_eq_true rfl) (am_G.mono (c_M_isLetter (v := (gx L (i + 1)))) ?_)
                intro r h1 hq
                rw [hq.1, hq.2]
                clear hq h1 r
                refine ⟨am_nti _, ?_⟩
                refine q_ifb_eq (pc := 127) (tgt := 145) dc_M_unfold_127 rfl (fun hc127 => ?_) (fun hc127 => ?_)
                · refine g_aload_n (pc := 145) dc_M_unfold_145 rfl ?_
                  refine g_iload (pc := 146) dc_M_unfold_146 rfl ?_
                  refine g_iconst (pc := 148) (v := 1) dc_M_unfold_148 rfl ?_
                  refine g_iadd (pc := 149) (v := (nI (s + (i + 1)))) dc_M_unfold_149 (q_as s i 1) ?_
                  refine q_tx (pc := 150) (i + 1) dc_M_unfold_150 (am_sn hba ha) hT hs (by omega) hc ?_
                  refine g_i2b (pc := 151) dc_M_unfold_151 (up_d hc127 hc39) ?_
                  refine q_bastore (pc := 152) (n + 1) dc_M_unfold_152 (am_se (am_lt hb)) (by omega) (by omega) ?_
                  rw [List.set_set]
                  refine g_aload_n (pc := 153) dc_M_unfold_153 rfl ?_
                  refine g_iload (pc := 154) dc_M_unfold_154 rfl ?_
                  refine g_iconst (pc := 156) (v := 2) dc_M_unfold_156 rfl ?_
                  refine g_iadd (pc := 157) (v := (nI (n + 2))) dc_M_unfold_157 (nI_add n 2) ?_
                  refine g_aload_n (pc := 158) dc_M_unfold_158 rfl ?_
                  refine g_iload (pc := 159) dc_M_unfold_159 rfl ?_
                  refine g_iconst (pc := 161) (v := 2) dc_M_unfold_161 rfl ?_
                  refine g_iadd (pc := 162) (v := (nI (s + (i + 2)))) dc_M_unfold_162 (q_as s i 2) ?_
                  refine q_tx (pc := 163) (i + 2) dc_M_unfold_163 (am_sn hba ha) hT hs (by omega) hc ?_
                  refine g_s1 (pc := 164) (M' := mt_M_isLetter) dc_M_unfold_164 mo_M_isLetter st_M_isLetter ln_M_58 (Nat.le_of_ble_eq_true rfl) (Nat.le_of_ble_eq_true rfl) (am_G.mono (c_M_isLetter (v := (gx L (i + 2)))) ?_)
                  intro r h1 hq
                  rw [hq.1, hq.2]
                  clear hq h1 r
                  refine ⟨am_nti _, ?_⟩
                  refine q_ifb_eq (pc := 167) (tgt := 185) dc_M_unfold_167 rfl (fun hc167 => ?_) (fun hc167 => ?_)
                  · refine g_aload_n (pc := 185) dc_M_unfold_185 rfl ?_
                    refine g_iload (pc := 186) dc_M_unfold_186 rfl ?_
                    refine g_iconst (pc := 188) (v := 2) dc_M_unfold_188 rfl ?_
                    refine g_iadd (pc := 189) (v := (nI (s + (i + 2)))) dc_M_unfold_189 (q_as s i 2) ?_
                    refine q_tx (pc := 190) (i + 2) dc_M_unfold_190 (am_sn hba ha) hT hs (by omega) hc ?_
                    refine g_i2b (pc := 191) dc_M_unfold_191 (up_d hc167 hc51) ?_
                    refine q_bastore (pc := 192) (n + 2) dc_M_unfold_192 (am_se (am_lt hb)) (by omega) (by omega) ?_
                    rw [List.set_set]
                    refine g_iinc (pc := 193) (v := (nI (n + 3))) dc_M_unfold_193 rfl (nI_add n 3) (by decide) ?_
                    refine g_goto (pc := 196) (tgt := 221) dc_M_unfold_196 rfl ?_
                    refine g_iload (pc := 221) dc_M_unfold_221 rfl ?_
                    refine g_iload (pc := 223) dc_M_unfold_223 rfl ?_
                    refine g_if_eq (pc := 225) (tgt := 232) dc_M_unfold_225 rfl (fun hc => absurd hc (by decide)) (fun _ => ?_)
                    refine g_iconst (pc := 228) (v := 3) dc_M_unfold_228 rfl ?_
                    refine g_goto (pc := 229) (tgt := 233) dc_M_unfold_229 rfl ?_
                    refine g_iadd (pc := 233) (v := (nI (s + (i + 3)))) dc_M_unfold_233 (q_as s i 3) ?_
                    refine g_istore (pc := 234) dc_M_unfold_234 (by decide) ?_
                    refine g_goto (pc := 236) (tgt := 7) dc_M_unfold_236 rfl ?_
                    rw [nar_bt (bt_ch (i := 6) (k := k39) (by decide) (by show k39 < 16; omega)), nar_bt (bt_ch (i := 6) (k := k51) (by decide) (by show k51 < 16; omega)), show vp_nar .byte 37 = 37 from rfl]
                    rw [us_q he hc104, ua_s he, show (16 * k39 + k51) / 16 = k39 by omega, show (16 * k39 + k51) % 16 = k51 by omega] at hst
                    refine am_wk (am_le_s (am_le_s (am_le_s (am_le_s (am_le_s (am_le_s (am_le_s (am_le_n (am_le_n am_le_0))))))))) ?_
                    refine am_G.mono (l_M_unfold hbt hc2 ht hba m (i + 3) (n + 3) (upd (upd (upd g2 n 37) (n + 1) (ch 6 k39)) (n + 2) (ch 6 k51)) _ (by omega) (by omega) (tt_set hx0 hba) (am_se (am_lt hb)) (by omega)) (fun r h1 hq => ⟨?_, ?_⟩)
                    · rw [hq.1, hst]; exact congrArg (fun z => some (Value.int (nI z))) (by rw [List.length_append]; show n + 3 + (uf L (i + 3) t).length = n + (3 + (uf L (i + 3) t).length); omega)
                    · rw [hq.2, hst, List.set_set, wrt_cons _ (n + 2), wrt_cons _ (n + 1), wrt_cons]; rfl
                  · refine g_aload_n (pc := 170) dc_M_unfold_170 rfl ?_
                    refine g_iload (pc := 171) dc_M_unfold_171 rfl ?_
                    refine g_iconst (pc := 173) (v := 2) dc_M_unfold_173 rfl ?_
                    refine g_iadd (pc := 174) (v := (nI (s + (i + 2)))) dc_M_unfold_174 (q_as s i 2) ?_
                    refine q_tx (pc := 175) (i + 2) dc_M_unfold_175 (am_sn hba ha) hT hs (by omega) hc ?_
                    refine g_s1 (pc := 176) (M' := mt_M_lower) dc_M_unfold_176 mo_M_lower st_M_lower ln_M_7 (Nat.le_of_ble_eq_true rfl) (Nat.le_of_ble_eq_true rfl) (am_G.mono (c_M_lower (v := (gx L (i + 2)))) ?_)
                    intro r h1 hq
                    rw [hq.1, hq.2]
                    clear hq h1 r
                    refine ⟨am_nti _, ?_⟩
                    refine g_bipush (pc := 179) (v := 32) dc_M_unfold_179 rfl ?_
                    refine g_isub (pc := 181) (v := ((toLo (gx L (i + 2))) - 32)) dc_M_unfold_181 rfl ?_
                    refine g_goto (pc := 182) (tgt := 191) dc_M_unfold_182 rfl ?_
                    refine g_i2b (pc := 191) dc_M_unfold_191 (up_l hc167 hc51) ?_
                    refine q_bastore (pc := 192) (n + 2) dc_M_unfold_192 (am_se (am_lt hb)) (by omega) (by omega) ?_
                    rw [List.set_set]
                    refine g_iinc (pc := 193) (v := (nI (n + 3))) dc_M_unfold_193 rfl (nI_add n 3) (by decide) ?_
                    refine g_goto (pc := 196) (tgt := 221) dc_M_unfold_196 rfl ?_
                    refine g_iload (pc := 221) dc_M_unfold_221 rfl ?_
                    refine g_iload (pc := 223) dc_M_unfold_223 rfl ?_
                    refine g_if_eq (pc := 225) (tgt := 232) dc_M_unfold_225 rfl (fun hc => absurd hc (by decide)) (fun _ => ?_)
                    refine g_iconst (pc := 228) (v := 3) dc_M_unfold_228 rfl ?_
                    refine g_goto (pc := 229) (tgt := 233) dc_M_unfold_229 rfl ?_
                    refine g_iadd (pc := 233) (v := (nI (s + (i + 3)))) dc_M_unfold_233 (q_as s i 3) ?_
                    refine g_istore (pc := 234) dc_M_unfold_234 (by decide) ?_
                    refine g_goto (pc := 236) (tgt := 7) dc_M_unfold_236 rfl ?_
                    rw [nar_bt (bt_ch (i := 6) (k := k39) (by decide) (by show k39 < 16; omega)), nar_bt (bt_ch (i := 6) (k := k51) (by decide) (by show k51 < 16; omega)), show vp_nar .byte 37 = 37 from rfl]
                    rw [us_q he hc104, ua_s he, show (16 * k39 + k51) / 16 = k39 by omega, show (16 * k39 + k51) % 16 = k51 by omega] at hst
                    refine am_wk (am_le_s (am_le_s (am_le_s (am_le_s (am_le_s (am_le_s (am_le_s (am_le_n (am_le_n am_le_0))))))))) ?_
                    refine am_G.mono (l_M_unfold hbt hc2 ht hba m (i + 3) (n + 3) (upd (upd (upd g2 n 37) (n + 1) (ch 6 k39)) (n + 2) (ch 6 k51)) _ (by omega) (by omega) (tt_set hx0 hba) (am_se (am_lt hb)) (by omega)) (fun r h1 hq => ⟨?_, ?_⟩)
                    · rw [hq.1, hst]; exact congrArg (fun z => some (Value.int (nI z))) (by rw [List.length_append]; show n + 3 + (uf L (i + 3) t).length = n + (3 + (uf L (i + 3) t).length); omega)
                    · rw [hq.2, hst, List.set_set, wrt_cons _ (n + 2), wrt_cons _ (n + 1), wrt_cons]; rfl
                · refine g_aload_n (pc := 130) dc_M_unfold_130 rfl ?_
                  refine g_iload (pc := 131) dc_M_unfold_131 rfl ?_
                  refine g_iconst (pc := 133) (v := 1) dc_M_unfold_133 rfl ?_
                  refine g_iadd (pc := 134) (v := (nI (s + (i + 1)))) dc_M_unfold_134 (q_as s i 1) ?_
                  refine q_tx (pc := 135) (i + 1) dc_M_unfold_135 (am_sn hba ha) hT hs (by omega) hc ?_
                  refine g_s1 (pc := 136) (M' := mt_M_lower) dc_M_unfold_136 mo_M_lower st_M_lower ln_M_7 (Nat.le_of_ble_eq_true rfl) (Nat.le_of_ble_eq_true rfl) (am_G.mono (c_M_lower (v := (gx L (i + 1)))) ?_)
                  intro r h1 hq
                  rw [hq.1, hq.2]
                  clear hq h1 r
                  refine ⟨am_nti _, ?_⟩
                  refine g_bipush (pc := 139) (v := 32) dc_M_unfold_139 rfl ?_
                  refine g_isub (pc := 141) (v := ((toLo (gx L (i + 1))) - 32)) dc_M_unfold_141 rfl ?_
                  refine g_goto (pc := 142) (tgt := 151) dc_M_unfold_142 rfl ?_
                  refine g_i2b (pc := 151) dc_M_unfold_151 (up_l hc127 hc39) ?_
                  refine q_bastore (pc := 152) (n + 1) dc_M_unfold_152 (am_se (am_lt hb)) (by omega) (by omega) ?_
                  rw [List.set_set]
                  refine g_aload_n (pc := 153) dc_M_unfold_153 rfl ?_
                  refine g_iload (pc := 154) dc_M_unfold_154 rfl ?_
                  refine g_iconst (pc := 156) (v := 2) dc_M_unfold_156 rfl ?_
                  refine g_iadd (pc := 157) (v := (nI (n + 2))) dc_M_unfold_157 (nI_add n 2) ?_
                  refine g_aload_n (pc := 158) dc_M_unfold_158 rfl ?_
                  refine g_iload (pc := 159) dc_M_unfold_159 rfl ?_
                  refine g_iconst (pc := 161) (v := 2) dc_M_unfold_161 rfl ?_
                  refine g_iadd (pc := 162) (v := (nI (s + (i + 2)))) dc_M_unfold_162 (q_as s i 2) ?_
                  refine q_tx (pc := 163) (i + 2) dc_M_unfold_163 (am_sn hba ha) hT hs (by omega) hc ?_
                  refine g_s1 (pc := 164) (M' := mt_M_isLetter) dc_M_unfold_164 mo_M_isLetter st_M_isLetter ln_M_58 (Nat.le_of_ble_eq_true rfl) (Nat.le_of_ble_eq_true rfl) (am_G.mono (c_M_isLetter (v := (gx L (i + 2)))) ?_)
                  intro r h1 hq
                  rw [hq.1, hq.2]
                  clear hq h1 r
                  refine ⟨am_nti _, ?_⟩
                  refine q_ifb_eq (pc := 167) (tgt := 185) dc_M_unfold_167 rfl (fun hc167 => ?_) (fun hc167 => ?_)
                  · refine g_aload_n (pc := 185) dc_M_unfold_185 rfl ?_
                    refine g_iload (pc := 186) dc_M_unfold_186 rfl ?_
                    refine g_iconst (pc := 188) (v := 2) dc_M_unfold_188 rfl ?_
                    refine g_iadd (pc := 189) (v := (nI (s + (i + 2)))) dc_M_unfold_189 (q_as s i 2) ?_
                    refine q_tx (pc := 190) (i + 2) dc_M_unfold_190 (am_sn hba ha) hT hs (by omega) hc ?_
                    refine g_i2b (pc := 191) dc_M_unfold_191 (up_d hc167 hc51) ?_
                    refine q_bastore (pc := 192) (n + 2) dc_M_unfold_192 (am_se (am_lt hb)) (by omega) (by omega) ?_
                    rw [List.set_set]
                    refine g_iinc (pc := 193) (v := (nI (n + 3))) dc_M_unfold_193 rfl (nI_add n 3) (by decide) ?_
                    refine g_goto (pc := 196) (tgt := 221) dc_M_unfold_196 rfl ?_
                    refine g_iload (pc := 221) dc_M_unfold_221 rfl ?_
                    refine g_iload (pc := 223) dc_M_unfold_223 rfl ?_
                    refine g_if_eq (pc := 225) (tgt := 232) dc_M_unfold_225 rfl (fun hc => absurd hc (by decide)) (fun _ => ?_)
                    refine g_iconst (pc := 228) (v := 3) dc_M_unfold_228 rfl ?_
                    refine g_goto (pc := 229) (tgt := 233) dc_M_unfold_229 rfl ?_
                    refine g_iadd (pc := 233) (v := (nI (s + (i + 3)))) dc_M_unfold_233 (q_as s i 3) ?_
                    refine g_istore (pc := 234) dc_M_unfold_234 (by decide) ?_
                    refine g_goto (pc := 236) (tgt := 7) dc_M_unfold_236 rfl ?_
                    rw [nar_bt (bt_ch (i := 6) (k := k39) (by decide) (by show k39 < 16; omega)), nar_bt (bt_ch (i := 6) (k := k51) (by decide) (by show k51 < 16; omega)), show vp_nar .byte 37 = 37 from rfl]
                    rw [us_q he hc104, ua_s he, show (16 * k39 + k51) / 16 = k39 by omega, show (16 * k39 + k51) % 16 = k51 by omega] at hst
                    refine am_wk (am_le_s (am_le_s (am_le_s (am_le_s (am_le_s (am_le_s (am_le_s (am_le_n (am_le_n am_le_0))))))))) ?_
                    refine am_G.mono (l_M_unfold hbt hc2 ht hba m (i + 3) (n + 3) (upd (upd (upd g2 n 37) (n + 1) (ch 6 k39)) (n + 2) (ch 6 k51)) _ (by omega) (by omega) (tt_set hx0 hba) (am_se (am_lt hb)) (by omega)) (fun r h1 hq => ⟨?_, ?_⟩)
                    · rw [hq.1, hst]; exact congrArg (fun z => some (Value.int (nI z))) (by rw [List.length_append]; show n + 3 + (uf L (i + 3) t).length = n + (3 + (uf L (i + 3) t).length); omega)
                    · rw [hq.2, hst, List.set_set, wrt_cons _ (n + 2), wrt_cons _ (n + 1), wrt_cons]; rfl
                  · refine g_aload_n (pc := 170) dc_M_unfold_170 rfl ?_
                    refine g_iload (pc := 171) dc_M_unfold_171 rfl ?_
                    refine g_iconst (pc := 173) (v := 2) dc_M_unfold_173 rfl ?_
                    refine g_iadd (pc := 174) (v := (nI (s + (i + 2)))) dc_M_unfold_174 (q_as s i 2) ?_
                    refine q_tx (pc := 175) (i + 2) dc_M_unfold_175 (am_sn hba ha) hT hs (by omega) hc ?_
                    refine g_s1 (pc := 176) (M' := mt_M_lower) dc_M_unfold_176 mo_M_lower st_M_lower ln_M_7 (Nat.le_of_ble_eq_true rfl) (Nat.le_of_ble_eq_true rfl) (am_G.mono (c_M_lower (v := (gx L (i + 2)))) ?_)
                    intro r h1 hq
                    rw [hq.1, hq.2]
                    clear hq h1 r
                    refine ⟨am_nti _, ?_⟩
                    refine g_bipush (pc := 179) (v := 32) dc_M_unfold_179 rfl ?_
                    refine g_isub (pc := 181) (v := ((toLo (gx L (i + 2))) - 32)) dc_M_unfold_181 rfl ?_
                    refine g_goto (pc := 182) (tgt := 191) dc_M_unfold_182 rfl ?_
                    refine g_i2b (pc := 191) dc_M_unfold_191 (up_l hc167 hc51) ?_
                    refine q_bastore (pc := 192) (n + 2) dc_M_unfold_192 (am_se (am_lt hb)) (by omega) (by omega) ?_
                    rw [List.set_set]
                    refine g_iinc (pc := 193) (v := (nI (n + 3))) dc_M_unfold_193 rfl (nI_add n 3) (by decide) ?_
                    refine g_goto (pc := 196) (tgt := 221) dc_M_unfold_196 rfl ?_
                    refine g_iload (pc := 221) dc_M_unfold_221 rfl ?_
                    refine g_iload (pc := 223) dc_M_unfold_223 rfl ?_
                    refine g_if_eq (pc := 225) (tgt := 232) dc_M_unfold_225 rfl (fun hc => absurd hc (by decide)) (fun _ => ?_)
                    refine g_iconst (pc := 228) (v := 3) dc_M_unfold_228 rfl ?_
                    refine g_goto (pc := 229) (tgt := 233) dc_M_unfold_229 rfl ?_
                    refine g_iadd (pc := 233) (v := (nI (s + (i + 3)))) dc_M_unfold_233 (q_as s i 3) ?_
                    refine g_istore (pc := 234) dc_M_unfold_234 (by decide) ?_
                    refine g_goto (pc := 236) (tgt := 7) dc_M_unfold_236 rfl ?_
                    rw [nar_bt (bt_ch (i := 6) (k := k39) (by decide) (by show k39 < 16; omega)), nar_bt (bt_ch (i := 6) (k := k51) (by decide) (by show k51 < 16; omega)), show vp_nar .byte 37 = 37 from rfl]
                    rw [us_q he hc104, ua_s he, show (16 * k39 + k51) / 16 = k39 by omega, show (16 * k39 + k51) % 16 = k51 by omega] at hst
                    refine am_wk (am_le_s (am_le_s (am_le_s (am_le_s (am_le_s (am_le_s (am_le_s (am_le_n (am_le_n am_le_0))))))))) ?_
                    refine am_G.mono (l_M_unfold hbt hc2 ht hba m (i + 3) (n + 3) (upd (upd (upd g2 n 37) (n + 1) (ch 6 k39)) (n + 2) (ch 6 k51)) _ (by omega) (by omega) (tt_set hx0 hba) (am_se (am_lt hb)) (by omega)) (fun r h1 hq => ⟨?_, ?_⟩)
                    · rw [hq.1, hst]; exact congrArg (fun z => some (Value.int (nI z))) (by rw [List.length_append]; show n + 3 + (uf L (i + 3) t).length = n + (3 + (uf L (i + 3) t).length); omega)
                    · rw [hq.2, hst, List.set_set, wrt_cons _ (n + 2), wrt_cons _ (n + 1), wrt_cons]; rfl
    · obtain rfl : i = t := by omega
      rw [uf_nil (Nat.le_refl i), wrt_nil]
      obtain ⟨cap, g, ha, hT, hs, hc⟩ := hx
      refine g_iload (pc := 7) dc_M_unfold_7 rfl ?_
      refine g_iload_n (pc := 9) dc_M_unfold_9 rfl ?_
      refine q_icmp_ge (pc := 10) (tgt := 239) (s + i) (s + i) dc_M_unfold_10 (by omega) (by omega) rfl (fun hc10 => ?_) (fun hc => absurd hc (by omega))
      refine g_iload (pc := 239) dc_M_unfold_239 rfl ?_
      exact g_ireturn dc_M_unfold_241 rfl ⟨rfl, (set_same hb).symm⟩
theorem c_M_unfold {n : Nat} {g2 : Nat → Int32} {h : List va_E} (hbt : ∀ j, bt (gx L j)) (hc2 : cap2 < 2 ^ 30) (ht : t ≤ L.length) (hba : b ≠ a) (hft : f ≤ t) (hx : tt h a s L) (hb : h[b]? = some (.inl (0, cap2, .inl g2))) (hn : n + (t - f) ≤ cap2) : am_C X mt_M_unfold (d + 2) [.ref a, .int (nI (s + f)), .int (nI (s + t)), .ref b, .int (nI n)] h (fun r h1 => r = some (.int (nI (n + (uf L f t).length))) ∧ h1 = h.set b (.inl (0, cap2, .inl (wrt g2 n (uf L f t))))) := by
  show am_G X mt_M_unfold (d + 2) 0 [some (.ref a), some (.int (nI (s + f))), some (.int (nI (s + t))), some (.ref b), some (.int (nI n)), none, none, none, none] [] h _
  refine g_iload (pc := 0) dc_M_unfold_0 rfl ?_
  refine g_istore (pc := 2) dc_M_unfold_2 (by decide) ?_
  refine g_iload_n (pc := 4) dc_M_unfold_4 rfl ?_
  refine g_istore (pc := 5) dc_M_unfold_5 (by decide) ?_
  exact l_M_unfold hbt hc2 ht hba (t - f) f n g2 h (Nat.le_refl _) hft hx hb hn
end UNF
theorem inc5 {v : Int32} : inc 5 v = true ↔ v = 45 ∨ v = 46 ∨ v = 95 ∨ v = 126 := by
  unfold inc
  rw [decide_eq_true_iff]
  have e : cln 5 = 4 := by decide
  rw [e]
  constructor
  · rintro ⟨j, hj, rfl⟩
    rcases (by omega : j = 0 ∨ j = 1 ∨ j = 2 ∨ j = 3) with rfl | rfl | rfl | rfl <;> decide
  · rintro (rfl | rfl | rfl | rfl) <;> decide
theorem plB_5 {v : Int32} (h1 : isLe v = false) (h2 : isDi v = false) (h3 : inc 5 v = true) : plB v = true := by
  rcases inc5.mp h3 with rfl | rfl | rfl | rfl <;> decide
theorem plB_6 {v : Int32} (h1 : isLe v = false) (h2 : isDi v = false) (h3 : inc 5 v = false) : plB v = false := by
  have h4 : ¬ (v = 45 ∨ v = 46 ∨ v = 95 ∨ v = 126) := fun h9 => by rw [inc5.mpr h9] at h3; cases h3
  unfold plB
  rw [h1, h2]
  simp
  exact ⟨⟨⟨fun e => h4 (by simp [e]), fun e => h4 (by simp [e])⟩, fun e => h4 (by simp [e])⟩, fun e => h4 (by simp [e])⟩
section UNG
variable {X : am_X} {d : Nat} {a c s f t : Nat} {L : List Int32}
theorem tt_ch {h h1 : List va_E} {a c b cap b1 cap1 s : Nat} {L : List Int32} (hx : tt h c s L) (hc : chB h h1 a b cap b1 cap1) (hca : c ≠ a) (hcb : c ≠ b) : tt h1 c s L := by
  obtain ⟨cp, g, h2, r⟩ := hx
  exact ⟨cp, g, (hc.1.2 c (am_lt h2) hca hcb).trans h2, r⟩
theorem tt_ne {h : List va_E} {a c b cap s : Nat} {L R : List Int32} (hx : tt h c s L) (hB : isB h a b cap R) : c ≠ a := fun e => by
  obtain ⟨cp, g, h2, -⟩ := hx
  obtain ⟨g', h3, -⟩ := hB
  rw [e, h3] at h2
  cases h2
theorem tt_lt {h : List va_E} {c s : Nat} {L : List Int32} (hx : tt h c s L) : c < h.length := by
  obtain ⟨cp, g, h2, -⟩ := hx
  exact am_lt h2
theorem l_B_putUnescaped (hbt : ∀ j, bt (gx L j)) (ht : t ≤ L.length) : ∀ (m i b cap : Nat) (h : List va_E) (R : List Int32), t - i ≤ m → i ≤ t → isB h a b cap R → tt h c s L → b ≠ c → R.length + (t - i) < 8388608 → am_G X mt_B_putUnescaped (d + 5) 3 [some (.ref a), some (.ref c), some (.int (nI (s + f))), some (.int (nI (s + t))), some (.int (nI (s + i))), none] [] h (fun r h1 => r = none ∧ toB h h1 a b cap (R ++ uf L i t))
  | 0, i, b, cap, h, R, hm, hi, hB, hx, hbc, hl => by
    obtain rfl : i = t := by omega
    rw [uf_nil (Nat.le_refl i), List.append_nil]
    obtain ⟨cp, g, hc1, hT, hs, hc⟩ := hx
    refine g_iload (pc := 3) dc_B_putUnescaped_3 rfl ?_
    refine g_iload_n (pc := 5) dc_B_putUnescaped_5 rfl ?_
    refine q_icmp_ge (pc := 6) (tgt := 114) (s + i) (s + i) dc_B_putUnescaped_6 (by omega) (by omega) rfl (fun hc6 => ?_) (fun hc => absurd hc (by omega))
    exact g_return dc_B_putUnescaped_114 rfl ⟨rfl, hB.rf⟩
  | m + 1, i, b, cap, h, R, hm, hi, hB, hx, hbc, hl => by
    by_cases hit : i < t
    · have hx0 := hx
      have ha := hB.ha
      have hca := tt_ne hx hB
      obtain ⟨cp, g, hc1, hT, hs, hc⟩ := hx
      have hst := uf_step (L := L) hit
      refine g_iload (pc := 3) dc_B_putUnescaped_3 rfl ?_
      refine g_iload_n (pc := 5) dc_B_putUnescaped_5 rfl ?_
      refine q_icmp_ge (pc := 6) (tgt := 114) (s + i) (s + t) dc_B_putUnescaped_6 (by omega) (by omega) rfl (fun hc => absurd hc (by omega)) (fun hc6 => ?_)
      refine g_aload_n (pc := 9) dc_B_putUnescaped_9 rfl ?_
      refine g_iload (pc := 10) dc_B_putUnescaped_10 rfl ?_
      refine g_iload_n (pc := 12) dc_B_putUnescaped_12 rfl ?_
      refine g_s3 (pc := 13) (M' := mt_W_escapedByte) dc_B_putUnescaped_13 mo_W_escapedByte st_W_escapedByte ln_B_58 (Nat.le_of_ble_eq_true rfl) (Nat.le_of_ble_eq_true rfl) (am_G.mono (t_W_escapedByte (f := i) (t := t) hx0 (by omega) (by omega)) ?_)
      intro r h1 hq
      rw [hq.1, hq.2]
      clear hq h1 r
      refine ⟨am_nti _, ?_⟩
      refine g_istore (pc := 16) dc_B_putUnescaped_16 (by decide) ?_
      refine g_iload (pc := 18) dc_B_putUnescaped_18 rfl ?_
      refine g_iconst (pc := 20) (v := (-1)) dc_B_putUnescaped_20 rfl ?_
      refine q_o_ne (pc := 21) (tgt := 38) dc_B_putUnescaped_21 esx_b rfl (fun k21 hc21 => ?_) (fun hc21 => ?_)
      · rw [hc21]
        rw [show er (some k21) = nI k21 from rfl]
        have hk21 := esx_b k21 hc21
        have hk9 := esx_lt hc21
        have h3t := (esx_i hc21).2.1
        refine g_iload (pc := 38) dc_B_putUnescaped_38 rfl ?_
        refine g_s1 (pc := 40) (M' := mt_W_isLetter) dc_B_putUnescaped_40 mo_W_isLetter st_W_isLetter ln_B_62 (Nat.le_of_ble_eq_true rfl) (Nat.le_of_ble_eq_true rfl) (am_G.mono (c_W_isLetter (v := (nI k21))) ?_)
        intro r h1 hq
        rw [hq.1, hq.2]
        clear hq h1 r
        refine ⟨am_nti _, ?_⟩
        refine q_ifb_ne (pc := 43) (tgt := 65) dc_B_putUnescaped_43 rfl (fun hc43 => ?_) (fun hc43 => ?_)
        · have hpl : plB (nI k21) = true := (by simp [plB, hc43])
          have hp9 := plB_all k21 (by omega) hpl
          refine g_aload_n (pc := 65) dc_B_putUnescaped_65 rfl ?_
          refine g_iload (pc := 66) dc_B_putUnescaped_66 rfl ?_
          refine g_v1 (pc := 68) (M' := mt_B_put) dc_B_putUnescaped_68 mo_B_put im_B_put se_B_put ln_B_29 ha rfl rfl (Nat.le_of_ble_eq_true rfl) (Nat.le_of_ble_eq_true rfl) (am_G.mono (c_B_put (d := d + 2) (v := nI k21) hB (by omega)) ?_)
          intro r h1 hq
          obtain ⟨rfl, b1, cap1, p1, c1, m1⟩ := hq
          refine ⟨am_nt0, ?_⟩
          refine g_goto (pc := 71) (tgt := 108) dc_B_putUnescaped_71 rfl ?_
          refine g_iinc (pc := 108) (v := (nI (s + (i + 3)))) dc_B_putUnescaped_108 rfl (q_as s i 3) (by decide) ?_
          refine g_goto (pc := 111) (tgt := 3) dc_B_putUnescaped_111 rfl ?_
          have hy1 := tt_ch hx0 c1 hca (Ne.symm hbc)
          have hn1 : c ≠ b1 := by have h9 := c1.2.1; have h8 := tt_lt hx0; omega
          rw [us_p hc21 hpl, ua_s hc21] at hst
          refine am_wk (am_le_s (am_le_s (am_le_s (am_le_s (am_le_s (am_le_n am_le_0)))))) ?_
          refine am_G.mono (l_B_putUnescaped hbt ht m (i + 3) b1 cap1 h1 (R ++ [by8 (nI k21)]) (by omega) (by omega) p1 hy1 (Ne.symm hn1) (by rw [show (R ++ [by8 (nI k21)]).length = R.length + 1 by simp]; omega)) (fun r h9 hq => ⟨hq.1, ?_⟩)
          have e9 : R ++ uf L i t = (R ++ [by8 (nI k21)]) ++ uf L (i + 3) t := by rw [hst]; simp [by8_bt (bt_nI (show k21 < 128 by omega))]
          rw [e9]
          exact (toB.step c1 m1 (by simp <;> omega) hq.2)
        · refine g_iload (pc := 46) dc_B_putUnescaped_46 rfl ?_
          refine g_s1 (pc := 48) (M' := mt_W_isDigit) dc_B_putUnescaped_48 mo_W_isDigit st_W_isDigit ln_B_66 (Nat.le_of_ble_eq_true rfl) (Nat.le_of_ble_eq_true rfl) (am_G.mono (c_W_isDigit (v := (nI k21))) ?_)
          intro r h1 hq
          rw [hq.1, hq.2]
          clear hq h1 r
          refine ⟨am_nti _, ?_⟩
          refine q_ifb_ne (pc := 51) (tgt := 65) dc_B_putUnescaped_51 rfl (fun hc51 => ?_) (fun hc51 => ?_)
          · have hpl : plB (nI k21) = true := (by simp [plB, hc43, hc51])
            have hp9 := plB_all k21 (by omega) hpl
            refine g_aload_n (pc := 65) dc_B_putUnescaped_65 rfl ?_
            refine g_iload (pc := 66) dc_B_putUnescaped_66 rfl ?_
            refine g_v1 (pc := 68) (M' := mt_B_put) dc_B_putUnescaped_68 mo_B_put im_B_put se_B_put ln_B_29 ha rfl rfl (Nat.le_of_ble_eq_true rfl) (Nat.le_of_ble_eq_true rfl) (am_G.mono (c_B_put (d := d + 2) (v := nI k21) hB (by omega)) ?_)
            intro r h1 hq
            obtain ⟨rfl, b1, cap1, p1, c1, m1⟩ := hq
            refine ⟨am_nt0, ?_⟩
            refine g_goto (pc := 71) (tgt := 108) dc_B_putUnescaped_71 rfl ?_
            refine g_iinc (pc := 108) (v := (nI (s + (i + 3)))) dc_B_putUnescaped_108 rfl (q_as s i 3) (by decide) ?_
            refine g_goto (pc := 111) (tgt := 3) dc_B_putUnescaped_111 rfl ?_
            have hy1 := tt_ch hx0 c1 hca (Ne.symm hbc)
            have hn1 : c ≠ b1 := by have h9 := c1.2.1; have h8 := tt_lt hx0; omega
            rw [us_p hc21 hpl, ua_s hc21] at hst
            refine am_wk (am_le_s (am_le_s (am_le_s (am_le_s (am_le_s (am_le_n am_le_0)))))) ?_
            refine am_G.mono (l_B_putUnescaped hbt ht m (i + 3) b1 cap1 h1 (R ++ [by8 (nI k21)]) (by omega) (by omega) p1 hy1 (Ne.symm hn1) (by rw [show (R ++ [by8 (nI k21)]).length = R.length + 1 by simp]; omega)) (fun r h9 hq => ⟨hq.1, ?_⟩)
            have e9 : R ++ uf L i t = (R ++ [by8 (nI k21)]) ++ uf L (i + 3) t := by rw [hst]; simp [by8_bt (bt_nI (show k21 < 128 by omega))]
            rw [e9]
            exact (toB.step c1 m1 (by simp <;> omega) hq.2)
          · refine g_ldcS (pc := 54) 5 dc_B_putUnescaped_54 (by decide) rfl rfl ?_
            refine g_iload (pc := 56) dc_B_putUnescaped_56 rfl ?_
            refine g_i2c (pc := 58) dc_B_putUnescaped_58 (i2c_nn ⟨by rw [nI_toInt (by omega)]; omega, by rw [nI_toInt (by omega)]; omega⟩) ?_
            refine g_x1 (pc := 59) (M' := mt_JString_indexOf_0) dc_B_putUnescaped_59 mo_JString_indexOf_0 im_JString_indexOf_0 se_JString_indexOf_0 (am_t3 177 rfl rfl) (by decide) (Nat.le_of_ble_eq_true rfl) (Nat.le_of_ble_eq_true rfl) (am_G.mono (c_JString_indexOf_0 (i := 5) (v := nI k21) (by decide) (by decide) ⟨by rw [nI_toInt (by omega)]; omega, by rw [nI_toInt (by omega)]; omega⟩) ?_)
            intro r h1 hq
            obtain ⟨⟨x, hq1, hx1, hx2⟩, hq2⟩ := hq
            rw [hq1, hq2]
            clear hq1 hq2 h1 r
            refine ⟨am_nti _, ?_⟩
            refine q_o_lt (pc := 62) (tgt := 74) dc_B_putUnescaped_62 (cb64 hx1) rfl (fun hc62 => ?_) (fun k62 hc62 => ?_)
            · have hpl : plB (nI k21) = false := plB_6 hc43 hc51 (hx2.mp hc62)
              refine g_aload_n (pc := 74) dc_B_putUnescaped_74 rfl ?_
              refine g_bipush (pc := 75) (v := 37) dc_B_putUnescaped_75 rfl ?_
              refine g_v1 (pc := 77) (M' := mt_B_put) dc_B_putUnescaped_77 mo_B_put im_B_put se_B_put ln_B_29 ha rfl rfl (Nat.le_of_ble_eq_true rfl) (Nat.le_of_ble_eq_true rfl) (am_G.mono (c_B_put (d := d + 2) (v := 37) hB (by omega)) ?_)
              intro r h1 hq
              obtain ⟨rfl, b1, cap1, p1, c1, m1⟩ := hq
              refine ⟨am_nt0, ?_⟩
              refine g_aload_n (pc := 80) dc_B_putUnescaped_80 rfl ?_
              refine g_ldcS (pc := 81) 6 dc_B_putUnescaped_81 (by decide) rfl rfl ?_
              refine g_iload (pc := 83) dc_B_putUnescaped_83 rfl ?_
              refine g_bipush (pc := 85) (v := 16) dc_B_putUnescaped_85 rfl ?_
              refine g_idiv (pc := 87) dc_B_putUnescaped_87 (by decide) (pk_div (a := k21) (d := 16) (by omega) (by omega) (by omega)) ?_
              refine g_x1 (pc := 88) (M' := mt_JString_charAt) dc_B_putUnescaped_88 mo_JString_charAt im_JString_charAt se_JString_charAt (am_t3 127 rfl rfl) (by decide) (Nat.le_of_ble_eq_true rfl) (Nat.le_of_ble_eq_true rfl) (am_G.mono (c_charAt (i := 6) (k := k21 / 16) (by decide) (by show k21 / 16 < 16; omega)) ?_)
              intro r h1 hq
              rw [hq.1, hq.2]
              clear hq h1 r
              refine ⟨am_nti _, ?_⟩
              refine g_v1 (pc := 91) (M' := mt_B_put) dc_B_putUnescaped_91 mo_B_put im_B_put se_B_put ln_B_29 p1.ha rfl rfl (Nat.le_of_ble_eq_true rfl) (Nat.le_of_ble_eq_true rfl) (am_G.mono (c_B_put (d := d + 2) (v := ch 6 (k21 / 16)) p1 (by simp; omega)) ?_)
              intro r h2 hq
              obtain ⟨rfl, b2, cap2, p2, c2, m2⟩ := hq
              refine ⟨am_nt0, ?_⟩
              refine g_aload_n (pc := 94) dc_B_putUnescaped_94 rfl ?_
              refine g_ldcS (pc := 95) 6 dc_B_putUnescaped_95 (by decide) rfl rfl ?_
              refine g_iload (pc := 97) dc_B_putUnescaped_97 rfl ?_
              refine g_bipush (pc := 99) (v := 16) dc_B_putUnescaped_99 rfl ?_
              refine g_irem (pc := 101) dc_B_putUnescaped_101 (by decide) (q_rem (a := k21) (d := 16) (by omega) (by omega) (by omega)) ?_
              refine g_x1 (pc := 102) (M' := mt_JString_charAt) dc_B_putUnescaped_102 mo_JString_charAt im_JString_charAt se_JString_charAt (am_t3 127 rfl rfl) (by decide) (Nat.le_of_ble_eq_true rfl) (Nat.le_of_ble_eq_true rfl) (am_G.mono (c_charAt (i := 6) (k := k21 % 16) (by decide) (by show k21 % 16 < 16; omega)) ?_)
              intro r h1 hq
              rw [hq.1, hq.2]
              clear hq h1 r
              refine ⟨am_nti _, ?_⟩
              refine g_v1 (pc := 105) (M' := mt_B_put) dc_B_putUnescaped_105 mo_B_put im_B_put se_B_put ln_B_29 p2.ha rfl rfl (Nat.le_of_ble_eq_true rfl) (Nat.le_of_ble_eq_true rfl) (am_G.mono (c_B_put (d := d + 2) (v := ch 6 (k21 % 16)) p2 (by simp; omega)) ?_)
              intro r h3 hq
              obtain ⟨rfl, b3, cap3, p3, c3, m3⟩ := hq
              refine ⟨am_nt0, ?_⟩
              refine g_iinc (pc := 108) (v := (nI (s + (i + 3)))) dc_B_putUnescaped_108 rfl (q_as s i 3) (by decide) ?_
              refine g_goto (pc := 111) (tgt := 3) dc_B_putUnescaped_111 rfl ?_
              have hy1 := tt_ch hx0 c1 hca (Ne.symm hbc)
              have hn1 : c ≠ b1 := by have h9 := c1.2.1; have h8 := tt_lt hx0; omega
              have hy2 := tt_ch hy1 c2 hca hn1
              have hn2 : c ≠ b2 := by have h9 := c2.2.1; have h8 := tt_lt hy1; omega
              have hy3 := tt_ch hy2 c3 hca hn2
              have hn3 : c ≠ b3 := by have h9 := c3.2.1; have h8 := tt_lt hy2; omega
              rw [us_q hc21 hpl, ua_s hc21] at hst
              refine am_wk (am_le_s (am_le_s (am_le_s (am_le_s (am_le_s (am_le_n am_le_0)))))) ?_
              refine am_G.mono (l_B_putUnescaped hbt ht m (i + 3) b3 cap3 h3 (((R ++ [by8 37]) ++ [by8 (ch 6 (k21 / 16))]) ++ [by8 (ch 6 (k21 % 16))]) (by omega) (by omega) p3 hy3 (Ne.symm hn3) (by rw [show (((R ++ [by8 37]) ++ [by8 (ch 6 (k21 / 16))]) ++ [by8 (ch 6 (k21 % 16))]).length = R.length + 3 by simp]; omega)) (fun r h9 hq => ⟨hq.1, ?_⟩)
              have e9 : R ++ uf L i t = (((R ++ [by8 37]) ++ [by8 (ch 6 (k21 / 16))]) ++ [by8 (ch 6 (k21 % 16))]) ++ uf L (i + 3) t := by rw [hst]; simp [show by8 37 = 37 from rfl, by8_bt (bt_ch (i := 6) (k := k21 / 16) (by decide) (by show k21 / 16 < 16; omega)), by8_bt (bt_ch (i := 6) (k := k21 % 16) (by decide) (by show k21 % 16 < 16; omega))]
              rw [e9]
              exact (toB.step c1 m1 (by simp <;> omega) (toB.step c2 m2 (by simp <;> omega) (toB.step c3 m3 (by simp <;> omega) hq.2)))
            · have hk62 := (cb64 hx1) k62 hc62
              have hpl : plB (nI k21) = true := (plB_5 hc43 hc51 (inc_s hx2 hc62))
              have hp9 := plB_all k21 (by omega) hpl
              refine g_aload_n (pc := 65) dc_B_putUnescaped_65 rfl ?_
              refine g_iload (pc := 66) dc_B_putUnescaped_66 rfl ?_
              refine g_v1 (pc := 68) (M' := mt_B_put) dc_B_putUnescaped_68 mo_B_put im_B_put se_B_put ln_B_29 ha rfl rfl (Nat.le_of_ble_eq_true rfl) (Nat.le_of_ble_eq_true rfl) (am_G.mono (c_B_put (d := d + 2) (v := nI k21) hB (by omega)) ?_)
              intro r h1 hq
              obtain ⟨rfl, b1, cap1, p1, c1, m1⟩ := hq
              refine ⟨am_nt0, ?_⟩
              refine g_goto (pc := 71) (tgt := 108) dc_B_putUnescaped_71 rfl ?_
              refine g_iinc (pc := 108) (v := (nI (s + (i + 3)))) dc_B_putUnescaped_108 rfl (q_as s i 3) (by decide) ?_
              refine g_goto (pc := 111) (tgt := 3) dc_B_putUnescaped_111 rfl ?_
              have hy1 := tt_ch hx0 c1 hca (Ne.symm hbc)
              have hn1 : c ≠ b1 := by have h9 := c1.2.1; have h8 := tt_lt hx0; omega
              rw [us_p hc21 hpl, ua_s hc21] at hst
              refine am_wk (am_le_s (am_le_s (am_le_s (am_le_s (am_le_s (am_le_n am_le_0)))))) ?_
              refine am_G.mono (l_B_putUnescaped hbt ht m (i + 3) b1 cap1 h1 (R ++ [by8 (nI k21)]) (by omega) (by omega) p1 hy1 (Ne.symm hn1) (by rw [show (R ++ [by8 (nI k21)]).length = R.length + 1 by simp]; omega)) (fun r h9 hq => ⟨hq.1, ?_⟩)
              have e9 : R ++ uf L i t = (R ++ [by8 (nI k21)]) ++ uf L (i + 3) t := by rw [hst]; simp [by8_bt (bt_nI (show k21 < 128 by omega))]
              rw [e9]
              exact (toB.step c1 m1 (by simp <;> omega) hq.2)
      · rw [hc21]
        refine g_aload_n (pc := 24) dc_B_putUnescaped_24 rfl ?_
        refine g_aload_n (pc := 25) dc_B_putUnescaped_25 rfl ?_
        refine g_iload (pc := 26) dc_B_putUnescaped_26 rfl ?_
        refine q_tx (pc := 28) i dc_B_putUnescaped_28 hc1 hT hs (by omega) hc ?_
        refine g_v1 (pc := 29) (M' := mt_B_put) dc_B_putUnescaped_29 mo_B_put im_B_put se_B_put ln_B_29 ha rfl rfl (Nat.le_of_ble_eq_true rfl) (Nat.le_of_ble_eq_true rfl) (am_G.mono (c_B_put (d := d + 2) (v := gx L i) hB (by omega)) ?_)
        intro r h1 hq
        obtain ⟨rfl, b1, cap1, p1, c1, m1⟩ := hq
        refine ⟨am_nt0, ?_⟩
        refine g_iinc (pc := 32) (v := (nI (s + (i + 1)))) dc_B_putUnescaped_32 rfl (q_as s i 1) (by decide) ?_
        refine g_goto (pc := 35) (tgt := 3) dc_B_putUnescaped_35 rfl ?_
        have hy1 := tt_ch hx0 c1 hca (Ne.symm hbc)
        have hn1 : c ≠ b1 := by have h9 := c1.2.1; have h8 := tt_lt hx0; omega
        rw [us_n hc21, ua_n hc21] at hst
        refine am_wk (am_le_s (am_le_s (am_le_s (am_le_s (am_le_s (am_le_n am_le_0)))))) ?_
        refine am_G.mono (l_B_putUnescaped hbt ht m (i + 1) b1 cap1 h1 (R ++ [by8 (gx L i)]) (by omega) (by omega) p1 hy1 (Ne.symm hn1) (by rw [show (R ++ [by8 (gx L i)]).length = R.length + 1 by simp]; omega)) (fun r h9 hq => ⟨hq.1, ?_⟩)
        have e9 : R ++ uf L i t = (R ++ [by8 (gx L i)]) ++ uf L (i + 1) t := by rw [hst]; simp [by8_bt (hbt i)]
        rw [e9]
        exact (toB.step c1 m1 (by simp <;> omega) hq.2)
    · obtain rfl : i = t := by omega
      rw [uf_nil (Nat.le_refl i), List.append_nil]
      obtain ⟨cp, g, hc1, hT, hs, hc⟩ := hx
      refine g_iload (pc := 3) dc_B_putUnescaped_3 rfl ?_
      refine g_iload_n (pc := 5) dc_B_putUnescaped_5 rfl ?_
      refine q_icmp_ge (pc := 6) (tgt := 114) (s + i) (s + i) dc_B_putUnescaped_6 (by omega) (by omega) rfl (fun hc6 => ?_) (fun hc => absurd hc (by omega))
      exact g_return dc_B_putUnescaped_114 rfl ⟨rfl, hB.rf⟩
theorem c_B_putUnescaped {b cap : Nat} {h : List va_E} {R : List Int32} (hbt : ∀ j, bt (gx L j)) (ht : t ≤ L.length) (hft : f ≤ t) (hB : isB h a b cap R) (hx : tt h c s L) (hbc : b ≠ c) (hl : R.length + (t - f) < 8388608) : am_C X mt_B_putUnescaped (d + 5) [.ref a, .ref c, .int (nI (s + f)), .int (nI (s + t))] h (fun r h1 => r = none ∧ toB h h1 a b cap (R ++ uf L f t)) := by
  show am_G X mt_B_putUnescaped (d + 5) 0 [some (.ref a), some (.ref c), some (.int (nI (s + f))), some (.int (nI (s + t))), none, none] [] h _
  refine g_iload_n (pc := 0) dc_B_putUnescaped_0 rfl ?_
  refine g_istore (pc := 1) dc_B_putUnescaped_1 (by decide) ?_
  exact l_B_putUnescaped hbt ht (t - f) f b cap h R (Nat.le_refl _) hft hB hx hbc hl
def cb (i : Nat) : List Int32 := (am_si i).2.2.2
theorem l_B_putText {i : Nat} (hi : i < 42) : ∀ (m k b cap : Nat) (h : List va_E) (R : List Int32), k + m = cln i → isB h a b cap R → R.length + m < 1000000 → am_G X mt_B_putText (d + 4) 2 [some (.ref a), some (.retAddr i), some (.int (nI k))] [] h (fun r h1 => r = none ∧ toB h h1 a b cap (R ++ (cb i).drop k))
  | 0, k, b, cap, h, R, e, hB, hl => by
    have hcl := ch_len hi
    rw [List.drop_eq_nil_of_le (by show cln i ≤ k; omega), List.append_nil]
    refine g_iload_n (pc := 2) dc_B_putText_2 rfl ?_
    refine g_xload_n (pc := 3) dc_B_putText_3 rfl ?_
    refine g_x0 (pc := 4) (M' := mt_JString_length) dc_B_putText_4 mo_JString_length im_JString_length se_JString_length (am_t3 126 rfl rfl) hi (Nat.le_of_ble_eq_true rfl) (Nat.le_of_ble_eq_true rfl) (am_G.mono (c_strLen hi) ?_)
    intro r h1 hq
    rw [hq.1, hq.2]
    clear hq h1 r
    refine ⟨am_nti _, ?_⟩
    refine q_icmp_ge (pc := 7) (tgt := 25) k (cln i) dc_B_putText_7 (by omega) (by omega) rfl (fun hc7 => ?_) (fun hc => absurd hc (by omega))
    exact g_return dc_B_putText_25 rfl ⟨rfl, hB.rf⟩
  | m + 1, k, b, cap, h, R, e, hB, hl => by
    have hcl := ch_len hi
    refine g_iload_n (pc := 2) dc_B_putText_2 rfl ?_
    refine g_xload_n (pc := 3) dc_B_putText_3 rfl ?_
    refine g_x0 (pc := 4) (M' := mt_JString_length) dc_B_putText_4 mo_JString_length im_JString_length se_JString_length (am_t3 126 rfl rfl) hi (Nat.le_of_ble_eq_true rfl) (Nat.le_of_ble_eq_true rfl) (am_G.mono (c_strLen hi) ?_)
    intro r h1 hq
    rw [hq.1, hq.2]
    clear hq h1 r
    refine ⟨am_nti _, ?_⟩
    refine q_icmp_ge (pc := 7) (tgt := 25) k (cln i) dc_B_putText_7 (by omega) (by omega) rfl (fun hc => absurd hc (by omega)) (fun hc7 => ?_)
    refine g_aload_n (pc := 10) dc_B_putText_10 rfl ?_
    refine g_xload_n (pc := 11) dc_B_putText_11 rfl ?_
    refine g_iload_n (pc := 12) dc_B_putText_12 rfl ?_
    refine g_x1 (pc := 13) (M' := mt_JString_charAt) dc_B_putText_13 mo_JString_charAt im_JString_charAt se_JString_charAt (am_t3 127 rfl rfl) hi (Nat.le_of_ble_eq_true rfl) (Nat.le_of_ble_eq_true rfl) (am_G.mono (c_charAt (k := k) hi (by omega)) ?_)
    intro r h1 hq
    rw [hq.1, hq.2]
    clear hq h1 r
    refine ⟨am_nti _, ?_⟩
    refine g_v1 (pc := 16) (M' := mt_B_put) dc_B_putText_16 mo_B_put im_B_put se_B_put ln_B_29 hB.ha rfl rfl (Nat.le_of_ble_eq_true rfl) (Nat.le_of_ble_eq_true rfl) (am_G.mono (c_B_put (d := d + 1) (v := ch i k) hB (by omega)) ?_)
    intro r h1 hq
    obtain ⟨rfl, b1, cap1, p1, c1, m1⟩ := hq
    refine ⟨am_nt0, ?_⟩
    refine g_iinc (pc := 19) (v := (nI (k + 1))) dc_B_putText_19 rfl (nI_add k 1) (by decide) ?_
    refine g_goto (pc := 22) (tgt := 2) dc_B_putText_22 rfl ?_
    have e9 : R ++ (cb i).drop k = (R ++ [by8 (ch i k)]) ++ (cb i).drop (k + 1) := by
      rw [by8_bt (bt_ch hi (by omega)), List.append_assoc, List.drop_eq_getElem_cons (show k < (cb i).length by show k < cln i; omega)]
      have e8 : ch i k = (cb i)[k]'(by show k < cln i; omega) := gx_eq (L := cb i) (by show k < cln i; omega)
      rw [e8]
      rfl
    refine am_G.mono (l_B_putText hi m (k + 1) b1 cap1 h1 (R ++ [by8 (ch i k)]) (by omega) p1 (by simp; omega)) (fun r h2 hq => ⟨hq.1, ?_⟩)
    rw [e9]
    exact toB.step c1 m1 (by simp) hq.2
theorem c_B_putText {i b cap : Nat} {h : List va_E} {R : List Int32} (hi : i < 42) (hB : isB h a b cap R) (hl : R.length < 900000) : am_C X mt_B_putText (d + 4) [.ref a, .retAddr i] h (fun r h1 => r = none ∧ toB h h1 a b cap (R ++ cb i)) := by
  show am_G X mt_B_putText (d + 4) 0 [some (.ref a), some (.retAddr i), none] [] h _
  refine g_iconst (pc := 0) (v := 0) dc_B_putText_0 rfl ?_
  refine g_istore_n (pc := 1) dc_B_putText_1 (by decide) ?_
  exact l_B_putText hi (cln i) 0 b cap h R (by omega) hB (by have := ch_len hi; omega)
end UNG
