/-! ===== the class: a page is made; the web's pages ===== -/
/-- the web's object -/
def vO (w : Gw) (h : List va_E) (n m : Nat) : Prop := cO w h 26 26 (.inr (6, [.int (nI n), .ref 27, .ref 28, .int (nI m)]))
/-- an array of pages with its owner -/
def pA (w : Gw) (h : List va_E) (i n : Nat) (g : Nat → Option Nat) : Prop := cO w h i i (.inl (4, n, .inr (.inr (.inr (.inr g)))))
/-- the web's pages -/
def pgC (w : Gw) (h : List va_E) (P : List Pg) : Prop := ∃ g, pA w h 27 60 g ∧ ∀ k, k < P.length → ∃ pg, g k = some pg ∧ gG w h pg (gP P k)
/-- a page is told -/
def pgx (P : List Pg) (x : Pg) : Option (List Pg) := match nbr (pad P) x.1 with
  | some j => some (P.set j x)
  | none => if P.length = 60 then none else some (P ++ [x])
section C1S
variable {X : am_X} {d i c pg a b tp tb f t cap cap2 n m k s : Nat} {w w1 : Gw} {h h1 : List va_E} {L D : List Int32} {x y : Pg} {I : List Nat} {P : List Pg} {g g2 : Nat → Int32} {gp : Nat → Option Nat}
theorem vO.fr (z : vO w h n m) (f : fr w w1 h h1 I) (hi : ¬ 26 ∈ I) : vO w1 h1 n m := cO.fr z f hi
theorem pgC.fr (z : pgC w h P) (f : fr w w1 h h1 I) (i1 : ¬ 27 ∈ I) (i2 : ¬ 99 ∈ I) : pgC w1 h1 P := by
  obtain ⟨g, a1, a2⟩ := z
  refine ⟨g, cO.fr a1 f i1, fun k hk => ?_⟩
  obtain ⟨pg, b1, b2⟩ := a2 k hk
  exact ⟨pg, b1, b2.fr f i2⟩
/-- what the maker of a page makes of the cells -/
def ginH (h : List va_E) (pg s : Nat) (g g2 : Nat → Int32) (m f t : Nat) : List va_E := ((h ++ ([.inl (0, m, .inl (va_cpy g (fun _ => 0) 0 0 m))] : List va_E)).set pg (.inr (10, [.ref h.length, .int (nI s), .null])) ++ ([.inl (0, t - f, .inl (va_cpy g2 (fun _ => 0) f 0 (t - f)))] : List va_E)).set pg (.inr (10, [.ref h.length, .int (nI s), .ref (h.length + 1)]))
theorem c_G_init (hp : h[pg]? = some (.inr (10, [.null, .int 0, .null]))) (ha : h[a]? = some (.inr (1, [.ref b, .int (nI m)]))) (hb : h[b]? = some (.inl (0, cap, .inl g))) (ht : h[tp]? = some (.inr (1, [.ref tb, .int (nI t)]))) (htb : h[tb]? = some (.inl (0, cap2, .inl g2))) (n1 : m < cap) (n2 : cap ≤ 33554432) (n3 : cap2 ≤ 33554432) (n4 : 1 ≤ f ∧ f ≤ t ∧ t ≤ cap2) (hg : ∀ j, bt (g j)) (hg2 : ∀ j, bt (g2 j)) : am_C X mt_G_init (d + 3) [.ref pg, .ref a, .int (nI s), .ref tp, .int (nI f)] h (fun r h1 => r = none ∧ h1 = ginH h pg s g g2 m f t) := by
  show am_G X mt_G_init (d + 3) 0 [some (.ref pg), some (.ref a), some (.int (nI s)), some (.ref tp), some (.int (nI f))] [] h _
  have hpl := am_lt hp
  have npa : pg ≠ a := fun e => by rw [e, ha] at hp; cases hp
  have npt : pg ≠ tp := fun e => by rw [e, ht] at hp; cases hp
  have npb : pg ≠ tb := fun e => by rw [e, htb] at hp; cases hp
  refine g_aload_n (pc := 0) dc_G_init_0 rfl ?_
  refine g_objInit (pc := 1) dc_G_init_1 ob_G_1 (Nat.le_of_ble_eq_true rfl) ?_
  refine g_aload_n (pc := 4) dc_G_init_4 rfl ?_
  refine g_aload_n (pc := 5) dc_G_init_5 rfl ?_
  refine g_getfield (pc := 6) dc_G_init_6 fl_G_7 ha rfl ?_
  refine g_aload_n (pc := 9) dc_G_init_9 rfl ?_
  refine g_getfield (pc := 10) dc_G_init_10 fl_G_13 ha rfl ?_
  refine g_s2 (pc := 13) (M' := mt_JArrays_copyOf_0) dc_G_init_13 mo_JArrays_copyOf_0 st_JArrays_copyOf_0 ln_G_17 (Nat.le_of_ble_eq_true rfl) (Nat.le_of_ble_eq_true rfl) (am_G.mono (c2_JArrays_copyOf_0 (d := d + 1) hb n1 (by omega) hg) ?_)
  intro r h1 hq
  rw [hq.1, hq.2]
  clear hq h1 r
  refine ⟨am_ntr _, ?_⟩
  refine g_putfield (pc := 16) dc_G_init_16 fp_G_init_23 (am_ap hp) (Nat.le_of_ble_eq_true rfl) rfl rfl ?_
  refine g_aload_n (pc := 19) dc_G_init_19 rfl ?_
  refine g_iload_n (pc := 20) dc_G_init_20 rfl ?_
  refine g_putfield (pc := 21) dc_G_init_21 fp_G_init_28 (am_se (am_lt (am_ap hp))) (Nat.le_of_ble_eq_true rfl) rfl rfl ?_
  rw [List.set_set]
  refine g_aload_n (pc := 24) dc_G_init_24 rfl ?_
  refine g_aload_n (pc := 25) dc_G_init_25 rfl ?_
  refine g_getfield (pc := 26) dc_G_init_26 fl_G_7 (am_sn npt (am_ap ht)) rfl ?_
  refine g_iload (pc := 29) dc_G_init_29 rfl ?_
  refine g_aload_n (pc := 31) dc_G_init_31 rfl ?_
  refine g_getfield (pc := 32) dc_G_init_32 fl_G_13 (am_sn npt (am_ap ht)) rfl ?_
  refine g_s3 (pc := 35) (M' := mt_JArrays_copyOfRange) dc_G_init_35 mo_JArrays_copyOfRange st_JArrays_copyOfRange ln_G_31 (Nat.le_of_ble_eq_true rfl) (Nat.le_of_ble_eq_true rfl) (am_G.mono (c_JArrays_copyOfRange (d := d) (am_sn npb (am_ap htb)) n4.1 n4.2.1 n4.2.2 (by omega) hg2) ?_)
  intro r h1 hq
  rw [hq.1, hq.2, List.length_set, List.length_append]
  clear hq h1 r
  refine ⟨am_ntr _, ?_⟩
  refine g_putfield (pc := 38) dc_G_init_38 fp_G_init_35 (am_ap (am_se (am_lt (am_ap hp)))) (Nat.le_of_ble_eq_true rfl) rfl rfl ?_
  exact g_return dc_G_init_41 rfl ⟨rfl, rfl⟩
theorem nbr_fst {Q : List (List Int32)} {x : List Int32} {k : Nat} (hk : k < Q.length) (h : gT Q k = x) (hn : ∀ j, j < k → ¬ gT Q j = x) : nbr Q x = some k := by
  have e := fx_eq (P := fun j => decide (¬ gT Q j = x)) (f := 0) (t := Q.length) (k := k) (Nat.zero_le _) (by omega) (fun j _ hj => decide_eq_true (hn j hj)) (fun _ => decide_eq_false (fun h9 => h9 h))
  unfold nbr
  rw [e, if_pos hk]
theorem l_V_pageNumber (hV : vO w h P.length n) (hP : pgC w h P) (h60 : P.length ≤ 60) (hB : bE w h i a D) : ∀ n9 k : Nat, k + n9 = P.length → (∀ j, j < k → ¬ gT (pad P) j = D) → am_G X mt_V_pageNumber (d + 2) 2 [some (.ref 26), some (.ref a), some (.int (nI k))] [] h (fun r h1 => r = some (.int (er (nbr (pad P) D))) ∧ h1 = h)
  | 0, k, e, hn => by
    refine g_iload_n (pc := 2) dc_V_pageNumber_2 rfl ?_
    refine g_aload_n (pc := 3) dc_V_pageNumber_3 rfl ?_
    refine g_getfield (pc := 4) dc_V_pageNumber_4 fl_V_23 hV.1 rfl ?_
    refine q_icmp_ge (pc := 7) (tgt := 31) k P.length dc_V_pageNumber_7 (by omega) (by omega) rfl (fun hc7 => ?_) (fun hc => absurd hc (by omega))
    refine g_iconst (pc := 31) (v := (-1)) dc_V_pageNumber_31 rfl ?_
    exact g_ireturn dc_V_pageNumber_32 rfl ⟨by rw [nbr_no (fun j hj => hn j (by rw [pad_len] at hj; omega))]; rfl, rfl⟩
  | n9 + 1, k, e, hn => by
    obtain ⟨g, hg, hg2⟩ := hP
    obtain ⟨pg, hp1, hp2⟩ := hg2 k (by omega)
    have hpo : ∃ a1 a2, h[pg]? = some (.inr (10, [.ref a1, .int (nI (gP P k).2.1), .ref a2])) := by obtain ⟨a1, a2, q1, -⟩ := hp2; exact ⟨a1, a2, q1.1⟩
    obtain ⟨a1, a2, hpgo⟩ := hpo
    refine g_iload_n (pc := 2) dc_V_pageNumber_2 rfl ?_
    refine g_aload_n (pc := 3) dc_V_pageNumber_3 rfl ?_
    refine g_getfield (pc := 4) dc_V_pageNumber_4 fl_V_23 hV.1 rfl ?_
    refine q_icmp_ge (pc := 7) (tgt := 31) k P.length dc_V_pageNumber_7 (by omega) (by omega) rfl (fun hc => absurd hc (by omega)) (fun hc7 => ?_)
    refine g_aload_n (pc := 10) dc_V_pageNumber_10 rfl ?_
    refine g_getfield (pc := 11) dc_V_pageNumber_11 fl_V_11 hV.1 rfl ?_
    refine g_iload_n (pc := 14) dc_V_pageNumber_14 rfl ?_
    refine q_aaload4 (pc := 15) k dc_V_pageNumber_15 hg.1 (by omega) (by omega) hp1 ?_
    refine g_aload_n (pc := 16) dc_V_pageNumber_16 rfl ?_
    refine g_v1 (pc := 17) (M' := mt_G_isAt) dc_V_pageNumber_17 mo_G_isAt im_G_isAt se_G_isAt ln_V_27 hpgo rfl rfl (Nat.le_of_ble_eq_true rfl) (Nat.le_of_ble_eq_true rfl) (am_G.mono (c_G_isAt (d := d) hp2 hB) ?_)
    intro r h1 hq
    rw [hq.1, hq.2]
    clear hq h1 r
    refine ⟨am_nti _, ?_⟩
    refine q_ifb_eq (pc := 20) (tgt := 25) dc_V_pageNumber_20 rfl (fun hc20 => ?_) (fun hc20 => ?_)
    · refine g_iinc (pc := 25) (v := (nI (k + 1))) dc_V_pageNumber_25 rfl (nI_add k 1) (by decide) ?_
      show am_G X mt_V_pageNumber _ 28 [some (.ref 26), some (.ref a), some (.int (nI (k + 1)))] [] _ _
      refine g_goto (pc := 28) (tgt := 2) dc_V_pageNumber_28 rfl ?_
      exact l_V_pageNumber hV ⟨g, hg, hg2⟩ h60 hB n9 (k + 1) (by omega) (fun j hj => by
        by_cases e9 : j = k
        · rw [e9, pad_g (by omega)]; exact of_decide_eq_false hc20
        · exact hn j (by omega))
    · refine g_iload_n (pc := 23) dc_V_pageNumber_23 rfl ?_
      exact g_ireturn dc_V_pageNumber_24 rfl ⟨by rw [nbr_fst (by rw [pad_len]; omega) ((pad_g (by omega)).trans (of_decide_eq_true hc20)) hn]; rfl, rfl⟩
theorem c_V_pageNumber (hV : vO w h P.length n) (hP : pgC w h P) (h60 : P.length ≤ 60) (hB : bE w h i a D) : am_C X mt_V_pageNumber (d + 2) [.ref 26, .ref a] h (fun r h1 => r = some (.int (er (nbr (pad P) D))) ∧ h1 = h) := by
  show am_G X mt_V_pageNumber (d + 2) 0 [some (.ref 26), some (.ref a), none] [] h _
  refine g_iconst (pc := 0) (v := 0) dc_V_pageNumber_0 rfl ?_
  refine g_istore_n (pc := 1) dc_V_pageNumber_1 (by decide) ?_
  show am_G X mt_V_pageNumber _ 2 [some (.ref 26), some (.ref a), some (.int 0)] [] _ _
  exact l_V_pageNumber hV hP h60 hB P.length 0 (by omega) (fun j hj => absurd hj (by omega))
end C1S
