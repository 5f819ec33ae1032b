/-! ===== the rules of a site: lines, and the class's collect ===== -/
/-- a line of rules that begins at p: where it ends, where a remark begins, its colon, its key, its value -/
def rlE (L : List Int32) (p : Nat) : Nat := fw (nev 10) L p L.length
def rlS (L : List Int32) (p : Nat) : Nat := fw (nev 35) L p (rlE L p)
def rlC (L : List Int32) (p : Nat) : Nat := fw (nev 58) L p (rlS L p)
def rlF (L : List Int32) (p : Nat) : Nat := fw isBl L p (rlC L p)
def rlG (L : List Int32) (p : Nat) : Nat := bw isBl L (rlF L p) (rlC L p)
def rlV (L : List Int32) (p : Nat) : Nat := fw isBl L (rlC L p + 1) (rlS L p)
def rlW (L : List Int32) (p : Nat) : Nat := bw isBl L (rlV L p) (rlS L p)
/-- its kind: 0 an agent, 1 allow, 2 disallow, 3 nothing -/
def rlK (L : List Int32) (p : Nat) : Nat := if rlC L p = rlS L p then 3 else if isw 12 L (rlF L p) (rlG L p) = true then 0 else if isw 13 L (rlF L p) (rlG L p) = true then 1 else if isw 14 L (rlF L p) (rlG L p) = true then 2 else 3
theorem rl_bd {L : List Int32} {p : Nat} (hp : p ≤ L.length) : p ≤ rlE L p ∧ rlE L p ≤ L.length ∧ p ≤ rlS L p ∧ rlS L p ≤ rlE L p ∧ p ≤ rlC L p ∧ rlC L p ≤ rlS L p ∧ p ≤ rlF L p ∧ rlF L p ≤ rlG L p ∧ rlG L p ≤ rlC L p := by
  have h1 := fw_bd (p := nev 10) (L := L) hp
  have h2 := fw_bd (p := nev 35) (L := L) h1.1
  have h3 := fw_bd (p := nev 58) (L := L) h2.1
  have h4 := fw_bd (p := isBl) (L := L) h3.1
  have h5 := bw_bd (p := isBl) (L := L) h4.2
  exact ⟨h1.1, h1.2, h2.1, h2.2, h3.1, h3.2, h4.1, h5.1, h5.2⟩
theorem rl_vw {L : List Int32} {p : Nat} (hc : rlC L p + 1 ≤ rlS L p) : rlC L p + 1 ≤ rlV L p ∧ rlV L p ≤ rlW L p ∧ rlW L p ≤ rlS L p := by
  have h1 := fw_bd (p := isBl) (L := L) hc
  have h2 := bw_bd (p := isBl) (L := L) h1.2
  exact ⟨h1.1, h2.1, h2.2⟩
/-- where the lines begin -/
def lns (L : List Int32) : Nat → Nat → List Nat
  | 0, _ => []
  | n + 1, p => if p < L.length then p :: lns L n (rlE L p + 1) else []
theorem lns_out {L : List Int32} {p : Nat} (h : L.length ≤ p) : ∀ n, lns L n p = []
  | 0 => rfl
  | n + 1 => if_neg (by omega)
theorem lns_s {L : List Int32} {p n : Nat} (h : p < L.length) : lns L (n + 1) p = p :: lns L n (rlE L p + 1) := if_pos h
theorem lns_more {L : List Int32} : ∀ n m p : Nat, L.length - p ≤ n → L.length - p ≤ m → lns L n p = lns L m p
  | 0, m, p, h, _ => by rw [lns_out (by omega), lns_out (by omega)]
  | n + 1, 0, p, _, h => by rw [lns_out (by omega), lns_out (by omega)]
  | n + 1, m + 1, p, h1, h2 => by
    by_cases hp : p < L.length
    · have := rl_bd (L := L) (p := p) (by omega)
      rw [lns_s hp, lns_s hp, lns_more n m (rlE L p + 1) (by omega) (by omega)]
    · rw [lns_out (by omega), lns_out (by omega)]
def lnm (L : List Int32) (p : Nat) : List Nat := lns L (L.length - p) p
theorem lnm_s {L : List Int32} {p : Nat} (h : p < L.length) : lnm L p = p :: lnm L (rlE L p + 1) := by
  have := rl_bd (L := L) (p := p) (by omega)
  unfold lnm
  rw [lns_more (L.length - p) (L.length - p + 1) p (Nat.le_refl _) (by omega), lns_s h, lns_more (L.length - p) (L.length - (rlE L p + 1)) (rlE L p + 1) (by omega) (Nat.le_refl _)]
theorem lnm_e {L : List Int32} {p : Nat} (h : L.length ≤ p) : lnm L p = [] := lns_out h _
/-- what is collected: seen, among agents, holds; what is allowed, what isn't -/
abbrev ClS : Type := Bool × Bool × Bool × List (List Int32) × List (List Int32)
def rpt (ho : Bool) (L : List Int32) (p : Nat) (T : List (List Int32)) : List (List Int32) := if ho = true ∧ rlV L p < rlW L p then T ++ [uf L (rlV L p) (rlW L p)] else T
def rlT (ag : Nat) (L : List Int32) (q : ClS) (p : Nat) : ClS := match rlK L p with
  | 0 => (q.1 || isw ag L (rlV L p) (rlW L p), true, isw ag L (rlV L p) (rlW L p) || (q.2.1 && q.2.2.1), q.2.2.2.1, q.2.2.2.2)
  | 1 => (q.1, false, q.2.2.1, rpt q.2.2.1 L p q.2.2.2.1, q.2.2.2.2)
  | 2 => (q.1, false, q.2.2.1, q.2.2.2.1, rpt q.2.2.1 L p q.2.2.2.2)
  | _ => q
def cll (ag : Nat) (L : List Int32) : ClS := (lnm L 0).foldl (rlT ag L) (false, false, false, [], [])
theorem rlT_0 {ag p : Nat} {L : List Int32} {q : ClS} (h : rlK L p = 0) : rlT ag L q p = (q.1 || isw ag L (rlV L p) (rlW L p), true, isw ag L (rlV L p) (rlW L p) || (q.2.1 && q.2.2.1), q.2.2.2.1, q.2.2.2.2) := by unfold rlT; rw [h]; rfl
theorem rlT_1 {ag p : Nat} {L : List Int32} {q : ClS} (h : rlK L p = 1) : rlT ag L q p = (q.1, false, q.2.2.1, rpt q.2.2.1 L p q.2.2.2.1, q.2.2.2.2) := by unfold rlT; rw [h]; rfl
theorem rlT_2 {ag p : Nat} {L : List Int32} {q : ClS} (h : rlK L p = 2) : rlT ag L q p = (q.1, false, q.2.2.1, q.2.2.2.1, rpt q.2.2.1 L p q.2.2.2.2) := by unfold rlT; rw [h]; rfl
theorem rlT_3 {ag p : Nat} {L : List Int32} {q : ClS} (h : rlK L p = 3) : rlT ag L q p = q := by unfold rlT; rw [h]; rfl
section COL
variable {X : am_X} {d i j a ab c s f t q u ag tc st al alb di dib : Nat} {w w1 : Gw} {h h1 : List va_E} {L M R P : List Int32} {T : List (List Int32)}
theorem w_B_putUnescaped (hi : i < 400) (hB : bE w h i a R) (hx : tO w h j c s L) (hij : ¬ j = i) (hft : f ≤ t) (ht : t ≤ L.length) (hl : 2 * (R.length + (t - f)) + 16 ≤ kb i) : am_C X mt_B_putUnescaped (d + 5) [.ref a, .ref c, .int (nI (s + f)), .int (nI (s + t))] h (fun r h1 => r = none ∧ ∃ w1, fr w w1 h h1 [i] ∧ bE w1 h1 i a (R ++ uf L f t)) := by
  obtain ⟨b, x1, x2, x3, x4⟩ := hB
  have := kb_le i
  have hu := uf_len (L := L) (t := t) (t - f) f (Nat.le_refl _)
  exact am_G.mono (c_B_putUnescaped hx.1.btg ht hft x1 hx.1.tt (fun e => hij (by rw [← hx.2, ← e]; exact x3)) (by omega)) (fun r h1 hq => ⟨hq.1, toB.wo hi x1.pos x2 x3 x4 hq.2 (by rw [List.length_append]; omega)⟩)
theorem w_T_addPattern (hi : i < 400) (hj : j < 400) (hij : ¬ i = j) (hR : rE w h i j a ab T []) (hx : tO w h q c s L) (hq : ¬ q = i ∧ ¬ q = j) (hft : f ≤ t) (ht : t ≤ L.length) (hl : 2 * (T.flatten.length + (t - f)) + 16 ≤ kb j) (hl2 : 2 * T.length + 18 ≤ kb i) : am_C X mt_T_addPattern (d + 6) [.ref a, .ref c, .int (nI (s + f)), .int (nI (s + t))] h (fun r h1 => r = none ∧ ∃ w1, fr w w1 h h1 [i, j] ∧ rE w1 h1 i j a ab (if f < t then T ++ [uf L f t] else T) []) := by
  show am_G X mt_T_addPattern (d + 6) 0 [some (.ref a), some (.ref c), some (.int (nI (s + f))), some (.int (nI (s + t)))] [] h _
  have hsl : s + L.length ≤ 33554432 := by obtain ⟨cap, g, z1, z2, z3, z4, -⟩ := hx.1; omega
  have hby := hR.by
  rw [List.append_nil] at hby
  have hR0 := hR
  obtain ⟨b, e, x1, x2, x3, x4, x9⟩ := hR
  obtain ⟨b9, hb9⟩ := hby
  have hu := uf_len (L := L) (t := t) (t - f) f (Nat.le_refl _)
  refine g_iload_n (pc := 0) dc_T_addPattern_0 rfl ?_
  refine g_iload_n (pc := 1) dc_T_addPattern_1 rfl ?_
  refine q_icmp_ge (pc := 2) (tgt := 19) (s + f) (s + t) dc_T_addPattern_2 (by omega) (by omega) rfl (fun hc2 => ?_) (fun hc2 => ?_)
  · exact g_return dc_T_addPattern_19 rfl (by rw [if_neg (by omega)]; exact ⟨rfl, w, fr.rf, hR0⟩)
  · refine g_aload_n (pc := 5) dc_T_addPattern_5 rfl ?_
    refine g_getfield (pc := 6) dc_T_addPattern_6 fl_T_77 x1.1 rfl ?_
    refine g_aload_n (pc := 9) dc_T_addPattern_9 rfl ?_
    refine g_iload_n (pc := 10) dc_T_addPattern_10 rfl ?_
    refine g_iload_n (pc := 11) dc_T_addPattern_11 rfl ?_
    refine g_v3 (pc := 12) (M' := mt_B_putUnescaped) dc_T_addPattern_12 mo_B_putUnescaped im_B_putUnescaped se_B_putUnescaped ln_T_80 hb9.1.ha rfl rfl (Nat.le_of_ble_eq_true rfl) (Nat.le_of_ble_eq_true rfl) (am_G.mono (w_B_putUnescaped (d := d) hj ⟨b9, hb9⟩ hx hq.2 hft ht (by omega)) ?_)
    intro r h1 hz
    obtain ⟨hz1, w1, g1, g2⟩ := hz
    rw [hz1]
    have hR1 := rE_up hR0 g1 hij g2
    have hR2 := hR1
    obtain ⟨b1, e1, y1, y2, y3, y4⟩ := hR1
    refine ⟨am_nt0, ?_⟩
    refine g_aload_n (pc := 15) dc_T_addPattern_15 rfl ?_
    refine g_v0 (pc := 16) (M' := mt_R_close) dc_T_addPattern_16 mo_R_close im_R_close se_R_close ln_T_84 y1.1 rfl rfl (Nat.le_of_ble_eq_true rfl) (Nat.le_of_ble_eq_true rfl) (am_G.mono (w_R_close (d := d + 3) hi hj hij hR2 (by omega) hl2) ?_)
    intro r h2 hz
    obtain ⟨hz2, w2, g3, g4⟩ := hz
    rw [hz2]
    refine ⟨am_nt0, ?_⟩
    exact g_return dc_T_addPattern_19 rfl (by rw [if_pos (by omega)]; exact ⟨rfl, w2, (g1.mo (fun x h9 => List.mem_cons_of_mem _ h9)).tr g3, g4⟩)
theorem rpt_t {ho : Bool} {L : List Int32} {p : Nat} {T : List (List Int32)} (h : ho = true) : rpt ho L p T = if rlV L p < rlW L p then T ++ [uf L (rlV L p) (rlW L p)] else T := by
  unfold rpt
  by_cases h9 : rlV L p < rlW L p
  · rw [if_pos h9, if_pos ⟨h, h9⟩]
  · rw [if_neg h9, if_neg (fun h8 => h9 h8.2)]
theorem rpt_l {ho : Bool} {L : List Int32} {p : Nat} {T : List (List Int32)} : (rpt ho L p T).flatten.length ≤ T.flatten.length + (rlW L p - rlV L p) ∧ (rpt ho L p T).length ≤ T.length + (rlW L p - rlV L p) := by
  have hul := uf_len (L := L) (t := rlW L p) (rlW L p - rlV L p) (rlV L p) (Nat.le_refl _)
  unfold rpt
  by_cases h : ho = true ∧ rlV L p < rlW L p
  · have h2 := h.2
    rw [if_pos h, List.flatten_append, List.length_append, List.length_append, List.flatten_cons, List.flatten_nil, List.append_nil]
    exact ⟨by omega, by show _ + 1 ≤ _; omega⟩
  · rw [if_neg h]
    exact ⟨by omega, by omega⟩
theorem l_T_collect {wa : Gw} {ha : List va_E} (hu : 100 ≤ u ∧ u ≤ 200) (hq : q < 100) (hi : ag < 42) (hL8 : L.length ≤ 8000) : ∀ (n p : Nat) (w0 : Gw) (h0 : List va_E) (se am ho : Bool) (A Dd : List (List Int32)), L.length - p ≤ n → A.flatten.length + (L.length - p) ≤ 8000 → Dd.flatten.length + (L.length - p) ≤ 8000 → A.length + (L.length - p) ≤ 8000 → Dd.length + (L.length - p) ≤ 8000 → fr wa w0 ha h0 [u + 2, u + 3, u + 4, u + 5] → cO w0 h0 u tc (.inr (11, [.ref st, .ref al, .ref di])) → rE w0 h0 (u + 2) (u + 3) al alb A [] → rE w0 h0 (u + 4) (u + 5) di dib Dd [] → tO w0 h0 q c s L → p ≤ L.length + 1 → am_G X mt_T_collect (d + 7) 26 [some (.ref tc), some (.ref c), none, some (.int (nI (s + L.length))), some (.retAddr ag), some (.int (b1 se)), some (.int (b1 am)), some (.int (b1 ho)), some (.int (nI (s + p))), none, none, none, none, none, none, none, none] [] h0 (fun r h1 => r = some (.int (b1 ((lns L n p).foldl (rlT ag L) (se, am, ho, A, Dd)).1)) ∧ ∃ w1, fr wa w1 ha h1 [u + 2, u + 3, u + 4, u + 5] ∧ cO w1 h1 u tc (.inr (11, [.ref st, .ref al, .ref di])) ∧ rE w1 h1 (u + 2) (u + 3) al alb ((lns L n p).foldl (rlT ag L) (se, am, ho, A, Dd)).2.2.2.1 [] ∧ rE w1 h1 (u + 4) (u + 5) di dib ((lns L n p).foldl (rlT ag L) (se, am, ho, A, Dd)).2.2.2.2 [])
  | 0, p, w0, h0, se, am, ho, A, Dd, hm, hb1, hb2, hb3, hb4, G0, hO0, hA0, hD0, hx0, hp1 => by
    have hsl : s + L.length ≤ 33554432 := by obtain ⟨cap, g, z1, z2, z3, z4, -⟩ := hx0.1; omega
    refine g_iload (pc := 26) dc_T_collect_26 rfl ?_
    refine g_iload_n (pc := 28) dc_T_collect_28 rfl ?_
    refine q_icmp_ge (pc := 29) (tgt := 283) (s + p) (s + L.length) dc_T_collect_29 (by omega) (by omega) rfl (fun hc29 => ?_) (fun hc => absurd hc (by omega))
    refine g_iload (pc := 283) dc_T_collect_283 rfl ?_
    exact g_zreturn dc_T_collect_285 rfl b1_z ⟨rfl, w0, G0, hO0, hA0, hD0⟩
  | n + 1, p, w0, h0, se, am, ho, A, Dd, hm, hb1, hb2, hb3, hb4, G0, hO0, hA0, hD0, hx0, hp1 => by
    have hsl : s + L.length ≤ 33554432 := by obtain ⟨cap, g, z1, z2, z3, z4, -⟩ := hx0.1; omega
    by_cases hp : p < L.length
    · have hrb := rl_bd (L := L) (p := p) (by omega)
      rw [lns_s hp, List.foldl_cons]
      have k20 : ∀ x, 100 ≤ x → ¬ x = 46 → 20016 ≤ kb x := fun x _ _ => kb_ge x
      have k3 := kb_ge (u + 3)
      have k2 := kb_ge (u + 2)
      have k5 := kb_ge (u + 5)
      have k4 := kb_ge (u + 4)
      by_cases hcs : rlC L p = rlS L p
      · rw [rlT_3 (show rlK L p = 3 from if_pos hcs)]
        refine g_iload (pc := 26) dc_T_collect_26 rfl ?_
        refine g_iload_n (pc := 28) dc_T_collect_28 rfl ?_
        refine q_icmp_ge (pc := 29) (tgt := 283) (s + p) (s + L.length) dc_T_collect_29 (by omega) (by omega) rfl (fun hc => absurd hc (by omega)) (fun hc29 => ?_)
        refine g_aload_n (pc := 32) dc_T_collect_32 rfl ?_
        refine g_bipush (pc := 33) (v := 10) dc_T_collect_33 rfl ?_
        refine g_iload (pc := 35) dc_T_collect_35 rfl ?_
        refine g_iload_n (pc := 37) dc_T_collect_37 rfl ?_
        refine g_s4 (pc := 38) (M' := mt_W_indexOf) dc_T_collect_38 mo_W_indexOf st_W_indexOf ln_T_47 (Nat.le_of_ble_eq_true rfl) (Nat.le_of_ble_eq_true rfl) (am_G.mono (t_W_indexOf (v := 10) (f := p) (t := L.length) hx0.1.tt (by omega) (by omega)) ?_)
        intro r h1 hq
        rw [hq.1, hq.2]
        clear hq h1 r
        refine ⟨am_nti _, ?_⟩
        rw [show fw (nev 10) L p L.length = rlE L p from rfl]
        refine g_istore (pc := 41) dc_T_collect_41 (by decide) ?_
        show am_G X mt_T_collect _ 43 [some (.ref tc), some (.ref c), none, some (.int (nI (s + L.length))), some (.retAddr ag), some (.int (b1 se)), some (.int (b1 am)), some (.int (b1 ho)), some (.int (nI (s + p))), some (.int (nI (s + (rlE L p)))), none, none, none, none, none, none, none] [] _ _
        refine g_aload_n (pc := 43) dc_T_collect_43 rfl ?_
        refine g_bipush (pc := 44) (v := 35) dc_T_collect_44 rfl ?_
        refine g_iload (pc := 46) dc_T_collect_46 rfl ?_
        refine g_iload (pc := 48) dc_T_collect_48 rfl ?_
        refine g_s4 (pc := 50) (M' := mt_W_indexOf) dc_T_collect_50 mo_W_indexOf st_W_indexOf ln_T_47 (Nat.le_of_ble_eq_true rfl) (Nat.le_of_ble_eq_true rfl) (am_G.mono (t_W_indexOf (v := 35) (f := p) (t := rlE L p) hx0.1.tt (by omega) (by omega)) ?_)
        intro r h1 hq
        rw [hq.1, hq.2]
        clear hq h1 r
        refine ⟨am_nti _, ?_⟩
        rw [show fw (nev 35) L p (rlE L p) = rlS L p from rfl]
        refine g_istore (pc := 53) dc_T_collect_53 (by decide) ?_
        show am_G X mt_T_collect _ 55 [some (.ref tc), some (.ref c), none, some (.int (nI (s + L.length))), some (.retAddr ag), some (.int (b1 se)), some (.int (b1 am)), some (.int (b1 ho)), some (.int (nI (s + p))), some (.int (nI (s + (rlE L p)))), some (.int (nI (s + (rlS L p)))), none, none, none, none, none, none] [] _ _
        refine g_aload_n (pc := 55) dc_T_collect_55 rfl ?_
        refine g_bipush (pc := 56) (v := 58) dc_T_collect_56 rfl ?_
        refine g_iload (pc := 58) dc_T_collect_58 rfl ?_
        refine g_iload (pc := 60) dc_T_collect_60 rfl ?_
        refine g_s4 (pc := 62) (M' := mt_W_indexOf) dc_T_collect_62 mo_W_indexOf st_W_indexOf ln_T_47 (Nat.le_of_ble_eq_true rfl) (Nat.le_of_ble_eq_true rfl) (am_G.mono (t_W_indexOf (v := 58) (f := p) (t := rlS L p) hx0.1.tt (by omega) (by omega)) ?_)
        intro r h1 hq
        rw [hq.1, hq.2]
        clear hq h1 r
        refine ⟨am_nti _, ?_⟩
        rw [show fw (nev 58) L p (rlS L p) = rlC L p from rfl]
        refine g_istore (pc := 65) dc_T_collect_65 (by decide) ?_
        show am_G X mt_T_collect _ 67 [some (.ref tc), some (.ref c), none, some (.int (nI (s + L.length))), some (.retAddr ag), some (.int (b1 se)), some (.int (b1 am)), some (.int (b1 ho)), some (.int (nI (s + p))), some (.int (nI (s + (rlE L p)))), some (.int (nI (s + (rlS L p)))), some (.int (nI (s + (rlC L p)))), none, none, none, none, none] [] _ _
        refine g_aload_n (pc := 67) dc_T_collect_67 rfl ?_
        refine g_iload (pc := 68) dc_T_collect_68 rfl ?_
        refine g_iload (pc := 70) dc_T_collect_70 rfl ?_
        refine g_s3 (pc := 72) (M' := mt_W_trimmedFrom) dc_T_collect_72 mo_W_trimmedFrom st_W_trimmedFrom ln_T_51 (Nat.le_of_ble_eq_true rfl) (Nat.le_of_ble_eq_true rfl) (am_G.mono (t_W_trimmedFrom (f := p) (t := rlC L p) hx0.1.tt (by omega) (by omega)) ?_)
        intro r h1 hq
        rw [hq.1, hq.2]
        clear hq h1 r
        refine ⟨am_nti _, ?_⟩
        rw [show fw isBl L p (rlC L p) = rlF L p from rfl]
        refine g_istore (pc := 75) dc_T_collect_75 (by decide) ?_
        show am_G X mt_T_collect _ 77 [some (.ref tc), some (.ref c), none, some (.int (nI (s + L.length))), some (.retAddr ag), some (.int (b1 se)), some (.int (b1 am)), some (.int (b1 ho)), some (.int (nI (s + p))), some (.int (nI (s + (rlE L p)))), some (.int (nI (s + (rlS L p)))), some (.int (nI (s + (rlC L p)))), some (.int (nI (s + (rlF L p)))), none, none, none, none] [] _ _
        refine g_aload_n (pc := 77) dc_T_collect_77 rfl ?_
        refine g_iload (pc := 78) dc_T_collect_78 rfl ?_
        refine g_iload (pc := 80) dc_T_collect_80 rfl ?_
        refine g_s3 (pc := 82) (M' := mt_W_trimmedTo) dc_T_collect_82 mo_W_trimmedTo st_W_trimmedTo ln_T_55 (Nat.le_of_ble_eq_true rfl) (Nat.le_of_ble_eq_true rfl) (am_G.mono (t_W_trimmedTo (f := rlF L p) (t := rlC L p) hx0.1.tt (by omega) (by omega)) ?_)
        intro r h1 hq
        rw [hq.1, hq.2]
        clear hq h1 r
        refine ⟨am_nti _, ?_⟩
        rw [show bw isBl L (rlF L p) (rlC L p) = rlG L p from rfl]
        refine g_istore (pc := 85) dc_T_collect_85 (by decide) ?_
        show am_G X mt_T_collect _ 87 [some (.ref tc), some (.ref c), none, some (.int (nI (s + L.length))), some (.retAddr ag), some (.int (b1 se)), some (.int (b1 am)), some (.int (b1 ho)), some (.int (nI (s + p))), some (.int (nI (s + (rlE L p)))), some (.int (nI (s + (rlS L p)))), some (.int (nI (s + (rlC L p)))), some (.int (nI (s + (rlF L p)))), some (.int (nI (s + (rlG L p)))), none, none, none] [] _ _
        refine g_aload_n (pc := 87) dc_T_collect_87 rfl ?_
        refine g_iload (pc := 88) dc_T_collect_88 rfl ?_
        refine g_iconst (pc := 90) (v := 1) dc_T_collect_90 rfl ?_
        refine g_iadd (pc := 91) (v := (nI (s + (rlC L p + 1)))) dc_T_collect_91 (q_as s (rlC L p) 1) ?_
        refine g_iload (pc := 92) dc_T_collect_92 rfl ?_
        refine g_s2 (pc := 94) (M' := mt_JMath_min) dc_T_collect_94 mo_JMath_min st_JMath_min ln_T_58 (Nat.le_of_ble_eq_true rfl) (Nat.le_of_ble_eq_true rfl) (am_G.mono (t_min (s := s) (x := rlC L p + 1) (y := rlS L p) (by omega) (by omega)) ?_)
        intro r h1 hq
        rw [hq.1, hq.2]
        clear hq h1 r
        refine ⟨am_nti _, ?_⟩
        have hb94 := nmin_bd (rlC L p + 1) (rlS L p)
        refine g_iload (pc := 97) dc_T_collect_97 rfl ?_
        refine g_s3 (pc := 99) (M' := mt_W_trimmedFrom) dc_T_collect_99 mo_W_trimmedFrom st_W_trimmedFrom ln_T_51 (Nat.le_of_ble_eq_true rfl) (Nat.le_of_ble_eq_true rfl) (am_G.mono (t_W_trimmedFrom (f := Nat.min (rlC L p + 1) (rlS L p)) (t := rlS L p) hx0.1.tt (by omega) (by omega)) ?_)
        intro r h1 hq
        rw [hq.1, hq.2]
        clear hq h1 r
        refine ⟨am_nti _, ?_⟩
        have hb99 := fw_bd (p := isBl) (L := L) (f := Nat.min (rlC L p + 1) (rlS L p)) (t := rlS L p) (by omega)
        refine g_istore (pc := 102) dc_T_collect_102 (by decide) ?_
        show am_G X mt_T_collect _ 104 [some (.ref tc), some (.ref c), none, some (.int (nI (s + L.length))), some (.retAddr ag), some (.int (b1 se)), some (.int (b1 am)), some (.int (b1 ho)), some (.int (nI (s + p))), some (.int (nI (s + (rlE L p)))), some (.int (nI (s + (rlS L p)))), some (.int (nI (s + (rlC L p)))), some (.int (nI (s + (rlF L p)))), some (.int (nI (s + (rlG L p)))), some (.int (nI (s + (fw isBl L (Nat.min (rlC L p + 1) (rlS L p)) (rlS L p))))), none, none] [] _ _
        refine g_aload_n (pc := 104) dc_T_collect_104 rfl ?_
        refine g_iload (pc := 105) dc_T_collect_105 rfl ?_
        refine g_iload (pc := 107) dc_T_collect_107 rfl ?_
        refine g_s3 (pc := 109) (M' := mt_W_trimmedTo) dc_T_collect_109 mo_W_trimmedTo st_W_trimmedTo ln_T_55 (Nat.le_of_ble_eq_true rfl) (Nat.le_of_ble_eq_true rfl) (am_G.mono (t_W_trimmedTo (f := fw isBl L (Nat.min (rlC L p + 1) (rlS L p)) (rlS L p)) (t := rlS L p) hx0.1.tt (by omega) (by omega)) ?_)
        intro r h1 hq
        rw [hq.1, hq.2]
        clear hq h1 r
        refine ⟨am_nti _, ?_⟩
        refine g_istore (pc := 112) dc_T_collect_112 (by decide) ?_
        show am_G X mt_T_collect _ 114 [some (.ref tc), some (.ref c), none, some (.int (nI (s + L.length))), some (.retAddr ag), some (.int (b1 se)), some (.int (b1 am)), some (.int (b1 ho)), some (.int (nI (s + p))), some (.int (nI (s + (rlE L p)))), some (.int (nI (s + (rlS L p)))), some (.int (nI (s + (rlC L p)))), some (.int (nI (s + (rlF L p)))), some (.int (nI (s + (rlG L p)))), some (.int (nI (s + (fw isBl L (Nat.min (rlC L p + 1) (rlS L p)) (rlS L p))))), some (.int (nI (s + (bw isBl L (fw isBl L (Nat.min (rlC L p + 1) (rlS L p)) (rlS L p)) (rlS L p))))), none] [] _ _
        refine g_iload (pc := 114) dc_T_collect_114 rfl ?_
        refine g_istore (pc := 116) dc_T_collect_116 (by decide) ?_
        show am_G X mt_T_collect _ 118 [some (.ref tc), some (.ref c), none, some (.int (nI (s + L.length))), some (.retAddr ag), some (.int (b1 se)), some (.int (b1 am)), some (.int (b1 ho)), some (.int (nI (s + (rlE L p)))), some (.int (nI (s + (rlE L p)))), some (.int (nI (s + (rlS L p)))), some (.int (nI (s + (rlC L p)))), some (.int (nI (s + (rlF L p)))), some (.int (nI (s + (rlG L p)))), some (.int (nI (s + (fw isBl L (Nat.min (rlC L p + 1) (rlS L p)) (rlS L p))))), some (.int (nI (s + (bw isBl L (fw isBl L (Nat.min (rlC L p + 1) (rlS L p)) (rlS L p)) (rlS L p))))), none] [] _ _
        refine g_iload (pc := 118) dc_T_collect_118 rfl ?_
        refine g_iload (pc := 120) dc_T_collect_120 rfl ?_
        refine q_icmp_ne (pc := 122) (tgt := 128) (s + (rlC L p)) (s + (rlS L p)) dc_T_collect_122 (by omega) (by omega) rfl (fun hc => absurd hc (by omega)) (fun hc122 => ?_)
        refine g_goto (pc := 125) (tgt := 277) dc_T_collect_125 rfl ?_
        refine g_iinc (pc := 277) (v := (nI (s + (rlE L p + 1)))) dc_T_collect_277 rfl (q_as s (rlE L p) 1) (by decide) ?_
        show am_G X mt_T_collect _ 280 [some (.ref tc), some (.ref c), none, some (.int (nI (s + L.length))), some (.retAddr ag), some (.int (b1 se)), some (.int (b1 am)), some (.int (b1 ho)), some (.int (nI (s + (rlE L p + 1)))), some (.int (nI (s + (rlE L p)))), some (.int (nI (s + (rlS L p)))), some (.int (nI (s + (rlC L p)))), some (.int (nI (s + (rlF L p)))), some (.int (nI (s + (rlG L p)))), some (.int (nI (s + (fw isBl L (Nat.min (rlC L p + 1) (rlS L p)) (rlS L p))))), some (.int (nI (s + (bw isBl L (fw isBl L (Nat.min (rlC L p + 1) (rlS L p)) (rlS L p)) (rlS L p))))), none] [] _ _
        refine g_goto (pc := 280) (tgt := 26) dc_T_collect_280 rfl ?_
        refine am_wk (am_le_s (am_le_s (am_le_n (am_le_s (am_le_s (am_le_s (am_le_s (am_le_s (am_le_s (am_le_n (am_le_n (am_le_n (am_le_n (am_le_n (am_le_n (am_le_n (am_le_n am_le_0))))))))))))))))) ?_
        exact l_T_collect hu hq hi hL8 n (rlE L p + 1) w0 h0 se am ho A Dd (by omega) (by omega) (by omega) (by omega) (by omega) G0 hO0 hA0 hD0 hx0 (by omega)
      · have hvw := rl_vw (L := L) (p := p) (by omega)
        refine g_iload (pc := 26) dc_T_collect_26 rfl ?_
        refine g_iload_n (pc := 28) dc_T_collect_28 rfl ?_
        refine q_icmp_ge (pc := 29) (tgt := 283) (s + p) (s + L.length) dc_T_collect_29 (by omega) (by omega) rfl (fun hc => absurd hc (by omega)) (fun hc29 => ?_)
        refine g_aload_n (pc := 32) dc_T_collect_32 rfl ?_
        refine g_bipush (pc := 33) (v := 10) dc_T_collect_33 rfl ?_
        refine g_iload (pc := 35) dc_T_collect_35 rfl ?_
        refine g_iload_n (pc := 37) dc_T_collect_37 rfl ?_
        refine g_s4 (pc := 38) (M' := mt_W_indexOf) dc_T_collect_38 mo_W_indexOf st_W_indexOf ln_T_47 (Nat.le_of_ble_eq_true rfl) (Nat.le_of_ble_eq_true rfl) (am_G.mono (t_W_indexOf (v := 10) (f := p) (t := L.length) hx0.1.tt (by omega) (by omega)) ?_)
        intro r h1 hq
        rw [hq.1, hq.2]
        clear hq h1 r
        refine ⟨am_nti _, ?_⟩
        rw [show fw (nev 10) L p L.length = rlE L p from rfl]
        refine g_istore (pc := 41) dc_T_collect_41 (by decide) ?_
        show am_G X mt_T_collect _ 43 [some (.ref tc), some (.ref c), none, some (.int (nI (s + L.length))), some (.retAddr ag), some (.int (b1 se)), some (.int (b1 am)), some (.int (b1 ho)), some (.int (nI (s + p))), some (.int (nI (s + (rlE L p)))), none, none, none, none, none, none, none] [] _ _
        refine g_aload_n (pc := 43) dc_T_collect_43 rfl ?_
        refine g_bipush (pc := 44) (v := 35) dc_T_collect_44 rfl ?_
        refine g_iload (pc := 46) dc_T_collect_46 rfl ?_
        refine g_iload (pc := 48) dc_T_collect_48 rfl ?_
        refine g_s4 (pc := 50) (M' := mt_W_indexOf) dc_T_collect_50 mo_W_indexOf st_W_indexOf ln_T_47 (Nat.le_of_ble_eq_true rfl) (Nat.le_of_ble_eq_true rfl) (am_G.mono (t_W_indexOf (v := 35) (f := p) (t := rlE L p) hx0.1.tt (by omega) (by omega)) ?_)
        intro r h1 hq
        rw [hq.1, hq.2]
        clear hq h1 r
        refine ⟨am_nti _, ?_⟩
        rw [show fw (nev 35) L p (rlE L p) = rlS L p from rfl]
        refine g_istore (pc := 53) dc_T_collect_53 (by decide) ?_
        show am_G X mt_T_collect _ 55 [some (.ref tc), some (.ref c), none, some (.int (nI (s + L.length))), some (.retAddr ag), some (.int (b1 se)), some (.int (b1 am)), some (.int (b1 ho)), some (.int (nI (s + p))), some (.int (nI (s + (rlE L p)))), some (.int (nI (s + (rlS L p)))), none, none, none, none, none, none] [] _ _
        refine g_aload_n (pc := 55) dc_T_collect_55 rfl ?_
        refine g_bipush (pc := 56) (v := 58) dc_T_collect_56 rfl ?_
        refine g_iload (pc := 58) dc_T_collect_58 rfl ?_
        refine g_iload (pc := 60) dc_T_collect_60 rfl ?_
        refine g_s4 (pc := 62) (M' := mt_W_indexOf) dc_T_collect_62 mo_W_indexOf st_W_indexOf ln_T_47 (Nat.le_of_ble_eq_true rfl) (Nat.le_of_ble_eq_true rfl) (am_G.mono (t_W_indexOf (v := 58) (f := p) (t := rlS L p) hx0.1.tt (by omega) (by omega)) ?_)
        intro r h1 hq
        rw [hq.1, hq.2]
        clear hq h1 r
        refine ⟨am_nti _, ?_⟩
        rw [show fw (nev 58) L p (rlS L p) = rlC L p from rfl]
        refine g_istore (pc := 65) dc_T_collect_65 (by decide) ?_
        show am_G X mt_T_collect _ 67 [some (.ref tc), some (.ref c), none, some (.int (nI (s + L.length))), some (.retAddr ag), some (.int (b1 se)), some (.int (b1 am)), some (.int (b1 ho)), some (.int (nI (s + p))), some (.int (nI (s + (rlE L p)))), some (.int (nI (s + (rlS L p)))), some (.int (nI (s + (rlC L p)))), none, none, none, none, none] [] _ _
        refine g_aload_n (pc := 67) dc_T_collect_67 rfl ?_
        refine g_iload (pc := 68) dc_T_collect_68 rfl ?_
        refine g_iload (pc := 70) dc_T_collect_70 rfl ?_
        refine g_s3 (pc := 72) (M' := mt_W_trimmedFrom) dc_T_collect_72 mo_W_trimmedFrom st_W_trimmedFrom ln_T_51 (Nat.le_of_ble_eq_true rfl) (Nat.le_of_ble_eq_true rfl) (am_G.mono (t_W_trimmedFrom (f := p) (t := rlC L p) hx0.1.tt (by omega) (by omega)) ?_)
        intro r h1 hq
        rw [hq.1, hq.2]
        clear hq h1 r
        refine ⟨am_nti _, ?_⟩
        rw [show fw isBl L p (rlC L p) = rlF L p from rfl]
        refine g_istore (pc := 75) dc_T_collect_75 (by decide) ?_
        show am_G X mt_T_collect _ 77 [some (.ref tc), some (.ref c), none, some (.int (nI (s + L.length))), some (.retAddr ag), some (.int (b1 se)), some (.int (b1 am)), some (.int (b1 ho)), some (.int (nI (s + p))), some (.int (nI (s + (rlE L p)))), some (.int (nI (s + (rlS L p)))), some (.int (nI (s + (rlC L p)))), some (.int (nI (s + (rlF L p)))), none, none, none, none] [] _ _
        refine g_aload_n (pc := 77) dc_T_collect_77 rfl ?_
        refine g_iload (pc := 78) dc_T_collect_78 rfl ?_
        refine g_iload (pc := 80) dc_T_collect_80 rfl ?_
        refine g_s3 (pc := 82) (M' := mt_W_trimmedTo) dc_T_collect_82 mo_W_trimmedTo st_W_trimmedTo ln_T_55 (Nat.le_of_ble_eq_true rfl) (Nat.le_of_ble_eq_true rfl) (am_G.mono (t_W_trimmedTo (f := rlF L p) (t := rlC L p) hx0.1.tt (by omega) (by omega)) ?_)
        intro r h1 hq
        rw [hq.1, hq.2]
        clear hq h1 r
        refine ⟨am_nti _, ?_⟩
        rw [show bw isBl L (rlF L p) (rlC L p) = rlG L p from rfl]
        refine g_istore (pc := 85) dc_T_collect_85 (by decide) ?_
        show am_G X mt_T_collect _ 87 [some (.ref tc), some (.ref c), none, some (.int (nI (s + L.length))), some (.retAddr ag), some (.int (b1 se)), some (.int (b1 am)), some (.int (b1 ho)), some (.int (nI (s + p))), some (.int (nI (s + (rlE L p)))), some (.int (nI (s + (rlS L p)))), some (.int (nI (s + (rlC L p)))), some (.int (nI (s + (rlF L p)))), some (.int (nI (s + (rlG L p)))), none, none, none] [] _ _
        refine g_aload_n (pc := 87) dc_T_collect_87 rfl ?_
        refine g_iload (pc := 88) dc_T_collect_88 rfl ?_
        refine g_iconst (pc := 90) (v := 1) dc_T_collect_90 rfl ?_
        refine g_iadd (pc := 91) (v := (nI (s + (rlC L p + 1)))) dc_T_collect_91 (q_as s (rlC L p) 1) ?_
        refine g_iload (pc := 92) dc_T_collect_92 rfl ?_
        refine g_s2 (pc := 94) (M' := mt_JMath_min) dc_T_collect_94 mo_JMath_min st_JMath_min ln_T_58 (Nat.le_of_ble_eq_true rfl) (Nat.le_of_ble_eq_true rfl) (am_G.mono (t_min (s := s) (x := rlC L p + 1) (y := rlS L p) (by omega) (by omega)) ?_)
        intro r h1 hq
        rw [hq.1, hq.2]
        clear hq h1 r
        refine ⟨am_nti _, ?_⟩
        rw [show Nat.min (rlC L p + 1) (rlS L p) = rlC L p + 1 from Nat.min_eq_left (by omega)]
        refine g_iload (pc := 97) dc_T_collect_97 rfl ?_
        refine g_s3 (pc := 99) (M' := mt_W_trimmedFrom) dc_T_collect_99 mo_W_trimmedFrom st_W_trimmedFrom ln_T_51 (Nat.le_of_ble_eq_true rfl) (Nat.le_of_ble_eq_true rfl) (am_G.mono (t_W_trimmedFrom (f := rlC L p + 1) (t := rlS L p) hx0.1.tt (by omega) (by omega)) ?_)
        intro r h1 hq
        rw [hq.1, hq.2]
        clear hq h1 r
        refine ⟨am_nti _, ?_⟩
        rw [show fw isBl L (rlC L p + 1) (rlS L p) = rlV L p from rfl]
        refine g_istore (pc := 102) dc_T_collect_102 (by decide) ?_
        show am_G X mt_T_collect _ 104 [some (.ref tc), some (.ref c), none, some (.int (nI (s + L.length))), some (.retAddr ag), some (.int (b1 se)), some (.int (b1 am)), some (.int (b1 ho)), some (.int (nI (s + p))), some (.int (nI (s + (rlE L p)))), some (.int (nI (s + (rlS L p)))), some (.int (nI (s + (rlC L p)))), some (.int (nI (s + (rlF L p)))), some (.int (nI (s + (rlG L p)))), some (.int (nI (s + (rlV L p)))), none, none] [] _ _
        refine g_aload_n (pc := 104) dc_T_collect_104 rfl ?_
        refine g_iload (pc := 105) dc_T_collect_105 rfl ?_
        refine g_iload (pc := 107) dc_T_collect_107 rfl ?_
        refine g_s3 (pc := 109) (M' := mt_W_trimmedTo) dc_T_collect_109 mo_W_trimmedTo st_W_trimmedTo ln_T_55 (Nat.le_of_ble_eq_true rfl) (Nat.le_of_ble_eq_true rfl) (am_G.mono (t_W_trimmedTo (f := rlV L p) (t := rlS L p) hx0.1.tt (by omega) (by omega)) ?_)
        intro r h1 hq
        rw [hq.1, hq.2]
        clear hq h1 r
        refine ⟨am_nti _, ?_⟩
        rw [show bw isBl L (rlV L p) (rlS L p) = rlW L p from rfl]
        refine g_istore (pc := 112) dc_T_collect_112 (by decide) ?_
        show am_G X mt_T_collect _ 114 [some (.ref tc), some (.ref c), none, some (.int (nI (s + L.length))), some (.retAddr ag), some (.int (b1 se)), some (.int (b1 am)), some (.int (b1 ho)), some (.int (nI (s + p))), some (.int (nI (s + (rlE L p)))), some (.int (nI (s + (rlS L p)))), some (.int (nI (s + (rlC L p)))), some (.int (nI (s + (rlF L p)))), some (.int (nI (s + (rlG L p)))), some (.int (nI (s + (rlV L p)))), some (.int (nI (s + (rlW L p)))), none] [] _ _
        refine g_iload (pc := 114) dc_T_collect_114 rfl ?_
        refine g_istore (pc := 116) dc_T_collect_116 (by decide) ?_
        show am_G X mt_T_collect _ 118 [some (.ref tc), some (.ref c), none, some (.int (nI (s + L.length))), some (.retAddr ag), some (.int (b1 se)), some (.int (b1 am)), some (.int (b1 ho)), some (.int (nI (s + (rlE L p)))), some (.int (nI (s + (rlE L p)))), some (.int (nI (s + (rlS L p)))), some (.int (nI (s + (rlC L p)))), some (.int (nI (s + (rlF L p)))), some (.int (nI (s + (rlG L p)))), some (.int (nI (s + (rlV L p)))), some (.int (nI (s + (rlW L p)))), none] [] _ _
        refine g_iload (pc := 118) dc_T_collect_118 rfl ?_
        refine g_iload (pc := 120) dc_T_collect_120 rfl ?_
        refine q_icmp_ne (pc := 122) (tgt := 128) (s + (rlC L p)) (s + (rlS L p)) dc_T_collect_122 (by omega) (by omega) rfl (fun hc122 => ?_) (fun hc => absurd hc (by omega))
        refine g_aload_n (pc := 128) dc_T_collect_128 rfl ?_
        refine g_iload (pc := 129) dc_T_collect_129 rfl ?_
        refine g_iload (pc := 131) dc_T_collect_131 rfl ?_
        refine g_ldcS (pc := 133) 12 dc_T_collect_133 (by decide) rfl rfl ?_
        refine g_s4 (pc := 135) (M' := mt_W_isLower) dc_T_collect_135 mo_W_isLower st_W_isLower ln_T_66 (Nat.le_of_ble_eq_true rfl) (Nat.le_of_ble_eq_true rfl) (am_G.mono (t_W_isLower (i := 12) (f := rlF L p) (t := rlG L p) hx0.1.tt (by decide) (by omega) (by omega)) ?_)
        intro r h1 hq
        rw [hq.1, hq.2]
        clear hq h1 r
        refine ⟨am_nti _, ?_⟩
        refine q_ifb_eq (pc := 138) (tgt := 198) dc_T_collect_138 rfl (fun hc138 => ?_) (fun hc138 => ?_)
        · refine g_aload_n (pc := 198) dc_T_collect_198 rfl ?_
          refine g_iload (pc := 199) dc_T_collect_199 rfl ?_
          refine g_iload (pc := 201) dc_T_collect_201 rfl ?_
          refine g_ldcS (pc := 203) 13 dc_T_collect_203 (by decide) rfl rfl ?_
          refine g_s4 (pc := 205) (M' := mt_W_isLower) dc_T_collect_205 mo_W_isLower st_W_isLower ln_T_66 (Nat.le_of_ble_eq_true rfl) (Nat.le_of_ble_eq_true rfl) (am_G.mono (t_W_isLower (i := 13) (f := rlF L p) (t := rlG L p) hx0.1.tt (by decide) (by omega) (by omega)) ?_)
          intro r h1 hq
          rw [hq.1, hq.2]
          clear hq h1 r
          refine ⟨am_nti _, ?_⟩
          refine q_ifb_eq (pc := 208) (tgt := 239) dc_T_collect_208 rfl (fun hc208 => ?_) (fun hc208 => ?_)
          · refine g_aload_n (pc := 239) dc_T_collect_239 rfl ?_
            refine g_iload (pc := 240) dc_T_collect_240 rfl ?_
            refine g_iload (pc := 242) dc_T_collect_242 rfl ?_
            refine g_ldcS (pc := 244) 14 dc_T_collect_244 (by decide) rfl rfl ?_
            refine g_s4 (pc := 246) (M' := mt_W_isLower) dc_T_collect_246 mo_W_isLower st_W_isLower ln_T_66 (Nat.le_of_ble_eq_true rfl) (Nat.le_of_ble_eq_true rfl) (am_G.mono (t_W_isLower (i := 14) (f := rlF L p) (t := rlG L p) hx0.1.tt (by decide) (by omega) (by omega)) ?_)
            intro r h1 hq
            rw [hq.1, hq.2]
            clear hq h1 r
            refine ⟨am_nti _, ?_⟩
            refine q_ifb_eq (pc := 249) (tgt := 277) dc_T_collect_249 rfl (fun hc249 => ?_) (fun hc249 => ?_)
            · refine g_iinc (pc := 277) (v := (nI (s + (rlE L p + 1)))) dc_T_collect_277 rfl (q_as s (rlE L p) 1) (by decide) ?_
              show am_G X mt_T_collect _ 280 [some (.ref tc), some (.ref c), none, some (.int (nI (s + L.length))), some (.retAddr ag), some (.int (b1 se)), some (.int (b1 am)), some (.int (b1 ho)), some (.int (nI (s + (rlE L p + 1)))), some (.int (nI (s + (rlE L p)))), some (.int (nI (s + (rlS L p)))), some (.int (nI (s + (rlC L p)))), some (.int (nI (s + (rlF L p)))), some (.int (nI (s + (rlG L p)))), some (.int (nI (s + (rlV L p)))), some (.int (nI (s + (rlW L p)))), none] [] _ _
              refine g_goto (pc := 280) (tgt := 26) dc_T_collect_280 rfl ?_
              rw [rlT_3 (show rlK L p = 3 from by unfold rlK; rw [if_neg hcs, if_neg (by rw [hc138]; decide), if_neg (by rw [hc208]; decide), if_neg (by rw [hc249]; decide)])]
              refine am_wk (am_le_s (am_le_s (am_le_n (am_le_s (am_le_s (am_le_s (am_le_s (am_le_s (am_le_s (am_le_n (am_le_n (am_le_n (am_le_n (am_le_n (am_le_n (am_le_n (am_le_n am_le_0))))))))))))))))) ?_
              exact l_T_collect hu hq hi hL8 n (rlE L p + 1) w0 h0 se am ho A Dd (by omega) (by omega) (by omega) (by omega) (by omega) G0 hO0 hA0 hD0 hx0 (by omega)
            · refine g_iconst (pc := 252) (v := 0) dc_T_collect_252 rfl ?_
              refine g_istore (pc := 253) dc_T_collect_253 (by decide) ?_
              show am_G X mt_T_collect _ 255 [some (.ref tc), some (.ref c), none, some (.int (nI (s + L.length))), some (.retAddr ag), some (.int (b1 se)), some (.int 0), some (.int (b1 ho)), some (.int (nI (s + (rlE L p)))), some (.int (nI (s + (rlE L p)))), some (.int (nI (s + (rlS L p)))), some (.int (nI (s + (rlC L p)))), some (.int (nI (s + (rlF L p)))), some (.int (nI (s + (rlG L p)))), some (.int (nI (s + (rlV L p)))), some (.int (nI (s + (rlW L p)))), none] [] _ _
              refine g_aload_n (pc := 255) dc_T_collect_255 rfl ?_
              refine g_getfield (pc := 256) dc_T_collect_256 fl_T_29 hO0.1 rfl ?_
              refine g_aload_n (pc := 259) dc_T_collect_259 rfl ?_
              refine g_iload (pc := 260) dc_T_collect_260 rfl ?_
              refine g_iload (pc := 262) dc_T_collect_262 rfl ?_
              refine q_ifb_eq (pc := 264) (tgt := 272) dc_T_collect_264 rfl (fun hc264 => ?_) (fun hc264 => ?_)
              · refine g_iload (pc := 272) dc_T_collect_272 rfl ?_
                refine g_s4 (pc := 274) (M' := mt_T_addPattern) dc_T_collect_274 mo_T_addPattern st_T_addPattern ln_T_71 (Nat.le_of_ble_eq_true rfl) (Nat.le_of_ble_eq_true rfl) (am_G.mono (w_T_addPattern (d := d) (f := rlV L p) (t := rlV L p) (by omega) (by omega) (by omega) hD0 hx0 (by omega) (by omega) (by omega) (by omega) (by omega)) ?_)
                intro r h1 hz
                obtain ⟨hz1, w1, g1, hD1⟩ := hz
                rw [hz1]
                have hO1 := hO0.fr g1 (by intro h9; simp only [List.mem_cons, List.not_mem_nil, or_false] at h9; omega)
                have hA1 := hA0.fr g1 (by intro h9; simp only [List.mem_cons, List.not_mem_nil, or_false] at h9; omega) (by intro h9; simp only [List.mem_cons, List.not_mem_nil, or_false] at h9; omega)
                have hx1 := hx0.fr g1 (by intro h9; simp only [List.mem_cons, List.not_mem_nil, or_false] at h9; omega)
                have G1 := G0.tr (g1.mo (by intro x h9; simp only [List.mem_cons, List.not_mem_nil, or_false] at h9 ⊢; omega))
                clear hz1 r
                refine ⟨am_nt0, ?_⟩
                refine g_iinc (pc := 277) (v := (nI (s + (rlE L p + 1)))) dc_T_collect_277 rfl (q_as s (rlE L p) 1) (by decide) ?_
                show am_G X mt_T_collect _ 280 [some (.ref tc), some (.ref c), none, some (.int (nI (s + L.length))), some (.retAddr ag), some (.int (b1 se)), some (.int 0), some (.int (b1 ho)), some (.int (nI (s + (rlE L p + 1)))), some (.int (nI (s + (rlE L p)))), some (.int (nI (s + (rlS L p)))), some (.int (nI (s + (rlC L p)))), some (.int (nI (s + (rlF L p)))), some (.int (nI (s + (rlG L p)))), some (.int (nI (s + (rlV L p)))), some (.int (nI (s + (rlW L p)))), none] [] _ _
                refine g_goto (pc := 280) (tgt := 26) dc_T_collect_280 rfl ?_
                rw [rlT_2 (show rlK L p = 2 from by unfold rlK; rw [if_neg hcs, if_neg (by rw [hc138]; decide), if_neg (by rw [hc208]; decide), if_pos hc249])]
                have hrp : rpt ho L p Dd = Dd := if_neg (fun h9 => by rw [hc264] at h9; exact absurd h9.1 (by decide))
                rw [if_neg (Nat.lt_irrefl _)] at hD1
                have eq8 : rpt ho L p Dd = Dd := hrp
                show am_G X mt_T_collect (d + 7) 26 _ [] h1 (fun r h1 => r = some (.int (b1 ((lns L n (rlE L p + 1)).foldl (rlT ag L) (se, false, ho, A, (rpt ho L p Dd))).1)) ∧ ∃ w1, fr wa w1 ha h1 [u + 2, u + 3, u + 4, u + 5] ∧ cO w1 h1 u tc (.inr (11, [.ref st, .ref al, .ref di])) ∧ rE w1 h1 (u + 2) (u + 3) al alb ((lns L n (rlE L p + 1)).foldl (rlT ag L) (se, false, ho, A, (rpt ho L p Dd))).2.2.2.1 [] ∧ rE w1 h1 (u + 4) (u + 5) di dib ((lns L n (rlE L p + 1)).foldl (rlT ag L) (se, false, ho, A, (rpt ho L p Dd))).2.2.2.2 [])
                rw [hrp]
                refine am_wk (am_le_s (am_le_s (am_le_n (am_le_s (am_le_s (am_le_s (am_le_s (am_le_s (am_le_s (am_le_n (am_le_n (am_le_n (am_le_n (am_le_n (am_le_n (am_le_n (am_le_n am_le_0))))))))))))))))) ?_
                exact l_T_collect hu hq hi hL8 n (rlE L p + 1) w1 h1 se false ho A Dd (by omega) (by omega) (by omega) (by omega) (by omega) G1 hO1 hA1 hD1 hx1 (by omega)
              · refine g_iload (pc := 267) dc_T_collect_267 rfl ?_
                refine g_goto (pc := 269) (tgt := 274) dc_T_collect_269 rfl ?_
                refine g_s4 (pc := 274) (M' := mt_T_addPattern) dc_T_collect_274 mo_T_addPattern st_T_addPattern ln_T_71 (Nat.le_of_ble_eq_true rfl) (Nat.le_of_ble_eq_true rfl) (am_G.mono (w_T_addPattern (d := d) (f := rlV L p) (t := rlW L p) (by omega) (by omega) (by omega) hD0 hx0 (by omega) (by omega) (by omega) (by omega) (by omega)) ?_)
                intro r h1 hz
                obtain ⟨hz1, w1, g1, hD1⟩ := hz
                rw [hz1]
                have hO1 := hO0.fr g1 (by intro h9; simp only [List.mem_cons, List.not_mem_nil, or_false] at h9; omega)
                have hA1 := hA0.fr g1 (by intro h9; simp only [List.mem_cons, List.not_mem_nil, or_false] at h9; omega) (by intro h9; simp only [List.mem_cons, List.not_mem_nil, or_false] at h9; omega)
                have hx1 := hx0.fr g1 (by intro h9; simp only [List.mem_cons, List.not_mem_nil, or_false] at h9; omega)
                have G1 := G0.tr (g1.mo (by intro x h9; simp only [List.mem_cons, List.not_mem_nil, or_false] at h9 ⊢; omega))
                clear hz1 r
                refine ⟨am_nt0, ?_⟩
                refine g_iinc (pc := 277) (v := (nI (s + (rlE L p + 1)))) dc_T_collect_277 rfl (q_as s (rlE L p) 1) (by decide) ?_
                show am_G X mt_T_collect _ 280 [some (.ref tc), some (.ref c), none, some (.int (nI (s + L.length))), some (.retAddr ag), some (.int (b1 se)), some (.int 0), some (.int (b1 ho)), some (.int (nI (s + (rlE L p + 1)))), some (.int (nI (s + (rlE L p)))), some (.int (nI (s + (rlS L p)))), some (.int (nI (s + (rlC L p)))), some (.int (nI (s + (rlF L p)))), some (.int (nI (s + (rlG L p)))), some (.int (nI (s + (rlV L p)))), some (.int (nI (s + (rlW L p)))), none] [] _ _
                refine g_goto (pc := 280) (tgt := 26) dc_T_collect_280 rfl ?_
                rw [rlT_2 (show rlK L p = 2 from by unfold rlK; rw [if_neg hcs, if_neg (by rw [hc138]; decide), if_neg (by rw [hc208]; decide), if_pos hc249])]
                have hrp : rpt ho L p Dd = if rlV L p < rlW L p then Dd ++ [uf L (rlV L p) (rlW L p)] else Dd := rpt_t hc264
                have hul := uf_len (L := L) (t := rlW L p) (rlW L p - rlV L p) (rlV L p) (Nat.le_refl _)
                have hrl := rpt_l (ho := ho) (T := Dd) (L := L) (p := p)
                rw [← hrp] at hD1
                show am_G X mt_T_collect (d + 7) 26 _ [] h1 (fun r h1 => r = some (.int (b1 ((lns L n (rlE L p + 1)).foldl (rlT ag L) (se, false, ho, A, (rpt ho L p Dd))).1)) ∧ ∃ w1, fr wa w1 ha h1 [u + 2, u + 3, u + 4, u + 5] ∧ cO w1 h1 u tc (.inr (11, [.ref st, .ref al, .ref di])) ∧ rE w1 h1 (u + 2) (u + 3) al alb ((lns L n (rlE L p + 1)).foldl (rlT ag L) (se, false, ho, A, (rpt ho L p Dd))).2.2.2.1 [] ∧ rE w1 h1 (u + 4) (u + 5) di dib ((lns L n (rlE L p + 1)).foldl (rlT ag L) (se, false, ho, A, (rpt ho L p Dd))).2.2.2.2 [])
                refine am_wk (am_le_s (am_le_s (am_le_n (am_le_s (am_le_s (am_le_s (am_le_s (am_le_s (am_le_s (am_le_n (am_le_n (am_le_n (am_le_n (am_le_n (am_le_n (am_le_n (am_le_n am_le_0))))))))))))))))) ?_
                exact l_T_collect hu hq hi hL8 n (rlE L p + 1) w1 h1 se false ho A (rpt ho L p Dd) (by omega) (by omega) (by omega) (by omega) (by omega) G1 hO1 hA1 hD1 hx1 (by omega)
          · refine g_iconst (pc := 211) (v := 0) dc_T_collect_211 rfl ?_
            refine g_istore (pc := 212) dc_T_collect_212 (by decide) ?_
            show am_G X mt_T_collect _ 214 [some (.ref tc), some (.ref c), none, some (.int (nI (s + L.length))), some (.retAddr ag), some (.int (b1 se)), some (.int 0), some (.int (b1 ho)), some (.int (nI (s + (rlE L p)))), some (.int (nI (s + (rlE L p)))), some (.int (nI (s + (rlS L p)))), some (.int (nI (s + (rlC L p)))), some (.int (nI (s + (rlF L p)))), some (.int (nI (s + (rlG L p)))), some (.int (nI (s + (rlV L p)))), some (.int (nI (s + (rlW L p)))), none] [] _ _
            refine g_aload_n (pc := 214) dc_T_collect_214 rfl ?_
            refine g_getfield (pc := 215) dc_T_collect_215 fl_T_25 hO0.1 rfl ?_
            refine g_aload_n (pc := 218) dc_T_collect_218 rfl ?_
            refine g_iload (pc := 219) dc_T_collect_219 rfl ?_
            refine g_iload (pc := 221) dc_T_collect_221 rfl ?_
            refine q_ifb_eq (pc := 223) (tgt := 231) dc_T_collect_223 rfl (fun hc223 => ?_) (fun hc223 => ?_)
            · refine g_iload (pc := 231) dc_T_collect_231 rfl ?_
              refine g_s4 (pc := 233) (M' := mt_T_addPattern) dc_T_collect_233 mo_T_addPattern st_T_addPattern ln_T_71 (Nat.le_of_ble_eq_true rfl) (Nat.le_of_ble_eq_true rfl) (am_G.mono (w_T_addPattern (d := d) (f := rlV L p) (t := rlV L p) (by omega) (by omega) (by omega) hA0 hx0 (by omega) (by omega) (by omega) (by omega) (by omega)) ?_)
              intro r h1 hz
              obtain ⟨hz1, w1, g1, hA1⟩ := hz
              rw [hz1]
              have hO1 := hO0.fr g1 (by intro h9; simp only [List.mem_cons, List.not_mem_nil, or_false] at h9; omega)
              have hD1 := hD0.fr g1 (by intro h9; simp only [List.mem_cons, List.not_mem_nil, or_false] at h9; omega) (by intro h9; simp only [List.mem_cons, List.not_mem_nil, or_false] at h9; omega)
              have hx1 := hx0.fr g1 (by intro h9; simp only [List.mem_cons, List.not_mem_nil, or_false] at h9; omega)
              have G1 := G0.tr (g1.mo (by intro x h9; simp only [List.mem_cons, List.not_mem_nil, or_false] at h9 ⊢; omega))
              clear hz1 r
              refine ⟨am_nt0, ?_⟩
              refine g_goto (pc := 236) (tgt := 277) dc_T_collect_236 rfl ?_
              refine g_iinc (pc := 277) (v := (nI (s + (rlE L p + 1)))) dc_T_collect_277 rfl (q_as s (rlE L p) 1) (by decide) ?_
              show am_G X mt_T_collect _ 280 [some (.ref tc), some (.ref c), none, some (.int (nI (s + L.length))), some (.retAddr ag), some (.int (b1 se)), some (.int 0), some (.int (b1 ho)), some (.int (nI (s + (rlE L p + 1)))), some (.int (nI (s + (rlE L p)))), some (.int (nI (s + (rlS L p)))), some (.int (nI (s + (rlC L p)))), some (.int (nI (s + (rlF L p)))), some (.int (nI (s + (rlG L p)))), some (.int (nI (s + (rlV L p)))), some (.int (nI (s + (rlW L p)))), none] [] _ _
              refine g_goto (pc := 280) (tgt := 26) dc_T_collect_280 rfl ?_
              rw [rlT_1 (show rlK L p = 1 from by unfold rlK; rw [if_neg hcs, if_neg (by rw [hc138]; decide), if_pos hc208])]
              have hrp : rpt ho L p A = A := if_neg (fun h9 => by rw [hc223] at h9; exact absurd h9.1 (by decide))
              rw [if_neg (Nat.lt_irrefl _)] at hA1
              have eq8 : rpt ho L p A = A := hrp
              show am_G X mt_T_collect (d + 7) 26 _ [] h1 (fun r h1 => r = some (.int (b1 ((lns L n (rlE L p + 1)).foldl (rlT ag L) (se, false, ho, (rpt ho L p A), Dd)).1)) ∧ ∃ w1, fr wa w1 ha h1 [u + 2, u + 3, u + 4, u + 5] ∧ cO w1 h1 u tc (.inr (11, [.ref st, .ref al, .ref di])) ∧ rE w1 h1 (u + 2) (u + 3) al alb ((lns L n (rlE L p + 1)).foldl (rlT ag L) (se, false, ho, (rpt ho L p A), Dd)).2.2.2.1 [] ∧ rE w1 h1 (u + 4) (u + 5) di dib ((lns L n (rlE L p + 1)).foldl (rlT ag L) (se, false, ho, (rpt ho L p A), Dd)).2.2.2.2 [])
              rw [hrp]
              refine am_wk (am_le_s (am_le_s (am_le_n (am_le_s (am_le_s (am_le_s (am_le_s (am_le_s (am_le_s (am_le_n (am_le_n (am_le_n (am_le_n (am_le_n (am_le_n (am_le_n (am_le_n am_le_0))))))))))))))))) ?_
              exact l_T_collect hu hq hi hL8 n (rlE L p + 1) w1 h1 se false ho A Dd (by omega) (by omega) (by omega) (by omega) (by omega) G1 hO1 hA1 hD1 hx1 (by omega)
            · refine g_iload (pc := 226) dc_T_collect_226 rfl ?_
              refine g_goto (pc := 228) (tgt := 233) dc_T_collect_228 rfl ?_
              refine g_s4 (pc := 233) (M' := mt_T_addPattern) dc_T_collect_233 mo_T_addPattern st_T_addPattern ln_T_71 (Nat.le_of_ble_eq_true rfl) (Nat.le_of_ble_eq_true rfl) (am_G.mono (w_T_addPattern (d := d) (f := rlV L p) (t := rlW L p) (by omega) (by omega) (by omega) hA0 hx0 (by omega) (by omega) (by omega) (by omega) (by omega)) ?_)
              intro r h1 hz
              obtain ⟨hz1, w1, g1, hA1⟩ := hz
              rw [hz1]
              have hO1 := hO0.fr g1 (by intro h9; simp only [List.mem_cons, List.not_mem_nil, or_false] at h9; omega)
              have hD1 := hD0.fr g1 (by intro h9; simp only [List.mem_cons, List.not_mem_nil, or_false] at h9; omega) (by intro h9; simp only [List.mem_cons, List.not_mem_nil, or_false] at h9; omega)
              have hx1 := hx0.fr g1 (by intro h9; simp only [List.mem_cons, List.not_mem_nil, or_false] at h9; omega)
              have G1 := G0.tr (g1.mo (by intro x h9; simp only [List.mem_cons, List.not_mem_nil, or_false] at h9 ⊢; omega))
              clear hz1 r
              refine ⟨am_nt0, ?_⟩
              refine g_goto (pc := 236) (tgt := 277) dc_T_collect_236 rfl ?_
              refine g_iinc (pc := 277) (v := (nI (s + (rlE L p + 1)))) dc_T_collect_277 rfl (q_as s (rlE L p) 1) (by decide) ?_
              show am_G X mt_T_collect _ 280 [some (.ref tc), some (.ref c), none, some (.int (nI (s + L.length))), some (.retAddr ag), some (.int (b1 se)), some (.int 0), some (.int (b1 ho)), some (.int (nI (s + (rlE L p + 1)))), some (.int (nI (s + (rlE L p)))), some (.int (nI (s + (rlS L p)))), some (.int (nI (s + (rlC L p)))), some (.int (nI (s + (rlF L p)))), some (.int (nI (s + (rlG L p)))), some (.int (nI (s + (rlV L p)))), some (.int (nI (s + (rlW L p)))), none] [] _ _
              refine g_goto (pc := 280) (tgt := 26) dc_T_collect_280 rfl ?_
              rw [rlT_1 (show rlK L p = 1 from by unfold rlK; rw [if_neg hcs, if_neg (by rw [hc138]; decide), if_pos hc208])]
              have hrp : rpt ho L p A = if rlV L p < rlW L p then A ++ [uf L (rlV L p) (rlW L p)] else A := rpt_t hc223
              have hul := uf_len (L := L) (t := rlW L p) (rlW L p - rlV L p) (rlV L p) (Nat.le_refl _)
              have hrl := rpt_l (ho := ho) (T := A) (L := L) (p := p)
              rw [← hrp] at hA1
              show am_G X mt_T_collect (d + 7) 26 _ [] h1 (fun r h1 => r = some (.int (b1 ((lns L n (rlE L p + 1)).foldl (rlT ag L) (se, false, ho, (rpt ho L p A), Dd)).1)) ∧ ∃ w1, fr wa w1 ha h1 [u + 2, u + 3, u + 4, u + 5] ∧ cO w1 h1 u tc (.inr (11, [.ref st, .ref al, .ref di])) ∧ rE w1 h1 (u + 2) (u + 3) al alb ((lns L n (rlE L p + 1)).foldl (rlT ag L) (se, false, ho, (rpt ho L p A), Dd)).2.2.2.1 [] ∧ rE w1 h1 (u + 4) (u + 5) di dib ((lns L n (rlE L p + 1)).foldl (rlT ag L) (se, false, ho, (rpt ho L p A), Dd)).2.2.2.2 [])
              refine am_wk (am_le_s (am_le_s (am_le_n (am_le_s (am_le_s (am_le_s (am_le_s (am_le_s (am_le_s (am_le_n (am_le_n (am_le_n (am_le_n (am_le_n (am_le_n (am_le_n (am_le_n am_le_0))))))))))))))))) ?_
              exact l_T_collect hu hq hi hL8 n (rlE L p + 1) w1 h1 se false ho (rpt ho L p A) Dd (by omega) (by omega) (by omega) (by omega) (by omega) G1 hO1 hA1 hD1 hx1 (by omega)
        · refine g_aload_n (pc := 141) dc_T_collect_141 rfl ?_
          refine g_iload (pc := 142) dc_T_collect_142 rfl ?_
          refine g_iload (pc := 144) dc_T_collect_144 rfl ?_
          refine g_xload (pc := 146) dc_T_collect_146 rfl ?_
          refine g_s4 (pc := 148) (M' := mt_W_isLower) dc_T_collect_148 mo_W_isLower st_W_isLower ln_T_66 (Nat.le_of_ble_eq_true rfl) (Nat.le_of_ble_eq_true rfl) (am_G.mono (t_W_isLower (i := ag) (f := rlV L p) (t := rlW L p) hx0.1.tt hi (by omega) (by omega)) ?_)
          intro r h1 hq
          rw [hq.1, hq.2]
          clear hq h1 r
          refine ⟨am_nti _, ?_⟩
          refine g_istore (pc := 151) dc_T_collect_151 (by decide) ?_
          show am_G X mt_T_collect _ 153 [some (.ref tc), some (.ref c), none, some (.int (nI (s + L.length))), some (.retAddr ag), some (.int (b1 se)), some (.int (b1 am)), some (.int (b1 ho)), some (.int (nI (s + (rlE L p)))), some (.int (nI (s + (rlE L p)))), some (.int (nI (s + (rlS L p)))), some (.int (nI (s + (rlC L p)))), some (.int (nI (s + (rlF L p)))), some (.int (nI (s + (rlG L p)))), some (.int (nI (s + (rlV L p)))), some (.int (nI (s + (rlW L p)))), some (.int (b1 (isw ag L (rlV L p) (rlW L p))))] [] _ _
          refine g_iload (pc := 153) dc_T_collect_153 rfl ?_
          refine q_ifb_ne (pc := 155) (tgt := 168) dc_T_collect_155 rfl (fun hc155 => ?_) (fun hc155 => ?_)
          · refine g_iconst (pc := 168) (v := 1) dc_T_collect_168 rfl ?_
            refine g_goto (pc := 169) (tgt := 173) dc_T_collect_169 rfl ?_
            refine g_istore (pc := 173) dc_T_collect_173 (by decide) ?_
            show am_G X mt_T_collect _ 175 [some (.ref tc), some (.ref c), none, some (.int (nI (s + L.length))), some (.retAddr ag), some (.int (b1 se)), some (.int (b1 am)), some (.int 1), some (.int (nI (s + (rlE L p)))), some (.int (nI (s + (rlE L p)))), some (.int (nI (s + (rlS L p)))), some (.int (nI (s + (rlC L p)))), some (.int (nI (s + (rlF L p)))), some (.int (nI (s + (rlG L p)))), some (.int (nI (s + (rlV L p)))), some (.int (nI (s + (rlW L p)))), some (.int (b1 (isw ag L (rlV L p) (rlW L p))))] [] _ _
            refine g_iload (pc := 175) dc_T_collect_175 rfl ?_
            refine q_ifb_ne (pc := 177) (tgt := 185) dc_T_collect_177 rfl (fun hc177 => ?_) (fun hc177 => ?_)
            · refine g_iconst (pc := 185) (v := 1) dc_T_collect_185 rfl ?_
              refine g_goto (pc := 186) (tgt := 190) dc_T_collect_186 rfl ?_
              refine g_istore (pc := 190) dc_T_collect_190 (by decide) ?_
              show am_G X mt_T_collect _ 192 [some (.ref tc), some (.ref c), none, some (.int (nI (s + L.length))), some (.retAddr ag), some (.int 1), some (.int (b1 am)), some (.int 1), some (.int (nI (s + (rlE L p)))), some (.int (nI (s + (rlE L p)))), some (.int (nI (s + (rlS L p)))), some (.int (nI (s + (rlC L p)))), some (.int (nI (s + (rlF L p)))), some (.int (nI (s + (rlG L p)))), some (.int (nI (s + (rlV L p)))), some (.int (nI (s + (rlW L p)))), some (.int (b1 (isw ag L (rlV L p) (rlW L p))))] [] _ _
              refine g_iconst (pc := 192) (v := 1) dc_T_collect_192 rfl ?_
              refine g_istore (pc := 193) dc_T_collect_193 (by decide) ?_
              show am_G X mt_T_collect _ 195 [some (.ref tc), some (.ref c), none, some (.int (nI (s + L.length))), some (.retAddr ag), some (.int 1), some (.int 1), some (.int 1), some (.int (nI (s + (rlE L p)))), some (.int (nI (s + (rlE L p)))), some (.int (nI (s + (rlS L p)))), some (.int (nI (s + (rlC L p)))), some (.int (nI (s + (rlF L p)))), some (.int (nI (s + (rlG L p)))), some (.int (nI (s + (rlV L p)))), some (.int (nI (s + (rlW L p)))), some (.int (b1 (isw ag L (rlV L p) (rlW L p))))] [] _ _
              refine g_goto (pc := 195) (tgt := 277) dc_T_collect_195 rfl ?_
              refine g_iinc (pc := 277) (v := (nI (s + (rlE L p + 1)))) dc_T_collect_277 rfl (q_as s (rlE L p) 1) (by decide) ?_
              show am_G X mt_T_collect _ 280 [some (.ref tc), some (.ref c), none, some (.int (nI (s + L.length))), some (.retAddr ag), some (.int 1), some (.int 1), some (.int 1), some (.int (nI (s + (rlE L p + 1)))), some (.int (nI (s + (rlE L p)))), some (.int (nI (s + (rlS L p)))), some (.int (nI (s + (rlC L p)))), some (.int (nI (s + (rlF L p)))), some (.int (nI (s + (rlG L p)))), some (.int (nI (s + (rlV L p)))), some (.int (nI (s + (rlW L p)))), some (.int (b1 (isw ag L (rlV L p) (rlW L p))))] [] _ _
              refine g_goto (pc := 280) (tgt := 26) dc_T_collect_280 rfl ?_
              rw [rlT_0 (show rlK L p = 0 from by unfold rlK; rw [if_neg hcs, if_pos hc138])]
              have eq9 : (se || isw ag L (rlV L p) (rlW L p), true, isw ag L (rlV L p) (rlW L p) || (am && ho), A, Dd) = (true, true, true, A, Dd) := by first | (simp [hc155, hc177]; done) | (exfalso; simp [hc155] at hc182)
              have eq8 : ((se, am, ho, A, Dd).1 || isw ag L (rlV L p) (rlW L p), true, isw ag L (rlV L p) (rlW L p) || ((se, am, ho, A, Dd).2.1 && (se, am, ho, A, Dd).2.2.1), (se, am, ho, A, Dd).2.2.2.1, (se, am, ho, A, Dd).2.2.2.2) = (true, true, true, A, Dd) := eq9
              rw [eq8]
              refine am_wk (am_le_s (am_le_s (am_le_n (am_le_s (am_le_s (am_le_s (am_le_s (am_le_s (am_le_s (am_le_n (am_le_n (am_le_n (am_le_n (am_le_n (am_le_n (am_le_n (am_le_n am_le_0))))))))))))))))) ?_
              exact l_T_collect hu hq hi hL8 n (rlE L p + 1) w0 h0 true true true A Dd (by omega) (by omega) (by omega) (by omega) (by omega) G0 hO0 hA0 hD0 hx0 (by omega)
            · refine g_iload (pc := 180) dc_T_collect_180 rfl ?_
              refine q_ifb_eq (pc := 182) (tgt := 189) dc_T_collect_182 rfl (fun hc182 => ?_) (fun hc182 => ?_)
              · refine g_iconst (pc := 189) (v := 0) dc_T_collect_189 rfl ?_
                refine g_istore (pc := 190) dc_T_collect_190 (by decide) ?_
                show am_G X mt_T_collect _ 192 [some (.ref tc), some (.ref c), none, some (.int (nI (s + L.length))), some (.retAddr ag), some (.int 0), some (.int (b1 am)), some (.int 1), some (.int (nI (s + (rlE L p)))), some (.int (nI (s + (rlE L p)))), some (.int (nI (s + (rlS L p)))), some (.int (nI (s + (rlC L p)))), some (.int (nI (s + (rlF L p)))), some (.int (nI (s + (rlG L p)))), some (.int (nI (s + (rlV L p)))), some (.int (nI (s + (rlW L p)))), some (.int (b1 (isw ag L (rlV L p) (rlW L p))))] [] _ _
                refine g_iconst (pc := 192) (v := 1) dc_T_collect_192 rfl ?_
                refine g_istore (pc := 193) dc_T_collect_193 (by decide) ?_
                show am_G X mt_T_collect _ 195 [some (.ref tc), some (.ref c), none, some (.int (nI (s + L.length))), some (.retAddr ag), some (.int 0), some (.int 1), some (.int 1), some (.int (nI (s + (rlE L p)))), some (.int (nI (s + (rlE L p)))), some (.int (nI (s + (rlS L p)))), some (.int (nI (s + (rlC L p)))), some (.int (nI (s + (rlF L p)))), some (.int (nI (s + (rlG L p)))), some (.int (nI (s + (rlV L p)))), some (.int (nI (s + (rlW L p)))), some (.int (b1 (isw ag L (rlV L p) (rlW L p))))] [] _ _
                refine g_goto (pc := 195) (tgt := 277) dc_T_collect_195 rfl ?_
                refine g_iinc (pc := 277) (v := (nI (s + (rlE L p + 1)))) dc_T_collect_277 rfl (q_as s (rlE L p) 1) (by decide) ?_
                show am_G X mt_T_collect _ 280 [some (.ref tc), some (.ref c), none, some (.int (nI (s + L.length))), some (.retAddr ag), some (.int 0), some (.int 1), some (.int 1), some (.int (nI (s + (rlE L p + 1)))), some (.int (nI (s + (rlE L p)))), some (.int (nI (s + (rlS L p)))), some (.int (nI (s + (rlC L p)))), some (.int (nI (s + (rlF L p)))), some (.int (nI (s + (rlG L p)))), some (.int (nI (s + (rlV L p)))), some (.int (nI (s + (rlW L p)))), some (.int (b1 (isw ag L (rlV L p) (rlW L p))))] [] _ _
                refine g_goto (pc := 280) (tgt := 26) dc_T_collect_280 rfl ?_
                rw [rlT_0 (show rlK L p = 0 from by unfold rlK; rw [if_neg hcs, if_pos hc138])]
                have eq9 : (se || isw ag L (rlV L p) (rlW L p), true, isw ag L (rlV L p) (rlW L p) || (am && ho), A, Dd) = (false, true, true, A, Dd) := by first | (simp [hc155, hc177, hc182]; done) | (exfalso; simp [hc155] at hc182)
                have eq8 : ((se, am, ho, A, Dd).1 || isw ag L (rlV L p) (rlW L p), true, isw ag L (rlV L p) (rlW L p) || ((se, am, ho, A, Dd).2.1 && (se, am, ho, A, Dd).2.2.1), (se, am, ho, A, Dd).2.2.2.1, (se, am, ho, A, Dd).2.2.2.2) = (false, true, true, A, Dd) := eq9
                rw [eq8]
                refine am_wk (am_le_s (am_le_s (am_le_n (am_le_s (am_le_s (am_le_s (am_le_s (am_le_s (am_le_s (am_le_n (am_le_n (am_le_n (am_le_n (am_le_n (am_le_n (am_le_n (am_le_n am_le_0))))))))))))))))) ?_
                exact l_T_collect hu hq hi hL8 n (rlE L p + 1) w0 h0 false true true A Dd (by omega) (by omega) (by omega) (by omega) (by omega) G0 hO0 hA0 hD0 hx0 (by omega)
              · refine g_iconst (pc := 185) (v := 1) dc_T_collect_185 rfl ?_
                refine g_goto (pc := 186) (tgt := 190) dc_T_collect_186 rfl ?_
                refine g_istore (pc := 190) dc_T_collect_190 (by decide) ?_
                show am_G X mt_T_collect _ 192 [some (.ref tc), some (.ref c), none, some (.int (nI (s + L.length))), some (.retAddr ag), some (.int 1), some (.int (b1 am)), some (.int 1), some (.int (nI (s + (rlE L p)))), some (.int (nI (s + (rlE L p)))), some (.int (nI (s + (rlS L p)))), some (.int (nI (s + (rlC L p)))), some (.int (nI (s + (rlF L p)))), some (.int (nI (s + (rlG L p)))), some (.int (nI (s + (rlV L p)))), some (.int (nI (s + (rlW L p)))), some (.int (b1 (isw ag L (rlV L p) (rlW L p))))] [] _ _
                refine g_iconst (pc := 192) (v := 1) dc_T_collect_192 rfl ?_
                refine g_istore (pc := 193) dc_T_collect_193 (by decide) ?_
                show am_G X mt_T_collect _ 195 [some (.ref tc), some (.ref c), none, some (.int (nI (s + L.length))), some (.retAddr ag), some (.int 1), some (.int 1), some (.int 1), some (.int (nI (s + (rlE L p)))), some (.int (nI (s + (rlE L p)))), some (.int (nI (s + (rlS L p)))), some (.int (nI (s + (rlC L p)))), some (.int (nI (s + (rlF L p)))), some (.int (nI (s + (rlG L p)))), some (.int (nI (s + (rlV L p)))), some (.int (nI (s + (rlW L p)))), some (.int (b1 (isw ag L (rlV L p) (rlW L p))))] [] _ _
                refine g_goto (pc := 195) (tgt := 277) dc_T_collect_195 rfl ?_
                refine g_iinc (pc := 277) (v := (nI (s + (rlE L p + 1)))) dc_T_collect_277 rfl (q_as s (rlE L p) 1) (by decide) ?_
                show am_G X mt_T_collect _ 280 [some (.ref tc), some (.ref c), none, some (.int (nI (s + L.length))), some (.retAddr ag), some (.int 1), some (.int 1), some (.int 1), some (.int (nI (s + (rlE L p + 1)))), some (.int (nI (s + (rlE L p)))), some (.int (nI (s + (rlS L p)))), some (.int (nI (s + (rlC L p)))), some (.int (nI (s + (rlF L p)))), some (.int (nI (s + (rlG L p)))), some (.int (nI (s + (rlV L p)))), some (.int (nI (s + (rlW L p)))), some (.int (b1 (isw ag L (rlV L p) (rlW L p))))] [] _ _
                refine g_goto (pc := 280) (tgt := 26) dc_T_collect_280 rfl ?_
                rw [rlT_0 (show rlK L p = 0 from by unfold rlK; rw [if_neg hcs, if_pos hc138])]
                have eq9 : (se || isw ag L (rlV L p) (rlW L p), true, isw ag L (rlV L p) (rlW L p) || (am && ho), A, Dd) = (true, true, true, A, Dd) := by first | (simp [hc155, hc177, hc182]; done) | (exfalso; simp [hc155] at hc182)
                have eq8 : ((se, am, ho, A, Dd).1 || isw ag L (rlV L p) (rlW L p), true, isw ag L (rlV L p) (rlW L p) || ((se, am, ho, A, Dd).2.1 && (se, am, ho, A, Dd).2.2.1), (se, am, ho, A, Dd).2.2.2.1, (se, am, ho, A, Dd).2.2.2.2) = (true, true, true, A, Dd) := eq9
                rw [eq8]
                refine am_wk (am_le_s (am_le_s (am_le_n (am_le_s (am_le_s (am_le_s (am_le_s (am_le_s (am_le_s (am_le_n (am_le_n (am_le_n (am_le_n (am_le_n (am_le_n (am_le_n (am_le_n am_le_0))))))))))))))))) ?_
                exact l_T_collect hu hq hi hL8 n (rlE L p + 1) w0 h0 true true true A Dd (by omega) (by omega) (by omega) (by omega) (by omega) G0 hO0 hA0 hD0 hx0 (by omega)
          · refine g_iload (pc := 158) dc_T_collect_158 rfl ?_
            refine q_ifb_eq (pc := 160) (tgt := 172) dc_T_collect_160 rfl (fun hc160 => ?_) (fun hc160 => ?_)
            · refine g_iconst (pc := 172) (v := 0) dc_T_collect_172 rfl ?_
              refine g_istore (pc := 173) dc_T_collect_173 (by decide) ?_
              show am_G X mt_T_collect _ 175 [some (.ref tc), some (.ref c), none, some (.int (nI (s + L.length))), some (.retAddr ag), some (.int (b1 se)), some (.int (b1 am)), some (.int 0), some (.int (nI (s + (rlE L p)))), some (.int (nI (s + (rlE L p)))), some (.int (nI (s + (rlS L p)))), some (.int (nI (s + (rlC L p)))), some (.int (nI (s + (rlF L p)))), some (.int (nI (s + (rlG L p)))), some (.int (nI (s + (rlV L p)))), some (.int (nI (s + (rlW L p)))), some (.int (b1 (isw ag L (rlV L p) (rlW L p))))] [] _ _
              refine g_iload (pc := 175) dc_T_collect_175 rfl ?_
              refine q_ifb_ne (pc := 177) (tgt := 185) dc_T_collect_177 rfl (fun hc177 => ?_) (fun hc177 => ?_)
              · refine g_iconst (pc := 185) (v := 1) dc_T_collect_185 rfl ?_
                refine g_goto (pc := 186) (tgt := 190) dc_T_collect_186 rfl ?_
                refine g_istore (pc := 190) dc_T_collect_190 (by decide) ?_
                show am_G X mt_T_collect _ 192 [some (.ref tc), some (.ref c), none, some (.int (nI (s + L.length))), some (.retAddr ag), some (.int 1), some (.int (b1 am)), some (.int 0), some (.int (nI (s + (rlE L p)))), some (.int (nI (s + (rlE L p)))), some (.int (nI (s + (rlS L p)))), some (.int (nI (s + (rlC L p)))), some (.int (nI (s + (rlF L p)))), some (.int (nI (s + (rlG L p)))), some (.int (nI (s + (rlV L p)))), some (.int (nI (s + (rlW L p)))), some (.int (b1 (isw ag L (rlV L p) (rlW L p))))] [] _ _
                refine g_iconst (pc := 192) (v := 1) dc_T_collect_192 rfl ?_
                refine g_istore (pc := 193) dc_T_collect_193 (by decide) ?_
                show am_G X mt_T_collect _ 195 [some (.ref tc), some (.ref c), none, some (.int (nI (s + L.length))), some (.retAddr ag), some (.int 1), some (.int 1), some (.int 0), some (.int (nI (s + (rlE L p)))), some (.int (nI (s + (rlE L p)))), some (.int (nI (s + (rlS L p)))), some (.int (nI (s + (rlC L p)))), some (.int (nI (s + (rlF L p)))), some (.int (nI (s + (rlG L p)))), some (.int (nI (s + (rlV L p)))), some (.int (nI (s + (rlW L p)))), some (.int (b1 (isw ag L (rlV L p) (rlW L p))))] [] _ _
                refine g_goto (pc := 195) (tgt := 277) dc_T_collect_195 rfl ?_
                refine g_iinc (pc := 277) (v := (nI (s + (rlE L p + 1)))) dc_T_collect_277 rfl (q_as s (rlE L p) 1) (by decide) ?_
                show am_G X mt_T_collect _ 280 [some (.ref tc), some (.ref c), none, some (.int (nI (s + L.length))), some (.retAddr ag), some (.int 1), some (.int 1), some (.int 0), some (.int (nI (s + (rlE L p + 1)))), some (.int (nI (s + (rlE L p)))), some (.int (nI (s + (rlS L p)))), some (.int (nI (s + (rlC L p)))), some (.int (nI (s + (rlF L p)))), some (.int (nI (s + (rlG L p)))), some (.int (nI (s + (rlV L p)))), some (.int (nI (s + (rlW L p)))), some (.int (b1 (isw ag L (rlV L p) (rlW L p))))] [] _ _
                refine g_goto (pc := 280) (tgt := 26) dc_T_collect_280 rfl ?_
                rw [rlT_0 (show rlK L p = 0 from by unfold rlK; rw [if_neg hcs, if_pos hc138])]
                have eq9 : (se || isw ag L (rlV L p) (rlW L p), true, isw ag L (rlV L p) (rlW L p) || (am && ho), A, Dd) = (true, true, false, A, Dd) := by first | (simp [hc155, hc160, hc177]; done) | (exfalso; simp [hc155] at hc182)
                have eq8 : ((se, am, ho, A, Dd).1 || isw ag L (rlV L p) (rlW L p), true, isw ag L (rlV L p) (rlW L p) || ((se, am, ho, A, Dd).2.1 && (se, am, ho, A, Dd).2.2.1), (se, am, ho, A, Dd).2.2.2.1, (se, am, ho, A, Dd).2.2.2.2) = (true, true, false, A, Dd) := eq9
                rw [eq8]
                refine am_wk (am_le_s (am_le_s (am_le_n (am_le_s (am_le_s (am_le_s (am_le_s (am_le_s (am_le_s (am_le_n (am_le_n (am_le_n (am_le_n (am_le_n (am_le_n (am_le_n (am_le_n am_le_0))))))))))))))))) ?_
                exact l_T_collect hu hq hi hL8 n (rlE L p + 1) w0 h0 true true false A Dd (by omega) (by omega) (by omega) (by omega) (by omega) G0 hO0 hA0 hD0 hx0 (by omega)
              · refine g_iload (pc := 180) dc_T_collect_180 rfl ?_
                refine q_ifb_eq (pc := 182) (tgt := 189) dc_T_collect_182 rfl (fun hc182 => ?_) (fun hc182 => ?_)
                · refine g_iconst (pc := 189) (v := 0) dc_T_collect_189 rfl ?_
                  refine g_istore (pc := 190) dc_T_collect_190 (by decide) ?_
                  show am_G X mt_T_collect _ 192 [some (.ref tc), some (.ref c), none, some (.int (nI (s + L.length))), some (.retAddr ag), some (.int 0), some (.int (b1 am)), some (.int 0), some (.int (nI (s + (rlE L p)))), some (.int (nI (s + (rlE L p)))), some (.int (nI (s + (rlS L p)))), some (.int (nI (s + (rlC L p)))), some (.int (nI (s + (rlF L p)))), some (.int (nI (s + (rlG L p)))), some (.int (nI (s + (rlV L p)))), some (.int (nI (s + (rlW L p)))), some (.int (b1 (isw ag L (rlV L p) (rlW L p))))] [] _ _
                  refine g_iconst (pc := 192) (v := 1) dc_T_collect_192 rfl ?_
                  refine g_istore (pc := 193) dc_T_collect_193 (by decide) ?_
                  show am_G X mt_T_collect _ 195 [some (.ref tc), some (.ref c), none, some (.int (nI (s + L.length))), some (.retAddr ag), some (.int 0), some (.int 1), some (.int 0), some (.int (nI (s + (rlE L p)))), some (.int (nI (s + (rlE L p)))), some (.int (nI (s + (rlS L p)))), some (.int (nI (s + (rlC L p)))), some (.int (nI (s + (rlF L p)))), some (.int (nI (s + (rlG L p)))), some (.int (nI (s + (rlV L p)))), some (.int (nI (s + (rlW L p)))), some (.int (b1 (isw ag L (rlV L p) (rlW L p))))] [] _ _
                  refine g_goto (pc := 195) (tgt := 277) dc_T_collect_195 rfl ?_
                  refine g_iinc (pc := 277) (v := (nI (s + (rlE L p + 1)))) dc_T_collect_277 rfl (q_as s (rlE L p) 1) (by decide) ?_
                  show am_G X mt_T_collect _ 280 [some (.ref tc), some (.ref c), none, some (.int (nI (s + L.length))), some (.retAddr ag), some (.int 0), some (.int 1), some (.int 0), some (.int (nI (s + (rlE L p + 1)))), some (.int (nI (s + (rlE L p)))), some (.int (nI (s + (rlS L p)))), some (.int (nI (s + (rlC L p)))), some (.int (nI (s + (rlF L p)))), some (.int (nI (s + (rlG L p)))), some (.int (nI (s + (rlV L p)))), some (.int (nI (s + (rlW L p)))), some (.int (b1 (isw ag L (rlV L p) (rlW L p))))] [] _ _
                  refine g_goto (pc := 280) (tgt := 26) dc_T_collect_280 rfl ?_
                  rw [rlT_0 (show rlK L p = 0 from by unfold rlK; rw [if_neg hcs, if_pos hc138])]
                  have eq9 : (se || isw ag L (rlV L p) (rlW L p), true, isw ag L (rlV L p) (rlW L p) || (am && ho), A, Dd) = (false, true, false, A, Dd) := by first | (simp [hc155, hc160, hc177, hc182]; done) | (exfalso; simp [hc155] at hc182)
                  have eq8 : ((se, am, ho, A, Dd).1 || isw ag L (rlV L p) (rlW L p), true, isw ag L (rlV L p) (rlW L p) || ((se, am, ho, A, Dd).2.1 && (se, am, ho, A, Dd).2.2.1), (se, am, ho, A, Dd).2.2.2.1, (se, am, ho, A, Dd).2.2.2.2) = (false, true, false, A, Dd) := eq9
                  rw [eq8]
                  refine am_wk (am_le_s (am_le_s (am_le_n (am_le_s (am_le_s (am_le_s (am_le_s (am_le_s (am_le_s (am_le_n (am_le_n (am_le_n (am_le_n (am_le_n (am_le_n (am_le_n (am_le_n am_le_0))))))))))))))))) ?_
                  exact l_T_collect hu hq hi hL8 n (rlE L p + 1) w0 h0 false true false A Dd (by omega) (by omega) (by omega) (by omega) (by omega) G0 hO0 hA0 hD0 hx0 (by omega)
                · refine g_iconst (pc := 185) (v := 1) dc_T_collect_185 rfl ?_
                  refine g_goto (pc := 186) (tgt := 190) dc_T_collect_186 rfl ?_
                  refine g_istore (pc := 190) dc_T_collect_190 (by decide) ?_
                  show am_G X mt_T_collect _ 192 [some (.ref tc), some (.ref c), none, some (.int (nI (s + L.length))), some (.retAddr ag), some (.int 1), some (.int (b1 am)), some (.int 0), some (.int (nI (s + (rlE L p)))), some (.int (nI (s + (rlE L p)))), some (.int (nI (s + (rlS L p)))), some (.int (nI (s + (rlC L p)))), some (.int (nI (s + (rlF L p)))), some (.int (nI (s + (rlG L p)))), some (.int (nI (s + (rlV L p)))), some (.int (nI (s + (rlW L p)))), some (.int (b1 (isw ag L (rlV L p) (rlW L p))))] [] _ _
                  refine g_iconst (pc := 192) (v := 1) dc_T_collect_192 rfl ?_
                  refine g_istore (pc := 193) dc_T_collect_193 (by decide) ?_
                  show am_G X mt_T_collect _ 195 [some (.ref tc), some (.ref c), none, some (.int (nI (s + L.length))), some (.retAddr ag), some (.int 1), some (.int 1), some (.int 0), some (.int (nI (s + (rlE L p)))), some (.int (nI (s + (rlE L p)))), some (.int (nI (s + (rlS L p)))), some (.int (nI (s + (rlC L p)))), some (.int (nI (s + (rlF L p)))), some (.int (nI (s + (rlG L p)))), some (.int (nI (s + (rlV L p)))), some (.int (nI (s + (rlW L p)))), some (.int (b1 (isw ag L (rlV L p) (rlW L p))))] [] _ _
                  refine g_goto (pc := 195) (tgt := 277) dc_T_collect_195 rfl ?_
                  refine g_iinc (pc := 277) (v := (nI (s + (rlE L p + 1)))) dc_T_collect_277 rfl (q_as s (rlE L p) 1) (by decide) ?_
                  show am_G X mt_T_collect _ 280 [some (.ref tc), some (.ref c), none, some (.int (nI (s + L.length))), some (.retAddr ag), some (.int 1), some (.int 1), some (.int 0), some (.int (nI (s + (rlE L p + 1)))), some (.int (nI (s + (rlE L p)))), some (.int (nI (s + (rlS L p)))), some (.int (nI (s + (rlC L p)))), some (.int (nI (s + (rlF L p)))), some (.int (nI (s + (rlG L p)))), some (.int (nI (s + (rlV L p)))), some (.int (nI (s + (rlW L p)))), some (.int (b1 (isw ag L (rlV L p) (rlW L p))))] [] _ _
                  refine g_goto (pc := 280) (tgt := 26) dc_T_collect_280 rfl ?_
                  rw [rlT_0 (show rlK L p = 0 from by unfold rlK; rw [if_neg hcs, if_pos hc138])]
                  have eq9 : (se || isw ag L (rlV L p) (rlW L p), true, isw ag L (rlV L p) (rlW L p) || (am && ho), A, Dd) = (true, true, false, A, Dd) := by first | (simp [hc155, hc160, hc177, hc182]; done) | (exfalso; simp [hc155] at hc182)
                  have eq8 : ((se, am, ho, A, Dd).1 || isw ag L (rlV L p) (rlW L p), true, isw ag L (rlV L p) (rlW L p) || ((se, am, ho, A, Dd).2.1 && (se, am, ho, A, Dd).2.2.1), (se, am, ho, A, Dd).2.2.2.1, (se, am, ho, A, Dd).2.2.2.2) = (true, true, false, A, Dd) := eq9
                  rw [eq8]
                  refine am_wk (am_le_s (am_le_s (am_le_n (am_le_s (am_le_s (am_le_s (am_le_s (am_le_s (am_le_s (am_le_n (am_le_n (am_le_n (am_le_n (am_le_n (am_le_n (am_le_n (am_le_n am_le_0))))))))))))))))) ?_
                  exact l_T_collect hu hq hi hL8 n (rlE L p + 1) w0 h0 true true false A Dd (by omega) (by omega) (by omega) (by omega) (by omega) G0 hO0 hA0 hD0 hx0 (by omega)
            · refine g_iload (pc := 163) dc_T_collect_163 rfl ?_
              refine q_ifb_eq (pc := 165) (tgt := 172) dc_T_collect_165 rfl (fun hc165 => ?_) (fun hc165 => ?_)
              · refine g_iconst (pc := 172) (v := 0) dc_T_collect_172 rfl ?_
                refine g_istore (pc := 173) dc_T_collect_173 (by decide) ?_
                show am_G X mt_T_collect _ 175 [some (.ref tc), some (.ref c), none, some (.int (nI (s + L.length))), some (.retAddr ag), some (.int (b1 se)), some (.int (b1 am)), some (.int 0), some (.int (nI (s + (rlE L p)))), some (.int (nI (s + (rlE L p)))), some (.int (nI (s + (rlS L p)))), some (.int (nI (s + (rlC L p)))), some (.int (nI (s + (rlF L p)))), some (.int (nI (s + (rlG L p)))), some (.int (nI (s + (rlV L p)))), some (.int (nI (s + (rlW L p)))), some (.int (b1 (isw ag L (rlV L p) (rlW L p))))] [] _ _
                refine g_iload (pc := 175) dc_T_collect_175 rfl ?_
                refine q_ifb_ne (pc := 177) (tgt := 185) dc_T_collect_177 rfl (fun hc177 => ?_) (fun hc177 => ?_)
                · refine g_iconst (pc := 185) (v := 1) dc_T_collect_185 rfl ?_
                  refine g_goto (pc := 186) (tgt := 190) dc_T_collect_186 rfl ?_
                  refine g_istore (pc := 190) dc_T_collect_190 (by decide) ?_
                  show am_G X mt_T_collect _ 192 [some (.ref tc), some (.ref c), none, some (.int (nI (s + L.length))), some (.retAddr ag), some (.int 1), some (.int (b1 am)), some (.int 0), some (.int (nI (s + (rlE L p)))), some (.int (nI (s + (rlE L p)))), some (.int (nI (s + (rlS L p)))), some (.int (nI (s + (rlC L p)))), some (.int (nI (s + (rlF L p)))), some (.int (nI (s + (rlG L p)))), some (.int (nI (s + (rlV L p)))), some (.int (nI (s + (rlW L p)))), some (.int (b1 (isw ag L (rlV L p) (rlW L p))))] [] _ _
                  refine g_iconst (pc := 192) (v := 1) dc_T_collect_192 rfl ?_
                  refine g_istore (pc := 193) dc_T_collect_193 (by decide) ?_
                  show am_G X mt_T_collect _ 195 [some (.ref tc), some (.ref c), none, some (.int (nI (s + L.length))), some (.retAddr ag), some (.int 1), some (.int 1), some (.int 0), some (.int (nI (s + (rlE L p)))), some (.int (nI (s + (rlE L p)))), some (.int (nI (s + (rlS L p)))), some (.int (nI (s + (rlC L p)))), some (.int (nI (s + (rlF L p)))), some (.int (nI (s + (rlG L p)))), some (.int (nI (s + (rlV L p)))), some (.int (nI (s + (rlW L p)))), some (.int (b1 (isw ag L (rlV L p) (rlW L p))))] [] _ _
                  refine g_goto (pc := 195) (tgt := 277) dc_T_collect_195 rfl ?_
                  refine g_iinc (pc := 277) (v := (nI (s + (rlE L p + 1)))) dc_T_collect_277 rfl (q_as s (rlE L p) 1) (by decide) ?_
                  show am_G X mt_T_collect _ 280 [some (.ref tc), some (.ref c), none, some (.int (nI (s + L.length))), some (.retAddr ag), some (.int 1), some (.int 1), some (.int 0), some (.int (nI (s + (rlE L p + 1)))), some (.int (nI (s + (rlE L p)))), some (.int (nI (s + (rlS L p)))), some (.int (nI (s + (rlC L p)))), some (.int (nI (s + (rlF L p)))), some (.int (nI (s + (rlG L p)))), some (.int (nI (s + (rlV L p)))), some (.int (nI (s + (rlW L p)))), some (.int (b1 (isw ag L (rlV L p) (rlW L p))))] [] _ _
                  refine g_goto (pc := 280) (tgt := 26) dc_T_collect_280 rfl ?_
                  rw [rlT_0 (show rlK L p = 0 from by unfold rlK; rw [if_neg hcs, if_pos hc138])]
                  have eq9 : (se || isw ag L (rlV L p) (rlW L p), true, isw ag L (rlV L p) (rlW L p) || (am && ho), A, Dd) = (true, true, false, A, Dd) := by first | (simp [hc155, hc160, hc165, hc177]; done) | (exfalso; simp [hc155] at hc182)
                  have eq8 : ((se, am, ho, A, Dd).1 || isw ag L (rlV L p) (rlW L p), true, isw ag L (rlV L p) (rlW L p) || ((se, am, ho, A, Dd).2.1 && (se, am, ho, A, Dd).2.2.1), (se, am, ho, A, Dd).2.2.2.1, (se, am, ho, A, Dd).2.2.2.2) = (true, true, false, A, Dd) := eq9
                  rw [eq8]
                  refine am_wk (am_le_s (am_le_s (am_le_n (am_le_s (am_le_s (am_le_s (am_le_s (am_le_s (am_le_s (am_le_n (am_le_n (am_le_n (am_le_n (am_le_n (am_le_n (am_le_n (am_le_n am_le_0))))))))))))))))) ?_
                  exact l_T_collect hu hq hi hL8 n (rlE L p + 1) w0 h0 true true false A Dd (by omega) (by omega) (by omega) (by omega) (by omega) G0 hO0 hA0 hD0 hx0 (by omega)
                · refine g_iload (pc := 180) dc_T_collect_180 rfl ?_
                  refine q_ifb_eq (pc := 182) (tgt := 189) dc_T_collect_182 rfl (fun hc182 => ?_) (fun hc182 => ?_)
                  · refine g_iconst (pc := 189) (v := 0) dc_T_collect_189 rfl ?_
                    refine g_istore (pc := 190) dc_T_collect_190 (by decide) ?_
                    show am_G X mt_T_collect _ 192 [some (.ref tc), some (.ref c), none, some (.int (nI (s + L.length))), some (.retAddr ag), some (.int 0), some (.int (b1 am)), some (.int 0), some (.int (nI (s + (rlE L p)))), some (.int (nI (s + (rlE L p)))), some (.int (nI (s + (rlS L p)))), some (.int (nI (s + (rlC L p)))), some (.int (nI (s + (rlF L p)))), some (.int (nI (s + (rlG L p)))), some (.int (nI (s + (rlV L p)))), some (.int (nI (s + (rlW L p)))), some (.int (b1 (isw ag L (rlV L p) (rlW L p))))] [] _ _
                    refine g_iconst (pc := 192) (v := 1) dc_T_collect_192 rfl ?_
                    refine g_istore (pc := 193) dc_T_collect_193 (by decide) ?_
                    show am_G X mt_T_collect _ 195 [some (.ref tc), some (.ref c), none, some (.int (nI (s + L.length))), some (.retAddr ag), some (.int 0), some (.int 1), some (.int 0), some (.int (nI (s + (rlE L p)))), some (.int (nI (s + (rlE L p)))), some (.int (nI (s + (rlS L p)))), some (.int (nI (s + (rlC L p)))), some (.int (nI (s + (rlF L p)))), some (.int (nI (s + (rlG L p)))), some (.int (nI (s + (rlV L p)))), some (.int (nI (s + (rlW L p)))), some (.int (b1 (isw ag L (rlV L p) (rlW L p))))] [] _ _
                    refine g_goto (pc := 195) (tgt := 277) dc_T_collect_195 rfl ?_
                    refine g_iinc (pc := 277) (v := (nI (s + (rlE L p + 1)))) dc_T_collect_277 rfl (q_as s (rlE L p) 1) (by decide) ?_
                    show am_G X mt_T_collect _ 280 [some (.ref tc), some (.ref c), none, some (.int (nI (s + L.length))), some (.retAddr ag), some (.int 0), some (.int 1), some (.int 0), some (.int (nI (s + (rlE L p + 1)))), some (.int (nI (s + (rlE L p)))), some (.int (nI (s + (rlS L p)))), some (.int (nI (s + (rlC L p)))), some (.int (nI (s + (rlF L p)))), some (.int (nI (s + (rlG L p)))), some (.int (nI (s + (rlV L p)))), some (.int (nI (s + (rlW L p)))), some (.int (b1 (isw ag L (rlV L p) (rlW L p))))] [] _ _
                    refine g_goto (pc := 280) (tgt := 26) dc_T_collect_280 rfl ?_
                    rw [rlT_0 (show rlK L p = 0 from by unfold rlK; rw [if_neg hcs, if_pos hc138])]
                    have eq9 : (se || isw ag L (rlV L p) (rlW L p), true, isw ag L (rlV L p) (rlW L p) || (am && ho), A, Dd) = (false, true, false, A, Dd) := by first | (simp [hc155, hc160, hc165, hc177, hc182]; done) | (exfalso; simp [hc155] at hc182)
                    have eq8 : ((se, am, ho, A, Dd).1 || isw ag L (rlV L p) (rlW L p), true, isw ag L (rlV L p) (rlW L p) || ((se, am, ho, A, Dd).2.1 && (se, am, ho, A, Dd).2.2.1), (se, am, ho, A, Dd).2.2.2.1, (se, am, ho, A, Dd).2.2.2.2) = (false, true, false, A, Dd) := eq9
                    rw [eq8]
                    refine am_wk (am_le_s (am_le_s (am_le_n (am_le_s (am_le_s (am_le_s (am_le_s (am_le_s (am_le_s (am_le_n (am_le_n (am_le_n (am_le_n (am_le_n (am_le_n (am_le_n (am_le_n am_le_0))))))))))))))))) ?_
                    exact l_T_collect hu hq hi hL8 n (rlE L p + 1) w0 h0 false true false A Dd (by omega) (by omega) (by omega) (by omega) (by omega) G0 hO0 hA0 hD0 hx0 (by omega)
                  · refine g_iconst (pc := 185) (v := 1) dc_T_collect_185 rfl ?_
                    refine g_goto (pc := 186) (tgt := 190) dc_T_collect_186 rfl ?_
                    refine g_istore (pc := 190) dc_T_collect_190 (by decide) ?_
                    show am_G X mt_T_collect _ 192 [some (.ref tc), some (.ref c), none, some (.int (nI (s + L.length))), some (.retAddr ag), some (.int 1), some (.int (b1 am)), some (.int 0), some (.int (nI (s + (rlE L p)))), some (.int (nI (s + (rlE L p)))), some (.int (nI (s + (rlS L p)))), some (.int (nI (s + (rlC L p)))), some (.int (nI (s + (rlF L p)))), some (.int (nI (s + (rlG L p)))), some (.int (nI (s + (rlV L p)))), some (.int (nI (s + (rlW L p)))), some (.int (b1 (isw ag L (rlV L p) (rlW L p))))] [] _ _
                    refine g_iconst (pc := 192) (v := 1) dc_T_collect_192 rfl ?_
                    refine g_istore (pc := 193) dc_T_collect_193 (by decide) ?_
                    show am_G X mt_T_collect _ 195 [some (.ref tc), some (.ref c), none, some (.int (nI (s + L.length))), some (.retAddr ag), some (.int 1), some (.int 1), some (.int 0), some (.int (nI (s + (rlE L p)))), some (.int (nI (s + (rlE L p)))), some (.int (nI (s + (rlS L p)))), some (.int (nI (s + (rlC L p)))), some (.int (nI (s + (rlF L p)))), some (.int (nI (s + (rlG L p)))), some (.int (nI (s + (rlV L p)))), some (.int (nI (s + (rlW L p)))), some (.int (b1 (isw ag L (rlV L p) (rlW L p))))] [] _ _
                    refine g_goto (pc := 195) (tgt := 277) dc_T_collect_195 rfl ?_
                    refine g_iinc (pc := 277) (v := (nI (s + (rlE L p + 1)))) dc_T_collect_277 rfl (q_as s (rlE L p) 1) (by decide) ?_
                    show am_G X mt_T_collect _ 280 [some (.ref tc), some (.ref c), none, some (.int (nI (s + L.length))), some (.retAddr ag), some (.int 1), some (.int 1), some (.int 0), some (.int (nI (s + (rlE L p + 1)))), some (.int (nI (s + (rlE L p)))), some (.int (nI (s + (rlS L p)))), some (.int (nI (s + (rlC L p)))), some (.int (nI (s + (rlF L p)))), some (.int (nI (s + (rlG L p)))), some (.int (nI (s + (rlV L p)))), some (.int (nI (s + (rlW L p)))), some (.int (b1 (isw ag L (rlV L p) (rlW L p))))] [] _ _
                    refine g_goto (pc := 280) (tgt := 26) dc_T_collect_280 rfl ?_
                    rw [rlT_0 (show rlK L p = 0 from by unfold rlK; rw [if_neg hcs, if_pos hc138])]
                    have eq9 : (se || isw ag L (rlV L p) (rlW L p), true, isw ag L (rlV L p) (rlW L p) || (am && ho), A, Dd) = (true, true, false, A, Dd) := by first | (simp [hc155, hc160, hc165, hc177, hc182]; done) | (exfalso; simp [hc155] at hc182)
                    have eq8 : ((se, am, ho, A, Dd).1 || isw ag L (rlV L p) (rlW L p), true, isw ag L (rlV L p) (rlW L p) || ((se, am, ho, A, Dd).2.1 && (se, am, ho, A, Dd).2.2.1), (se, am, ho, A, Dd).2.2.2.1, (se, am, ho, A, Dd).2.2.2.2) = (true, true, false, A, Dd) := eq9
                    rw [eq8]
                    refine am_wk (am_le_s (am_le_s (am_le_n (am_le_s (am_le_s (am_le_s (am_le_s (am_le_s (am_le_s (am_le_n (am_le_n (am_le_n (am_le_n (am_le_n (am_le_n (am_le_n (am_le_n am_le_0))))))))))))))))) ?_
                    exact l_T_collect hu hq hi hL8 n (rlE L p + 1) w0 h0 true true false A Dd (by omega) (by omega) (by omega) (by omega) (by omega) G0 hO0 hA0 hD0 hx0 (by omega)
              · refine g_iconst (pc := 168) (v := 1) dc_T_collect_168 rfl ?_
                refine g_goto (pc := 169) (tgt := 173) dc_T_collect_169 rfl ?_
                refine g_istore (pc := 173) dc_T_collect_173 (by decide) ?_
                show am_G X mt_T_collect _ 175 [some (.ref tc), some (.ref c), none, some (.int (nI (s + L.length))), some (.retAddr ag), some (.int (b1 se)), some (.int (b1 am)), some (.int 1), some (.int (nI (s + (rlE L p)))), some (.int (nI (s + (rlE L p)))), some (.int (nI (s + (rlS L p)))), some (.int (nI (s + (rlC L p)))), some (.int (nI (s + (rlF L p)))), some (.int (nI (s + (rlG L p)))), some (.int (nI (s + (rlV L p)))), some (.int (nI (s + (rlW L p)))), some (.int (b1 (isw ag L (rlV L p) (rlW L p))))] [] _ _
                refine g_iload (pc := 175) dc_T_collect_175 rfl ?_
                refine q_ifb_ne (pc := 177) (tgt := 185) dc_T_collect_177 rfl (fun hc177 => ?_) (fun hc177 => ?_)
                · refine g_iconst (pc := 185) (v := 1) dc_T_collect_185 rfl ?_
                  refine g_goto (pc := 186) (tgt := 190) dc_T_collect_186 rfl ?_
                  refine g_istore (pc := 190) dc_T_collect_190 (by decide) ?_
                  show am_G X mt_T_collect _ 192 [some (.ref tc), some (.ref c), none, some (.int (nI (s + L.length))), some (.retAddr ag), some (.int 1), some (.int (b1 am)), some (.int 1), some (.int (nI (s + (rlE L p)))), some (.int (nI (s + (rlE L p)))), some (.int (nI (s + (rlS L p)))), some (.int (nI (s + (rlC L p)))), some (.int (nI (s + (rlF L p)))), some (.int (nI (s + (rlG L p)))), some (.int (nI (s + (rlV L p)))), some (.int (nI (s + (rlW L p)))), some (.int (b1 (isw ag L (rlV L p) (rlW L p))))] [] _ _
                  refine g_iconst (pc := 192) (v := 1) dc_T_collect_192 rfl ?_
                  refine g_istore (pc := 193) dc_T_collect_193 (by decide) ?_
                  show am_G X mt_T_collect _ 195 [some (.ref tc), some (.ref c), none, some (.int (nI (s + L.length))), some (.retAddr ag), some (.int 1), some (.int 1), some (.int 1), some (.int (nI (s + (rlE L p)))), some (.int (nI (s + (rlE L p)))), some (.int (nI (s + (rlS L p)))), some (.int (nI (s + (rlC L p)))), some (.int (nI (s + (rlF L p)))), some (.int (nI (s + (rlG L p)))), some (.int (nI (s + (rlV L p)))), some (.int (nI (s + (rlW L p)))), some (.int (b1 (isw ag L (rlV L p) (rlW L p))))] [] _ _
                  refine g_goto (pc := 195) (tgt := 277) dc_T_collect_195 rfl ?_
                  refine g_iinc (pc := 277) (v := (nI (s + (rlE L p + 1)))) dc_T_collect_277 rfl (q_as s (rlE L p) 1) (by decide) ?_
                  show am_G X mt_T_collect _ 280 [some (.ref tc), some (.ref c), none, some (.int (nI (s + L.length))), some (.retAddr ag), some (.int 1), some (.int 1), some (.int 1), some (.int (nI (s + (rlE L p + 1)))), some (.int (nI (s + (rlE L p)))), some (.int (nI (s + (rlS L p)))), some (.int (nI (s + (rlC L p)))), some (.int (nI (s + (rlF L p)))), some (.int (nI (s + (rlG L p)))), some (.int (nI (s + (rlV L p)))), some (.int (nI (s + (rlW L p)))), some (.int (b1 (isw ag L (rlV L p) (rlW L p))))] [] _ _
                  refine g_goto (pc := 280) (tgt := 26) dc_T_collect_280 rfl ?_
                  rw [rlT_0 (show rlK L p = 0 from by unfold rlK; rw [if_neg hcs, if_pos hc138])]
                  have eq9 : (se || isw ag L (rlV L p) (rlW L p), true, isw ag L (rlV L p) (rlW L p) || (am && ho), A, Dd) = (true, true, true, A, Dd) := by first | (simp [hc155, hc160, hc165, hc177]; done) | (exfalso; simp [hc155] at hc182)
                  have eq8 : ((se, am, ho, A, Dd).1 || isw ag L (rlV L p) (rlW L p), true, isw ag L (rlV L p) (rlW L p) || ((se, am, ho, A, Dd).2.1 && (se, am, ho, A, Dd).2.2.1), (se, am, ho, A, Dd).2.2.2.1, (se, am, ho, A, Dd).2.2.2.2) = (true, true, true, A, Dd) := eq9
                  rw [eq8]
                  refine am_wk (am_le_s (am_le_s (am_le_n (am_le_s (am_le_s (am_le_s (am_le_s (am_le_s (am_le_s (am_le_n (am_le_n (am_le_n (am_le_n (am_le_n (am_le_n (am_le_n (am_le_n am_le_0))))))))))))))))) ?_
                  exact l_T_collect hu hq hi hL8 n (rlE L p + 1) w0 h0 true true true A Dd (by omega) (by omega) (by omega) (by omega) (by omega) G0 hO0 hA0 hD0 hx0 (by omega)
                · refine g_iload (pc := 180) dc_T_collect_180 rfl ?_
                  refine q_ifb_eq (pc := 182) (tgt := 189) dc_T_collect_182 rfl (fun hc182 => ?_) (fun hc182 => ?_)
                  · refine g_iconst (pc := 189) (v := 0) dc_T_collect_189 rfl ?_
                    refine g_istore (pc := 190) dc_T_collect_190 (by decide) ?_
                    show am_G X mt_T_collect _ 192 [some (.ref tc), some (.ref c), none, some (.int (nI (s + L.length))), some (.retAddr ag), some (.int 0), some (.int (b1 am)), some (.int 1), some (.int (nI (s + (rlE L p)))), some (.int (nI (s + (rlE L p)))), some (.int (nI (s + (rlS L p)))), some (.int (nI (s + (rlC L p)))), some (.int (nI (s + (rlF L p)))), some (.int (nI (s + (rlG L p)))), some (.int (nI (s + (rlV L p)))), some (.int (nI (s + (rlW L p)))), some (.int (b1 (isw ag L (rlV L p) (rlW L p))))] [] _ _
                    refine g_iconst (pc := 192) (v := 1) dc_T_collect_192 rfl ?_
                    refine g_istore (pc := 193) dc_T_collect_193 (by decide) ?_
                    show am_G X mt_T_collect _ 195 [some (.ref tc), some (.ref c), none, some (.int (nI (s + L.length))), some (.retAddr ag), some (.int 0), some (.int 1), some (.int 1), some (.int (nI (s + (rlE L p)))), some (.int (nI (s + (rlE L p)))), some (.int (nI (s + (rlS L p)))), some (.int (nI (s + (rlC L p)))), some (.int (nI (s + (rlF L p)))), some (.int (nI (s + (rlG L p)))), some (.int (nI (s + (rlV L p)))), some (.int (nI (s + (rlW L p)))), some (.int (b1 (isw ag L (rlV L p) (rlW L p))))] [] _ _
                    refine g_goto (pc := 195) (tgt := 277) dc_T_collect_195 rfl ?_
                    refine g_iinc (pc := 277) (v := (nI (s + (rlE L p + 1)))) dc_T_collect_277 rfl (q_as s (rlE L p) 1) (by decide) ?_
                    show am_G X mt_T_collect _ 280 [some (.ref tc), some (.ref c), none, some (.int (nI (s + L.length))), some (.retAddr ag), some (.int 0), some (.int 1), some (.int 1), some (.int (nI (s + (rlE L p + 1)))), some (.int (nI (s + (rlE L p)))), some (.int (nI (s + (rlS L p)))), some (.int (nI (s + (rlC L p)))), some (.int (nI (s + (rlF L p)))), some (.int (nI (s + (rlG L p)))), some (.int (nI (s + (rlV L p)))), some (.int (nI (s + (rlW L p)))), some (.int (b1 (isw ag L (rlV L p) (rlW L p))))] [] _ _
                    refine g_goto (pc := 280) (tgt := 26) dc_T_collect_280 rfl ?_
                    rw [rlT_0 (show rlK L p = 0 from by unfold rlK; rw [if_neg hcs, if_pos hc138])]
                    have eq9 : (se || isw ag L (rlV L p) (rlW L p), true, isw ag L (rlV L p) (rlW L p) || (am && ho), A, Dd) = (false, true, true, A, Dd) := by first | (simp [hc155, hc160, hc165, hc177, hc182]; done) | (exfalso; simp [hc155] at hc182)
                    have eq8 : ((se, am, ho, A, Dd).1 || isw ag L (rlV L p) (rlW L p), true, isw ag L (rlV L p) (rlW L p) || ((se, am, ho, A, Dd).2.1 && (se, am, ho, A, Dd).2.2.1), (se, am, ho, A, Dd).2.2.2.1, (se, am, ho, A, Dd).2.2.2.2) = (false, true, true, A, Dd) := eq9
                    rw [eq8]
                    refine am_wk (am_le_s (am_le_s (am_le_n (am_le_s (am_le_s (am_le_s (am_le_s (am_le_s (am_le_s (am_le_n (am_le_n (am_le_n (am_le_n (am_le_n (am_le_n (am_le_n (am_le_n am_le_0))))))))))))))))) ?_
                    exact l_T_collect hu hq hi hL8 n (rlE L p + 1) w0 h0 false true true A Dd (by omega) (by omega) (by omega) (by omega) (by omega) G0 hO0 hA0 hD0 hx0 (by omega)
                  · refine g_iconst (pc := 185) (v := 1) dc_T_collect_185 rfl ?_
                    refine g_goto (pc := 186) (tgt := 190) dc_T_collect_186 rfl ?_
                    refine g_istore (pc := 190) dc_T_collect_190 (by decide) ?_
                    show am_G X mt_T_collect _ 192 [some (.ref tc), some (.ref c), none, some (.int (nI (s + L.length))), some (.retAddr ag), some (.int 1), some (.int (b1 am)), some (.int 1), some (.int (nI (s + (rlE L p)))), some (.int (nI (s + (rlE L p)))), some (.int (nI (s + (rlS L p)))), some (.int (nI (s + (rlC L p)))), some (.int (nI (s + (rlF L p)))), some (.int (nI (s + (rlG L p)))), some (.int (nI (s + (rlV L p)))), some (.int (nI (s + (rlW L p)))), some (.int (b1 (isw ag L (rlV L p) (rlW L p))))] [] _ _
                    refine g_iconst (pc := 192) (v := 1) dc_T_collect_192 rfl ?_
                    refine g_istore (pc := 193) dc_T_collect_193 (by decide) ?_
                    show am_G X mt_T_collect _ 195 [some (.ref tc), some (.ref c), none, some (.int (nI (s + L.length))), some (.retAddr ag), some (.int 1), some (.int 1), some (.int 1), some (.int (nI (s + (rlE L p)))), some (.int (nI (s + (rlE L p)))), some (.int (nI (s + (rlS L p)))), some (.int (nI (s + (rlC L p)))), some (.int (nI (s + (rlF L p)))), some (.int (nI (s + (rlG L p)))), some (.int (nI (s + (rlV L p)))), some (.int (nI (s + (rlW L p)))), some (.int (b1 (isw ag L (rlV L p) (rlW L p))))] [] _ _
                    refine g_goto (pc := 195) (tgt := 277) dc_T_collect_195 rfl ?_
                    refine g_iinc (pc := 277) (v := (nI (s + (rlE L p + 1)))) dc_T_collect_277 rfl (q_as s (rlE L p) 1) (by decide) ?_
                    show am_G X mt_T_collect _ 280 [some (.ref tc), some (.ref c), none, some (.int (nI (s + L.length))), some (.retAddr ag), some (.int 1), some (.int 1), some (.int 1), some (.int (nI (s + (rlE L p + 1)))), some (.int (nI (s + (rlE L p)))), some (.int (nI (s + (rlS L p)))), some (.int (nI (s + (rlC L p)))), some (.int (nI (s + (rlF L p)))), some (.int (nI (s + (rlG L p)))), some (.int (nI (s + (rlV L p)))), some (.int (nI (s + (rlW L p)))), some (.int (b1 (isw ag L (rlV L p) (rlW L p))))] [] _ _
                    refine g_goto (pc := 280) (tgt := 26) dc_T_collect_280 rfl ?_
                    rw [rlT_0 (show rlK L p = 0 from by unfold rlK; rw [if_neg hcs, if_pos hc138])]
                    have eq9 : (se || isw ag L (rlV L p) (rlW L p), true, isw ag L (rlV L p) (rlW L p) || (am && ho), A, Dd) = (true, true, true, A, Dd) := by first | (simp [hc155, hc160, hc165, hc177, hc182]; done) | (exfalso; simp [hc155] at hc182)
                    have eq8 : ((se, am, ho, A, Dd).1 || isw ag L (rlV L p) (rlW L p), true, isw ag L (rlV L p) (rlW L p) || ((se, am, ho, A, Dd).2.1 && (se, am, ho, A, Dd).2.2.1), (se, am, ho, A, Dd).2.2.2.1, (se, am, ho, A, Dd).2.2.2.2) = (true, true, true, A, Dd) := eq9
                    rw [eq8]
                    refine am_wk (am_le_s (am_le_s (am_le_n (am_le_s (am_le_s (am_le_s (am_le_s (am_le_s (am_le_s (am_le_n (am_le_n (am_le_n (am_le_n (am_le_n (am_le_n (am_le_n (am_le_n am_le_0))))))))))))))))) ?_
                    exact l_T_collect hu hq hi hL8 n (rlE L p + 1) w0 h0 true true true A Dd (by omega) (by omega) (by omega) (by omega) (by omega) G0 hO0 hA0 hD0 hx0 (by omega)
    · rw [lns_out (by omega)]
      refine g_iload (pc := 26) dc_T_collect_26 rfl ?_
      refine g_iload_n (pc := 28) dc_T_collect_28 rfl ?_
      refine q_icmp_ge (pc := 29) (tgt := 283) (s + p) (s + L.length) dc_T_collect_29 (by omega) (by omega) rfl (fun hc29 => ?_) (fun hc => absurd hc (by omega))
      refine g_iload (pc := 283) dc_T_collect_283 rfl ?_
      exact g_zreturn dc_T_collect_285 rfl b1_z ⟨rfl, w0, G0, hO0, hA0, hD0⟩
theorem w_T_collect {w0 : Gw} {h0 : List va_E} {A Dd : List (List Int32)} {P1 P2 : List Int32} (hu : 100 ≤ u ∧ u ≤ 200) (hq : q < 100) (hi : ag < 42) (hL8 : L.length ≤ 8000) (hO0 : cO w0 h0 u tc (.inr (11, [.ref st, .ref al, .ref di]))) (hA0 : rE w0 h0 (u + 2) (u + 3) al alb A P1) (hD0 : rE w0 h0 (u + 4) (u + 5) di dib Dd P2) (hx0 : tO w0 h0 q c s L) : am_C X mt_T_collect (d + 7) [.ref tc, .ref c, .int (nI s), .int (nI (s + L.length)), .retAddr ag] h0 (fun r h1 => r = some (.int (b1 (cll ag L).1)) ∧ ∃ w1, fr w0 w1 h0 h1 [u + 2, u + 3, u + 4, u + 5] ∧ cO w1 h1 u tc (.inr (11, [.ref st, .ref al, .ref di])) ∧ rE w1 h1 (u + 2) (u + 3) al alb (cll ag L).2.2.2.1 [] ∧ rE w1 h1 (u + 4) (u + 5) di dib (cll ag L).2.2.2.2 []) := by
  show am_G X mt_T_collect (d + 7) 0 [some (.ref tc), some (.ref c), some (.int (nI s)), some (.int (nI (s + L.length))), some (.retAddr ag), none, none, none, none, none, none, none, none, none, none, none, none] [] h0 _
  have G0 : fr w0 w0 h0 h0 [u + 2, u + 3, u + 4, u + 5] := fr.rf
  obtain ⟨ba, ea, za⟩ := hA0
  have hA0 : rE w0 h0 (u + 2) (u + 3) al alb A P1 := ⟨ba, ea, za⟩
  refine g_aload_n (pc := 0) dc_T_collect_0 rfl ?_
  refine g_getfield (pc := 1) dc_T_collect_1 fl_T_25 hO0.1 rfl ?_
  refine g_v0 (pc := 4) (M' := mt_R_clear) dc_T_collect_4 mo_R_clear im_R_clear se_R_clear ln_T_44 za.1.1 rfl rfl (Nat.le_of_ble_eq_true rfl) (Nat.le_of_ble_eq_true rfl) (am_G.mono (w_R_clear (d := d + 4) (by omega) (by omega) (by omega) hA0) ?_)
  intro r h1 hz
  obtain ⟨hz1, w1, g1, hA1⟩ := hz
  rw [hz1]
  have hO1 := hO0.fr g1 (by intro h9; simp only [List.mem_cons, List.not_mem_nil, or_false] at h9; omega)
  have hD1 := hD0.fr g1 (by intro h9; simp only [List.mem_cons, List.not_mem_nil, or_false] at h9; omega) (by intro h9; simp only [List.mem_cons, List.not_mem_nil, or_false] at h9; omega)
  have hx1 := hx0.fr g1 (by intro h9; simp only [List.mem_cons, List.not_mem_nil, or_false] at h9; omega)
  have G1 := G0.tr (g1.mo (by intro x h9; simp only [List.mem_cons, List.not_mem_nil, or_false] at h9 ⊢; omega))
  obtain ⟨bd, ed, zd⟩ := hD1
  have hD1 : rE w1 h1 (u + 4) (u + 5) di dib Dd P2 := ⟨bd, ed, zd⟩
  clear hz1 r
  refine ⟨am_nt0, ?_⟩
  refine g_aload_n (pc := 7) dc_T_collect_7 rfl ?_
  refine g_getfield (pc := 8) dc_T_collect_8 fl_T_29 hO1.1 rfl ?_
  refine g_v0 (pc := 11) (M' := mt_R_clear) dc_T_collect_11 mo_R_clear im_R_clear se_R_clear ln_T_44 zd.1.1 rfl rfl (Nat.le_of_ble_eq_true rfl) (Nat.le_of_ble_eq_true rfl) (am_G.mono (w_R_clear (d := d + 4) (by omega) (by omega) (by omega) hD1) ?_)
  intro r h2 hz
  obtain ⟨hz1, w2, g2, hD2⟩ := hz
  rw [hz1]
  have hO2 := hO1.fr g2 (by intro h9; simp only [List.mem_cons, List.not_mem_nil, or_false] at h9; omega)
  have hA2 := hA1.fr g2 (by intro h9; simp only [List.mem_cons, List.not_mem_nil, or_false] at h9; omega) (by intro h9; simp only [List.mem_cons, List.not_mem_nil, or_false] at h9; omega)
  have hx2 := hx1.fr g2 (by intro h9; simp only [List.mem_cons, List.not_mem_nil, or_false] at h9; omega)
  have G2 := G1.tr (g2.mo (by intro x h9; simp only [List.mem_cons, List.not_mem_nil, or_false] at h9 ⊢; omega))
  clear hz1 r
  refine ⟨am_nt0, ?_⟩
  refine g_iconst (pc := 14) (v := 0) dc_T_collect_14 rfl ?_
  refine g_istore (pc := 15) dc_T_collect_15 (by decide) ?_
  show am_G X mt_T_collect _ 17 [some (.ref tc), some (.ref c), some (.int (nI s)), some (.int (nI (s + L.length))), some (.retAddr ag), some (.int 0), none, none, none, none, none, none, none, none, none, none, none] [] _ _
  refine g_iconst (pc := 17) (v := 0) dc_T_collect_17 rfl ?_
  refine g_istore (pc := 18) dc_T_collect_18 (by decide) ?_
  show am_G X mt_T_collect _ 20 [some (.ref tc), some (.ref c), some (.int (nI s)), some (.int (nI (s + L.length))), some (.retAddr ag), some (.int 0), some (.int 0), none, none, none, none, none, none, none, none, none, none] [] _ _
  refine g_iconst (pc := 20) (v := 0) dc_T_collect_20 rfl ?_
  refine g_istore (pc := 21) dc_T_collect_21 (by decide) ?_
  show am_G X mt_T_collect _ 23 [some (.ref tc), some (.ref c), some (.int (nI s)), some (.int (nI (s + L.length))), some (.retAddr ag), some (.int 0), some (.int 0), some (.int 0), none, none, none, none, none, none, none, none, none] [] _ _
  refine g_iload_n (pc := 23) dc_T_collect_23 rfl ?_
  refine g_istore (pc := 24) dc_T_collect_24 (by decide) ?_
  show am_G X mt_T_collect _ 26 [some (.ref tc), some (.ref c), some (.int (nI s)), some (.int (nI (s + L.length))), some (.retAddr ag), some (.int 0), some (.int 0), some (.int 0), some (.int (nI s)), none, none, none, none, none, none, none, none] [] _ _
  refine am_wk (am_le_s (am_le_s (am_le_n (am_le_s (am_le_s (am_le_s (am_le_s (am_le_s (am_le_s (am_le_n (am_le_n (am_le_n (am_le_n (am_le_n (am_le_n (am_le_n (am_le_n am_le_0))))))))))))))))) ?_
  exact l_T_collect (wa := w0) (ha := h0) hu hq hi hL8 L.length 0 w2 h2 false false false [] [] (Nat.le_refl _) (by show 0 + _ ≤ _; omega) (by show 0 + _ ≤ _; omega) (by show 0 + _ ≤ _; omega) (by show 0 + _ ≤ _; omega) G2 hO2 hA2 hD2 hx2 (by omega)
end COL
