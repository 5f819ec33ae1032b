/-! ===== known addresses: the model ===== -/
def upf {α : Type} (f : Nat → α) (i : Nat) (v : α) : Nat → α := fun j => if j = i then v else f j
theorem upf_s {α : Type} {f : Nat → α} {i : Nat} {v : α} : upf f i v i = v := if_pos rfl
theorem upf_n {α : Type} {f : Nat → α} {i j : Nat} {v : α} (h : ¬ j = i) : upf f i v j = f j := if_neg h
/-- addresses; states, depths, chains, leads, texts, when asked for -/
abbrev Kn : Type := List (List Int32) × (Nat → Nat) × (Nat → Nat) × (Nat → Nat) × (Nat → Option (List Int32)) × (Nat → List Int32) × (Nat → Option Nat)
def Kn.ad (K : Kn) : List (List Int32) := K.1
def Kn.st (K : Kn) : Nat → Nat := K.2.1
def Kn.dp (K : Kn) : Nat → Nat := K.2.2.1
def Kn.ch (K : Kn) : Nat → Nat := K.2.2.2.1
def Kn.ld (K : Kn) : Nat → Option (List Int32) := K.2.2.2.2.1
def Kn.tx (K : Kn) : Nat → List Int32 := K.2.2.2.2.2.1
def Kn.at (K : Kn) : Nat → Option Nat := K.2.2.2.2.2.2
def wfK (K : Kn) : Prop := K.ad.length ≤ 250 ∧ K.ad.Nodup ∧ (∀ x, x ∈ K.ad → okD x) ∧ ∀ i, i < K.ad.length → 1 ≤ K.st i ∧ K.st i ≤ 5 ∧ K.dp i ≤ 20 ∧ K.ch i ≤ 8
/-- is met again, or for the first time -/
def mee (lim : Nat → Nat) (D : List Int32) (dp ch : Nat) (K : Kn) : Kn := match nbr K.ad D with
  | none => if dp ≤ lim 0 ∧ ch ≤ lim 1 ∧ K.ad.length < 250 then (K.ad ++ [D], upf K.st K.ad.length 1, upf K.dp K.ad.length dp, upf K.ch K.ad.length ch, upf K.ld K.ad.length none, K.tx, upf K.at K.ad.length none) else K
  | some k => if K.st k = 1 ∧ (dp < K.dp k ∨ dp = K.dp k ∧ ch < K.ch k) then (K.ad, K.st, upf K.dp k dp, upf K.ch k ch, K.ld, K.tx, K.at) else K
theorem mee_wf {lim : Nat → Nat} {D : List Int32} {dp ch : Nat} {K : Kn} (h0 : lim 0 ≤ 20) (h1 : lim 1 ≤ 8) (ho : okD D) (hc : ch ≤ 8) (hd : dp ≤ 21) (hw : wfK K) : wfK (mee lim D dp ch K) := by
  obtain ⟨w1, w2, w3, w4⟩ := hw
  unfold mee
  cases e : nbr K.ad D with
  | none =>
    dsimp only
    split
    · rename_i h9
      have hn := nbr_n e
      refine ⟨?_, ?_, ?_, fun i hi => ?_⟩
      · show (K.ad ++ [D]).length ≤ 250
        rw [List.length_append]; show _ + 1 ≤ _; omega
      · show (K.ad ++ [D]).Nodup
        refine List.nodup_append.mpr ⟨w2, List.nodup_cons.mpr ⟨List.not_mem_nil, List.nodup_nil⟩, fun x hx y hy e9 => hn ?_⟩
        rw [List.mem_singleton.mp hy] at e9
        rw [← e9]; exact hx
      · intro x hx
        rcases List.mem_append.mp hx with h | h
        · exact w3 x h
        · rw [List.mem_singleton.mp h]; exact ho
      · have hi2 : i < K.ad.length + 1 := by
          have : (K.ad ++ [D]).length = K.ad.length + 1 := by rw [List.length_append]; rfl
          rw [← this]; exact hi
        show 1 ≤ upf K.st K.ad.length 1 i ∧ upf K.st K.ad.length 1 i ≤ 5 ∧ upf K.dp K.ad.length dp i ≤ 20 ∧ upf K.ch K.ad.length ch i ≤ 8
        by_cases e2 : i = K.ad.length
        · rw [e2, upf_s, upf_s, upf_s]; omega
        · rw [upf_n e2, upf_n e2, upf_n e2]; exact w4 i (by omega)
    · exact ⟨w1, w2, w3, w4⟩
  | some k =>
    dsimp only
    split
    · rename_i h9
      refine ⟨w1, w2, w3, fun i hi => ?_⟩
      have hk := nbr_s e
      have h4 := w4 k hk.1
      have h5 := w4 i hi
      show 1 ≤ K.st i ∧ K.st i ≤ 5 ∧ upf K.dp k dp i ≤ 20 ∧ upf K.ch k ch i ≤ 8
      by_cases e2 : i = k
      · rw [e2, upf_s, upf_s]; exact ⟨h4.1, h4.2.1, by omega, by omega⟩
      · rw [upf_n e2, upf_n e2]; exact h5
    · exact ⟨w1, w2, w3, w4⟩
/-- the known as the model has them in an array -/
def knG (g : Nat → Int32) (T Y : List (List Int32)) (K : Kn) : Prop := ∀ i, i < K.ad.length → (∃ ka, ka < T.length ∧ g (6 * i) = nI ka ∧ gT T ka = gT K.ad i) ∧ g (6 * i + 1) = nI (K.st i) ∧ g (6 * i + 2) = nI (K.dp i) ∧ g (6 * i + 3) = nI (K.ch i) ∧ (match K.ld i with | none => g (6 * i + 4) = -1 | some D => ∃ ka, ka < T.length ∧ g (6 * i + 4) = nI ka ∧ gT T ka = D) ∧ (K.st i = 2 → ∃ j, j < Y.length ∧ g (6 * i + 5) = nI j ∧ gT Y j = K.tx i)
def knM (S : MS) (T Y : List (List Int32)) (K : Kn) : Prop := S.knownCount = K.ad.length ∧ knG S.known T Y K
theorem knG.cg {g g1 : Nat → Int32} {T Y : List (List Int32)} {K : Kn} (h : knG g T Y K) (e : ∀ j, j < 6 * K.ad.length → g1 j = g j) : knG g1 T Y K := fun i hi => by
  have h2 := h i hi
  rw [e (6 * i) (by omega), e (6 * i + 1) (by omega), e (6 * i + 2) (by omega), e (6 * i + 3) (by omega), e (6 * i + 4) (by omega), e (6 * i + 5) (by omega)]
  exact h2
theorem gT_pre2 {T T1 : List (List Int32)} {k : Nat} (h : T <+: T1) (hk : k < T.length) : k < T1.length ∧ gT T1 k = gT T k := ⟨Nat.lt_of_lt_of_le hk h.length_le, gT_pre h hk⟩
theorem knG.pre {g : Nat → Int32} {T T1 Y Y1 : List (List Int32)} {K : Kn} (h : knG g T Y K) (hT : T <+: T1) (hY : Y <+: Y1) : knG g T1 Y1 K := fun i hi => by
  obtain ⟨⟨ka, a1, a2, a3⟩, b, c, d, e, f⟩ := h i hi
  refine ⟨⟨ka, (gT_pre2 hT a1).1, a2, (gT_pre2 hT a1).2.trans a3⟩, b, c, d, ?_, fun h9 => ?_⟩
  · cases hl : K.ld i with
    | none => rw [hl] at e; exact e
    | some D =>
      rw [hl] at e
      obtain ⟨kb, b1, b2, b3⟩ := e
      exact ⟨kb, (gT_pre2 hT b1).1, b2, (gT_pre2 hT b1).2.trans b3⟩
  · obtain ⟨j, j1, j2, j3⟩ := f h9
    exact ⟨j, (gT_pre2 hY j1).1, j2, (gT_pre2 hY j1).2.trans j3⟩
theorem knM.m {S S1 : MS} {T Y : List (List Int32)} {K : Kn} {Z : List Nat} (h : knM S T Y K) (e : mA Z S S1) (h1 : ¬ 63 ∈ Z) (h2 : ¬ 64 ∈ Z) : knM S1 T Y K := by
  unfold knM at h ⊢
  rw [e.knownCount h2, e.known h1]
  exact h
theorem knM.pre {S : MS} {T T1 Y Y1 : List (List Int32)} {K : Kn} (h : knM S T Y K) (hT : T <+: T1) (hY : Y <+: Y1) : knM S T1 Y1 K := ⟨h.1, h.2.pre hT hY⟩
/-- the limits that the crawl holds -/
def hdM (S : MS) (lim : Nat → Nat) : Prop := (∀ i, i < 4 → S.held i = nI (lim i)) ∧ lim 0 ≤ 20 ∧ lim 1 ≤ 8 ∧ lim 2 ≤ 1000 ∧ lim 3 ≤ 50
theorem hdM.m {S S1 : MS} {lim : Nat → Nat} {Z : List Nat} (h : hdM S lim) (e : mA Z S S1) (h1 : ¬ 58 ∈ Z) : hdM S1 lim := by
  unfold hdM at h ⊢
  rw [e.held h1]
  exact h
theorem adT.m {S S1 : MS} {T : List (List Int32)} {Z : List Nat} (h : adT S T) (e : mA Z S S1) (h1 : ¬ 5 ∈ Z) (h2 : ¬ 6 ∈ Z) (h3 : ¬ 7 ∈ Z) (h4 : ¬ 8 ∈ Z) : adT S1 T := by
  unfold adT at h ⊢
  rw [e.addresses h1, e.addressAt h2, e.addressLength h3, e.addressCount h4]
  exact h
theorem txT.m {S S1 : MS} {Y : List (List Int32)} {Z : List Nat} (h : txT S Y) (e : mA Z S S1) (h1 : ¬ 19 ∈ Z) (h2 : ¬ 20 ∈ Z) (h3 : ¬ 21 ∈ Z) (h4 : ¬ 22 ∈ Z) (h5 : ¬ 23 ∈ Z) : txT S1 Y := by
  unfold txT at h ⊢
  rw [e.texts h1, e.textsEnd h2, e.textAt h3, e.textEnd h4, e.textCount h5]
  exact h
theorem rulM.m {S S1 : MS} {T Y Rs Rt : List (List Int32)} {Z : List Nat} (h : rulM S T Y Rs Rt) (e : mA Z S S1) (h1 : ¬ 24 ∈ Z) (h2 : ¬ 25 ∈ Z) (h3 : ¬ 26 ∈ Z) : rulM S1 T Y Rs Rt := by
  unfold rulM at h ⊢
  rw [e.ruleSite h1, e.ruleText h2, e.ruleCount h3]
  exact h
theorem rulM.pre {S : MS} {T T1 Y Y1 Rs Rt : List (List Int32)} (h : rulM S T Y Rs Rt) (hT : T <+: T1) (hY : Y <+: Y1) : rulM S T1 Y1 Rs Rt := ⟨h.1, h.2.1, h.2.2.1, fun k hk => by
  obtain ⟨⟨ka, a1, a2, a3⟩, j, j1, j2, j3⟩ := h.2.2.2 k hk
  exact ⟨⟨ka, (gT_pre2 hT a1).1, a2, by rw [(gT_pre2 hT a1).2]; exact a3⟩, j, (gT_pre2 hY j1).1, j2, (gT_pre2 hY j1).2.trans j3⟩⟩
section KNM
variable {X : am_X} {d k ka dp ch i : Nat} {A B : List va_E} {S : MS} {T Y : List (List Int32)} {K : Kn} {lim : Nat → Nat}
theorem c_M_of {w : Nat} {v : Int32} (hA : A.length = 84) (hi : i < 250) (hw : w < 6) (hv : S.known (6 * i + w) = v) : am_C X mt_M_of d [.ref 84, .int (nI i), .int (nI w)] (mput A S B) (fun r h1 => r = some (.int v) ∧ h1 = mput A S B) := by
  show am_G X mt_M_of d 0 [some (.ref 84), some (.int (nI i)), some (.int (nI w))] [] (mput A S B) _
  refine g_aload_n (pc := 0) dc_M_of_0 rfl ?_
  refine g_getfield (pc := 1) dc_M_of_1 fl_M_356 (mp_o hA) rfl ?_
  refine g_bipush (pc := 4) (v := 6) dc_M_of_4 rfl ?_
  refine g_iload_n (pc := 6) dc_M_of_6 rfl ?_
  refine g_imul (pc := 7) (v := (nI (6 * i))) dc_M_of_7 (pk_mul 6 i) ?_
  refine g_iload_n (pc := 8) dc_M_of_8 rfl ?_
  refine g_iadd (pc := 9) (v := (nI (6 * i + w))) dc_M_of_9 (nI_add (6 * i) w) ?_
  refine q_ialoadV (pc := 10) (6 * i + w) dc_M_of_10 (mp_a hA 33 rfl) (by omega) (by omega) (v := v) hv ?_
  exact g_ireturn dc_M_of_11 rfl ⟨rfl, rfl⟩
theorem c1_M_of (hA : A.length = 84) (hK : knM S T Y K) (h250 : K.ad.length ≤ 250) (hi : i < K.ad.length) : am_C X mt_M_of d [.ref 84, .int (nI i), .int 1] (mput A S B) (fun r h1 => r = some (.int (nI (K.st i))) ∧ h1 = mput A S B) := c_M_of (w := 1) hA (by omega) (by decide) (hK.2 i hi).2.1
theorem c2_M_of (hA : A.length = 84) (hK : knM S T Y K) (h250 : K.ad.length ≤ 250) (hi : i < K.ad.length) : am_C X mt_M_of d [.ref 84, .int (nI i), .int 2] (mput A S B) (fun r h1 => r = some (.int (nI (K.dp i))) ∧ h1 = mput A S B) := c_M_of (w := 2) hA (by omega) (by decide) (hK.2 i hi).2.2.1
theorem c3_M_of (hA : A.length = 84) (hK : knM S T Y K) (h250 : K.ad.length ≤ 250) (hi : i < K.ad.length) : am_C X mt_M_of d [.ref 84, .int (nI i), .int 3] (mput A S B) (fun r h1 => r = some (.int (nI (K.ch i))) ∧ h1 = mput A S B) := c_M_of (w := 3) hA (by omega) (by decide) (hK.2 i hi).2.2.2.1
theorem l_M_numberOf (hA : A.length = 84) (hT : adT S T) (hka : ka < T.length) (hK : knM S T Y K) (hw : wfK K) : ∀ (n k : Nat) (oo : Option Nat), k + n = K.ad.length → lst K.ad (gT T ka) k oo → am_G X mt_M_numberOf (d + 1) 4 [some (.ref 84), some (.int (nI ka)), some (.int (er oo)), some (.int (nI k))] [] (mput A S B) (fun r h1 => r = some (.int (er (nbr K.ad (gT T ka)))) ∧ h1 = mput A S B)
  | 0, k, oo, hn, hl => by
    have h250 := hw.1
    refine g_iload_n (pc := 4) dc_M_numberOf_4 rfl ?_
    refine g_aload_n (pc := 5) dc_M_numberOf_5 rfl ?_
    refine g_getfield (pc := 6) (v := .int (nI K.ad.length)) dc_M_numberOf_6 fl_M_412 (mp_o hA) (congrArg (fun z => some (Value.int (nI z))) hK.1) ?_
    refine q_icmp_ge (pc := 9) (tgt := 34) k K.ad.length dc_M_numberOf_9 (by omega) (by omega) rfl (fun hc9 => ?_) (fun hc => absurd hc (by omega))
    refine g_iload_n (pc := 34) dc_M_numberOf_34 rfl ?_
    exact g_ireturn dc_M_numberOf_35 rfl ⟨by rw [lst_end (show lst K.ad (gT T ka) K.ad.length oo by rw [← show k = K.ad.length by omega]; exact hl) hw.2.1], rfl⟩
  | n + 1, k, oo, hn, hl => by
    have h250 := hw.1
    have h35 := hT.2.2.1
    obtain ⟨kb, hk1, hk2, hk3⟩ := (hK.2 k (by omega)).1
    refine g_iload_n (pc := 4) dc_M_numberOf_4 rfl ?_
    refine g_aload_n (pc := 5) dc_M_numberOf_5 rfl ?_
    refine g_getfield (pc := 6) (v := .int (nI K.ad.length)) dc_M_numberOf_6 fl_M_412 (mp_o hA) (congrArg (fun z => some (Value.int (nI z))) hK.1) ?_
    refine q_icmp_ge (pc := 9) (tgt := 34) k K.ad.length dc_M_numberOf_9 (by omega) (by omega) rfl (fun hc => absurd hc (by omega)) (fun hc9 => ?_)
    refine g_aload_n (pc := 12) dc_M_numberOf_12 rfl ?_
    refine g_iload_n (pc := 13) dc_M_numberOf_13 rfl ?_
    refine g_iconst (pc := 14) (v := 0) dc_M_numberOf_14 rfl ?_
    refine g_v2 (pc := 15) (M' := mt_M_of) dc_M_numberOf_15 mo_M_of im_M_of se_M_of ln_M_415 (mp_o hA) rfl rfl (Nat.le_of_ble_eq_true rfl) (Nat.le_of_ble_eq_true rfl) (am_G.mono (c_M_of (w := 0) hA (by omega) (by decide) hk2) ?_)
    intro r h1 hq
    rw [hq.1, hq.2]
    clear hq h1 r
    refine ⟨am_nti _, ?_⟩
    refine g_iload_n (pc := 18) dc_M_numberOf_18 rfl ?_
    refine q_icmp_ne (pc := 19) (tgt := 26) kb ka dc_M_numberOf_19 (by omega) (by omega) rfl (fun hc19 => ?_) (fun hc19 => ?_)
    · refine g_iload_n (pc := 26) dc_M_numberOf_26 rfl ?_
      refine g_istore_n (pc := 27) dc_M_numberOf_27 (by decide) ?_
      show am_G X mt_M_numberOf _ 28 [some (.ref 84), some (.int (nI ka)), some (.int (er oo)), some (.int (nI k))] [] _ _
      refine g_iinc (pc := 28) (v := (nI (k + 1))) dc_M_numberOf_28 rfl (nI_add k 1) (by decide) ?_
      show am_G X mt_M_numberOf _ 31 [some (.ref 84), some (.int (nI ka)), some (.int (er oo)), some (.int (nI (k + 1)))] [] _ _
      refine g_goto (pc := 31) (tgt := 4) dc_M_numberOf_31 rfl ?_
      exact l_M_numberOf hA hT hka hK hw n (k + 1) oo (by omega) (lst_miss hl (fun h9 => hc19 (gT_inj hT.2.2.2.2 hk1 hka (hk3.trans h9))))
    · refine g_iload_n (pc := 22) dc_M_numberOf_22 rfl ?_
      refine g_goto (pc := 23) (tgt := 27) dc_M_numberOf_23 rfl ?_
      refine g_istore_n (pc := 27) dc_M_numberOf_27 (by decide) ?_
      show am_G X mt_M_numberOf _ 28 [some (.ref 84), some (.int (nI ka)), some (.int (nI k)), some (.int (nI k))] [] _ _
      refine g_iinc (pc := 28) (v := (nI (k + 1))) dc_M_numberOf_28 rfl (nI_add k 1) (by decide) ?_
      show am_G X mt_M_numberOf _ 31 [some (.ref 84), some (.int (nI ka)), some (.int (nI k)), some (.int (nI (k + 1)))] [] _ _
      refine g_goto (pc := 31) (tgt := 4) dc_M_numberOf_31 rfl ?_
      exact l_M_numberOf hA hT hka hK hw n (k + 1) (some k) (by omega) (lst_hit (by rw [← hk3, hc19]))
theorem c_M_numberOf (hA : A.length = 84) (hT : adT S T) (hka : ka < T.length) (hK : knM S T Y K) (hw : wfK K) : am_C X mt_M_numberOf (d + 1) [.ref 84, .int (nI ka)] (mput A S B) (fun r h1 => r = some (.int (er (nbr K.ad (gT T ka)))) ∧ h1 = mput A S B) := by
  show am_G X mt_M_numberOf (d + 1) 0 [some (.ref 84), some (.int (nI ka)), none, none] [] (mput A S B) _
  refine g_iconst (pc := 0) (v := (-1)) dc_M_numberOf_0 rfl ?_
  refine g_istore_n (pc := 1) dc_M_numberOf_1 (by decide) ?_
  show am_G X mt_M_numberOf _ 2 [some (.ref 84), some (.int (nI ka)), some (.int (-1)), none] [] _ _
  refine g_iconst (pc := 2) (v := 0) dc_M_numberOf_2 rfl ?_
  refine g_istore_n (pc := 3) dc_M_numberOf_3 (by decide) ?_
  show am_G X mt_M_numberOf _ 4 [some (.ref 84), some (.int (nI ka)), some (.int (-1)), some (.int 0)] [] _ _
  exact l_M_numberOf hA hT hka hK hw K.ad.length 0 none (by omega) lst_0
theorem mee_n {D : List Int32} (e : nbr K.ad D = none) (h : dp ≤ lim 0 ∧ ch ≤ lim 1 ∧ K.ad.length < 250) : mee lim D dp ch K = (K.ad ++ [D], upf K.st K.ad.length 1, upf K.dp K.ad.length dp, upf K.ch K.ad.length ch, upf K.ld K.ad.length none, K.tx, upf K.at K.ad.length none) := by
  unfold mee
  rw [e]
  exact if_pos h
theorem mee_n0 {D : List Int32} (e : nbr K.ad D = none) (h : ¬ (dp ≤ lim 0 ∧ ch ≤ lim 1 ∧ K.ad.length < 250)) : mee lim D dp ch K = K := by
  unfold mee
  rw [e]
  exact if_neg h
theorem mee_s {D : List Int32} (e : nbr K.ad D = some k) (h : K.st k = 1 ∧ (dp < K.dp k ∨ dp = K.dp k ∧ ch < K.ch k)) : mee lim D dp ch K = (K.ad, K.st, upf K.dp k dp, upf K.ch k ch, K.ld, K.tx, K.at) := by
  unfold mee
  rw [e]
  exact if_pos h
theorem mee_s0 {D : List Int32} (e : nbr K.ad D = some k) (h : ¬ (K.st k = 1 ∧ (dp < K.dp k ∨ dp = K.dp k ∧ ch < K.ch k))) : mee lim D dp ch K = K := by
  unfold mee
  rw [e]
  exact if_neg h
theorem knG.new {g g1 : Nat → Int32} {D : List Int32} {n : Nat} (h : knG g T Y K) (hn : n = K.ad.length) (hk : ka < T.length) (hD : gT T ka = D) (e0 : ∀ j, j < 6 * n → g1 j = g j) (e1 : g1 (6 * n) = nI ka) (e2 : g1 (6 * n + 1) = 1) (e3 : g1 (6 * n + 2) = nI dp) (e4 : g1 (6 * n + 3) = nI ch) (e5 : g1 (6 * n + 4) = -1) : knG g1 T Y (K.ad ++ [D], upf K.st K.ad.length 1, upf K.dp K.ad.length dp, upf K.ch K.ad.length ch, upf K.ld K.ad.length none, K.tx, upf K.at K.ad.length none) := by
  intro i hi
  have hi2 : i < K.ad.length + 1 := by
    have : (K.ad ++ [D]).length = K.ad.length + 1 := by rw [List.length_append]; rfl
    rw [← this]; exact hi
  show (∃ ka, ka < T.length ∧ g1 (6 * i) = nI ka ∧ gT T ka = gT (K.ad ++ [D]) i) ∧ g1 (6 * i + 1) = nI (upf K.st K.ad.length 1 i) ∧ g1 (6 * i + 2) = nI (upf K.dp K.ad.length dp i) ∧ g1 (6 * i + 3) = nI (upf K.ch K.ad.length ch i) ∧ (match upf K.ld K.ad.length none i with | none => g1 (6 * i + 4) = -1 | some D => ∃ ka, ka < T.length ∧ g1 (6 * i + 4) = nI ka ∧ gT T ka = D) ∧ (upf K.st K.ad.length 1 i = 2 → ∃ j, j < Y.length ∧ g1 (6 * i + 5) = nI j ∧ gT Y j = K.tx i)
  by_cases e : i = K.ad.length
  · subst e
    rw [upf_s, upf_s, upf_s, upf_s]
    subst hn
    exact ⟨⟨ka, hk, e1, by rw [gT_new]; exact hD⟩, e2, e3, e4, e5, fun h9 => by cases h9⟩
  · rw [upf_n e, upf_n e, upf_n e, upf_n e, gT_app (by omega), e0 (6 * i) (by omega), e0 (6 * i + 1) (by omega), e0 (6 * i + 2) (by omega), e0 (6 * i + 3) (by omega), e0 (6 * i + 4) (by omega), e0 (6 * i + 5) (by omega)]
    exact h i (by omega)
theorem knG.imp {g : Nat → Int32} (h : knG g T Y K) (hk : k < K.ad.length) : knG (upd (upd g (6 * k + 2) (nI dp)) (6 * k + 3) (nI ch)) T Y (K.ad, K.st, upf K.dp k dp, upf K.ch k ch, K.ld, K.tx, K.at) := by
  intro i hi
  have hi2 : i < K.ad.length := hi
  have h9 := h i hi2
  have e : ∀ j, ¬ j = 6 * k + 2 → ¬ j = 6 * k + 3 → upd (upd g (6 * k + 2) (nI dp)) (6 * k + 3) (nI ch) j = g j := fun j a b => by rw [upd_n b, upd_n a]
  show (∃ ka, ka < T.length ∧ upd (upd g (6 * k + 2) (nI dp)) (6 * k + 3) (nI ch) (6 * i) = nI ka ∧ gT T ka = gT K.ad i) ∧ upd (upd g (6 * k + 2) (nI dp)) (6 * k + 3) (nI ch) (6 * i + 1) = nI (K.st i) ∧ upd (upd g (6 * k + 2) (nI dp)) (6 * k + 3) (nI ch) (6 * i + 2) = nI (upf K.dp k dp i) ∧ upd (upd g (6 * k + 2) (nI dp)) (6 * k + 3) (nI ch) (6 * i + 3) = nI (upf K.ch k ch i) ∧ (match K.ld i with | none => upd (upd g (6 * k + 2) (nI dp)) (6 * k + 3) (nI ch) (6 * i + 4) = -1 | some D => ∃ ka, ka < T.length ∧ upd (upd g (6 * k + 2) (nI dp)) (6 * k + 3) (nI ch) (6 * i + 4) = nI ka ∧ gT T ka = D) ∧ (K.st i = 2 → ∃ j, j < Y.length ∧ upd (upd g (6 * k + 2) (nI dp)) (6 * k + 3) (nI ch) (6 * i + 5) = nI j ∧ gT Y j = K.tx i)
  rw [e (6 * i) (by omega) (by omega), e (6 * i + 1) (by omega) (by omega), e (6 * i + 4) (by omega) (by omega), e (6 * i + 5) (by omega) (by omega)]
  refine ⟨h9.1, h9.2.1, ?_, ?_, h9.2.2.2.2⟩
  · by_cases q : i = k
    · rw [q, upf_s, upd_n (by omega), upd_s]
    · rw [upf_n q, e _ (by omega) (by omega)]; exact h9.2.2.1
  · by_cases q : i = k
    · rw [q, upf_s, upd_s]
    · rw [upf_n q, e _ (by omega) (by omega)]; exact h9.2.2.2.1
theorem c_M_meet (hA : A.length = 84) (hT : adT S T) (hka : ka < T.length) (hK : knM S T Y K) (hw : wfK K) (hl : hdM S lim) (hdp : dp ≤ 21) (hch : ch ≤ 9) : am_C X mt_M_meet (d + 2) [.ref 84, .int (nI ka), .int (nI dp), .int (nI ch)] (mput A S B) (fun r h1 => r = none ∧ ∃ S1, h1 = mput A S1 B ∧ mA [63, 64] S S1 ∧ knM S1 T Y (mee lim (gT T ka) dp ch K)) := by
  show am_G X mt_M_meet (d + 2) 0 [some (.ref 84), some (.int (nI ka)), some (.int (nI dp)), some (.int (nI ch)), none, none] [] (mput A S B) _
  have h250 := hw.1
  have hl0 := hl.1 0 (by decide)
  have hl1 := hl.1 1 (by decide)
  have hl2 := hl.2.1
  have hl3 := hl.2.2.1
  have hnb : ∀ k, nbr K.ad (gT T ka) = some k → k < 2 ^ 31 := fun k hk => by have := (nbr_s hk).1; omega
  refine g_aload_n (pc := 0) dc_M_meet_0 rfl ?_
  refine g_iload_n (pc := 1) dc_M_meet_1 rfl ?_
  refine g_v1 (pc := 2) (M' := mt_M_numberOf) dc_M_meet_2 mo_M_numberOf im_M_numberOf se_M_numberOf ln_M_418 (mp_o hA) rfl rfl (Nat.le_of_ble_eq_true rfl) (Nat.le_of_ble_eq_true rfl) (am_G.mono (c_M_numberOf (d := d) hA hT hka hK hw) ?_)
  intro r h1 hq
  rw [hq.1, hq.2]
  clear hq h1 r
  refine ⟨am_nti _, ?_⟩
  refine g_istore (pc := 5) dc_M_meet_5 (by decide) ?_
  show am_G X mt_M_meet _ 7 [some (.ref 84), some (.int (nI ka)), some (.int (nI dp)), some (.int (nI ch)), some (.int (er (nbr K.ad (gT T ka)))), none] [] _ _
  refine g_iload (pc := 7) dc_M_meet_7 rfl ?_
  refine q_o_ge (pc := 9) (tgt := 120) dc_M_meet_9 hnb rfl (fun k9 hc9 => ?_) (fun hc9 => ?_)
  · rw [hc9]
    rw [show er (some k9) = nI k9 from rfl]
    have hk9 := hnb k9 hc9
    have hk9 : k9 < K.ad.length := (nbr_s hc9).1
    have hw9 := hw.2.2.2 k9 hk9
    refine g_aload_n (pc := 120) dc_M_meet_120 rfl ?_
    refine g_iload (pc := 121) dc_M_meet_121 rfl ?_
    refine g_iconst (pc := 123) (v := 1) dc_M_meet_123 rfl ?_
    refine g_v2 (pc := 124) (M' := mt_M_of) dc_M_meet_124 mo_M_of im_M_of se_M_of ln_M_415 (mp_o hA) rfl rfl (Nat.le_of_ble_eq_true rfl) (Nat.le_of_ble_eq_true rfl) (am_G.mono (c1_M_of (d := d + 1) (i := k9) hA hK (by omega) hk9) ?_)
    intro r h1 hq
    rw [hq.1, hq.2]
    clear hq h1 r
    refine ⟨am_nti _, ?_⟩
    refine g_iconst (pc := 127) (v := 1) dc_M_meet_127 rfl ?_
    refine q_icmp_ne (pc := 128) (tgt := 190) (K.st k9) 1 dc_M_meet_128 (by omega) (by omega) rfl (fun hc128 => ?_) (fun hc128 => ?_)
    · exact g_return dc_M_meet_190 rfl ⟨rfl, S, rfl, mA.rf S, by rw [mee_s0 hc9 (by omega)]; exact hK⟩
    · refine g_iload_n (pc := 131) dc_M_meet_131 rfl ?_
      refine g_aload_n (pc := 132) dc_M_meet_132 rfl ?_
      refine g_iload (pc := 133) dc_M_meet_133 rfl ?_
      refine g_iconst (pc := 135) (v := 2) dc_M_meet_135 rfl ?_
      refine g_v2 (pc := 136) (M' := mt_M_of) dc_M_meet_136 mo_M_of im_M_of se_M_of ln_M_415 (mp_o hA) rfl rfl (Nat.le_of_ble_eq_true rfl) (Nat.le_of_ble_eq_true rfl) (am_G.mono (c2_M_of (d := d + 1) (i := k9) hA hK (by omega) hk9) ?_)
      intro r h1 hq
      rw [hq.1, hq.2]
      clear hq h1 r
      refine ⟨am_nti _, ?_⟩
      refine q_icmp_lt (pc := 139) (tgt := 164) dp (K.dp k9) dc_M_meet_139 (by omega) (by omega) rfl (fun hc139 => ?_) (fun hc139 => ?_)
      · refine g_aload_n (pc := 164) dc_M_meet_164 rfl ?_
        refine g_getfield (pc := 165) dc_M_meet_165 fl_M_356 (mp_o hA) rfl ?_
        refine g_bipush (pc := 168) (v := 6) dc_M_meet_168 rfl ?_
        refine g_iload (pc := 170) dc_M_meet_170 rfl ?_
        refine g_imul (pc := 172) (v := (nI (6 * k9))) dc_M_meet_172 (pk_mul 6 k9) ?_
        refine g_iconst (pc := 173) (v := 2) dc_M_meet_173 rfl ?_
        refine g_iadd (pc := 174) (v := (nI (6 * k9 + 2))) dc_M_meet_174 (nI_add (6 * k9) 2) ?_
        refine g_iload_n (pc := 175) dc_M_meet_175 rfl ?_
        refine as_known (pc := 176) (6 * k9 + 2) hA dc_M_meet_176 (by omega) ?_
        refine g_aload_n (pc := 177) dc_M_meet_177 rfl ?_
        refine g_getfield (pc := 178) dc_M_meet_178 fl_M_356 (mp_o hA) rfl ?_
        refine g_bipush (pc := 181) (v := 6) dc_M_meet_181 rfl ?_
        refine g_iload (pc := 183) dc_M_meet_183 rfl ?_
        refine g_imul (pc := 185) (v := (nI (6 * k9))) dc_M_meet_185 (pk_mul 6 k9) ?_
        refine g_iconst (pc := 186) (v := 3) dc_M_meet_186 rfl ?_
        refine g_iadd (pc := 187) (v := (nI (6 * k9 + 3))) dc_M_meet_187 (nI_add (6 * k9) 3) ?_
        refine g_iload_n (pc := 188) dc_M_meet_188 rfl ?_
        refine as_known (pc := 189) (6 * k9 + 3) hA dc_M_meet_189 (by omega) ?_
        rw [MS.ss_known]
        exact g_return dc_M_meet_190 rfl ⟨rfl, _, rfl, (mA.rf S).a_known _ (by decide), by rw [mee_s hc9 ⟨by omega, by omega⟩]; exact ⟨hK.1, hK.2.imp hk9⟩⟩
      · refine g_iload_n (pc := 142) dc_M_meet_142 rfl ?_
        refine g_aload_n (pc := 143) dc_M_meet_143 rfl ?_
        refine g_iload (pc := 144) dc_M_meet_144 rfl ?_
        refine g_iconst (pc := 146) (v := 2) dc_M_meet_146 rfl ?_
        refine g_v2 (pc := 147) (M' := mt_M_of) dc_M_meet_147 mo_M_of im_M_of se_M_of ln_M_415 (mp_o hA) rfl rfl (Nat.le_of_ble_eq_true rfl) (Nat.le_of_ble_eq_true rfl) (am_G.mono (c2_M_of (d := d + 1) (i := k9) hA hK (by omega) hk9) ?_)
        intro r h1 hq
        rw [hq.1, hq.2]
        clear hq h1 r
        refine ⟨am_nti _, ?_⟩
        refine q_icmp_ne (pc := 150) (tgt := 190) dp (K.dp k9) dc_M_meet_150 (by omega) (by omega) rfl (fun hc150 => ?_) (fun hc150 => ?_)
        · exact g_return dc_M_meet_190 rfl ⟨rfl, S, rfl, mA.rf S, by rw [mee_s0 hc9 (by omega)]; exact hK⟩
        · refine g_iload_n (pc := 153) dc_M_meet_153 rfl ?_
          refine g_aload_n (pc := 154) dc_M_meet_154 rfl ?_
          refine g_iload (pc := 155) dc_M_meet_155 rfl ?_
          refine g_iconst (pc := 157) (v := 3) dc_M_meet_157 rfl ?_
          refine g_v2 (pc := 158) (M' := mt_M_of) dc_M_meet_158 mo_M_of im_M_of se_M_of ln_M_415 (mp_o hA) rfl rfl (Nat.le_of_ble_eq_true rfl) (Nat.le_of_ble_eq_true rfl) (am_G.mono (c3_M_of (d := d + 1) (i := k9) hA hK (by omega) hk9) ?_)
          intro r h1 hq
          rw [hq.1, hq.2]
          clear hq h1 r
          refine ⟨am_nti _, ?_⟩
          refine q_icmp_ge (pc := 161) (tgt := 190) ch (K.ch k9) dc_M_meet_161 (by omega) (by omega) rfl (fun hc161 => ?_) (fun hc161 => ?_)
          · exact g_return dc_M_meet_190 rfl ⟨rfl, S, rfl, mA.rf S, by rw [mee_s0 hc9 (by omega)]; exact hK⟩
          · refine g_aload_n (pc := 164) dc_M_meet_164 rfl ?_
            refine g_getfield (pc := 165) dc_M_meet_165 fl_M_356 (mp_o hA) rfl ?_
            refine g_bipush (pc := 168) (v := 6) dc_M_meet_168 rfl ?_
            refine g_iload (pc := 170) dc_M_meet_170 rfl ?_
            refine g_imul (pc := 172) (v := (nI (6 * k9))) dc_M_meet_172 (pk_mul 6 k9) ?_
            refine g_iconst (pc := 173) (v := 2) dc_M_meet_173 rfl ?_
            refine g_iadd (pc := 174) (v := (nI (6 * k9 + 2))) dc_M_meet_174 (nI_add (6 * k9) 2) ?_
            refine g_iload_n (pc := 175) dc_M_meet_175 rfl ?_
            refine as_known (pc := 176) (6 * k9 + 2) hA dc_M_meet_176 (by omega) ?_
            refine g_aload_n (pc := 177) dc_M_meet_177 rfl ?_
            refine g_getfield (pc := 178) dc_M_meet_178 fl_M_356 (mp_o hA) rfl ?_
            refine g_bipush (pc := 181) (v := 6) dc_M_meet_181 rfl ?_
            refine g_iload (pc := 183) dc_M_meet_183 rfl ?_
            refine g_imul (pc := 185) (v := (nI (6 * k9))) dc_M_meet_185 (pk_mul 6 k9) ?_
            refine g_iconst (pc := 186) (v := 3) dc_M_meet_186 rfl ?_
            refine g_iadd (pc := 187) (v := (nI (6 * k9 + 3))) dc_M_meet_187 (nI_add (6 * k9) 3) ?_
            refine g_iload_n (pc := 188) dc_M_meet_188 rfl ?_
            refine as_known (pc := 189) (6 * k9 + 3) hA dc_M_meet_189 (by omega) ?_
            rw [MS.ss_known]
            exact g_return dc_M_meet_190 rfl ⟨rfl, _, rfl, (mA.rf S).a_known _ (by decide), by rw [mee_s hc9 ⟨by omega, by omega⟩]; exact ⟨hK.1, hK.2.imp hk9⟩⟩
  · rw [hc9]
    refine g_iload_n (pc := 12) dc_M_meet_12 rfl ?_
    refine g_aload_n (pc := 13) dc_M_meet_13 rfl ?_
    refine g_getfield (pc := 14) dc_M_meet_14 fl_M_350 (mp_o hA) rfl ?_
    refine g_iconst (pc := 17) (v := 0) dc_M_meet_17 rfl ?_
    refine q_ialoadV (pc := 18) 0 dc_M_meet_18 (mp_a hA 31 rfl) (by omega) (by omega) (v := (nI (lim 0))) hl0 ?_
    refine q_icmp_gt (pc := 19) (tgt := 119) dp (lim 0) dc_M_meet_19 (by omega) (by omega) rfl (fun hc19 => ?_) (fun hc19 => ?_)
    · exact g_return dc_M_meet_119 rfl ⟨rfl, S, rfl, mA.rf S, by rw [mee_n0 hc9 (by omega)]; exact hK⟩
    · refine g_iload_n (pc := 22) dc_M_meet_22 rfl ?_
      refine g_aload_n (pc := 23) dc_M_meet_23 rfl ?_
      refine g_getfield (pc := 24) dc_M_meet_24 fl_M_350 (mp_o hA) rfl ?_
      refine g_iconst (pc := 27) (v := 1) dc_M_meet_27 rfl ?_
      refine q_ialoadV (pc := 28) 1 dc_M_meet_28 (mp_a hA 31 rfl) (by omega) (by omega) (v := (nI (lim 1))) hl1 ?_
      refine q_icmp_gt (pc := 29) (tgt := 119) ch (lim 1) dc_M_meet_29 (by omega) (by omega) rfl (fun hc29 => ?_) (fun hc29 => ?_)
      · exact g_return dc_M_meet_119 rfl ⟨rfl, S, rfl, mA.rf S, by rw [mee_n0 hc9 (by omega)]; exact hK⟩
      · refine g_aload_n (pc := 32) dc_M_meet_32 rfl ?_
        refine g_getfield (pc := 33) (v := .int (nI K.ad.length)) dc_M_meet_33 fl_M_412 (mp_o hA) (congrArg (fun z => some (Value.int (nI z))) hK.1) ?_
        refine g_sipush (pc := 36) (v := 250) dc_M_meet_36 rfl ?_
        refine q_icmp_ge (pc := 39) (tgt := 119) K.ad.length 250 dc_M_meet_39 (by omega) (by omega) rfl (fun hc39 => ?_) (fun hc39 => ?_)
        · exact g_return dc_M_meet_119 rfl ⟨rfl, S, rfl, mA.rf S, by rw [mee_n0 hc9 (by omega)]; exact hK⟩
        · refine g_bipush (pc := 42) (v := 6) dc_M_meet_42 rfl ?_
          refine g_aload_n (pc := 44) dc_M_meet_44 rfl ?_
          refine g_getfield (pc := 45) (v := .int (nI K.ad.length)) dc_M_meet_45 fl_M_412 (mp_o hA) (congrArg (fun z => some (Value.int (nI z))) hK.1) ?_
          refine g_imul (pc := 48) (v := (nI (6 * K.ad.length))) dc_M_meet_48 (pk_mul 6 K.ad.length) ?_
          refine g_istore (pc := 49) dc_M_meet_49 (by decide) ?_
          show am_G X mt_M_meet _ 51 [some (.ref 84), some (.int (nI ka)), some (.int (nI dp)), some (.int (nI ch)), some (.int (-1)), some (.int (nI (6 * K.ad.length)))] [] _ _
          refine g_aload_n (pc := 51) dc_M_meet_51 rfl ?_
          refine g_getfield (pc := 52) dc_M_meet_52 fl_M_356 (mp_o hA) rfl ?_
          refine g_iload (pc := 55) dc_M_meet_55 rfl ?_
          refine g_iload_n (pc := 57) dc_M_meet_57 rfl ?_
          refine as_known (pc := 58) (6 * K.ad.length) hA dc_M_meet_58 (by omega) ?_
          refine g_aload_n (pc := 59) dc_M_meet_59 rfl ?_
          refine g_getfield (pc := 60) dc_M_meet_60 fl_M_356 (mp_o hA) rfl ?_
          refine g_iload (pc := 63) dc_M_meet_63 rfl ?_
          refine g_iconst (pc := 65) (v := 1) dc_M_meet_65 rfl ?_
          refine g_iadd (pc := 66) (v := (nI (6 * K.ad.length + 1))) dc_M_meet_66 (nI_add (6 * K.ad.length) 1) ?_
          refine g_iconst (pc := 67) (v := 1) dc_M_meet_67 rfl ?_
          refine as_known (pc := 68) (6 * K.ad.length + 1) hA dc_M_meet_68 (by omega) ?_
          rw [MS.ss_known]
          refine g_aload_n (pc := 69) dc_M_meet_69 rfl ?_
          refine g_getfield (pc := 70) dc_M_meet_70 fl_M_356 (mp_o hA) rfl ?_
          refine g_iload (pc := 73) dc_M_meet_73 rfl ?_
          refine g_iconst (pc := 75) (v := 2) dc_M_meet_75 rfl ?_
          refine g_iadd (pc := 76) (v := (nI (6 * K.ad.length + 2))) dc_M_meet_76 (nI_add (6 * K.ad.length) 2) ?_
          refine g_iload_n (pc := 77) dc_M_meet_77 rfl ?_
          refine as_known (pc := 78) (6 * K.ad.length + 2) hA dc_M_meet_78 (by omega) ?_
          rw [MS.ss_known]
          refine g_aload_n (pc := 79) dc_M_meet_79 rfl ?_
          refine g_getfield (pc := 80) dc_M_meet_80 fl_M_356 (mp_o hA) rfl ?_
          refine g_iload (pc := 83) dc_M_meet_83 rfl ?_
          refine g_iconst (pc := 85) (v := 3) dc_M_meet_85 rfl ?_
          refine g_iadd (pc := 86) (v := (nI (6 * K.ad.length + 3))) dc_M_meet_86 (nI_add (6 * K.ad.length) 3) ?_
          refine g_iload_n (pc := 87) dc_M_meet_87 rfl ?_
          refine as_known (pc := 88) (6 * K.ad.length + 3) hA dc_M_meet_88 (by omega) ?_
          rw [MS.ss_known]
          refine g_aload_n (pc := 89) dc_M_meet_89 rfl ?_
          refine g_getfield (pc := 90) dc_M_meet_90 fl_M_356 (mp_o hA) rfl ?_
          refine g_iload (pc := 93) dc_M_meet_93 rfl ?_
          refine g_iconst (pc := 95) (v := 4) dc_M_meet_95 rfl ?_
          refine g_iadd (pc := 96) (v := (nI (6 * K.ad.length + 4))) dc_M_meet_96 (nI_add (6 * K.ad.length) 4) ?_
          refine g_iconst (pc := 97) (v := (-1)) dc_M_meet_97 rfl ?_
          refine as_known (pc := 98) (6 * K.ad.length + 4) hA dc_M_meet_98 (by omega) ?_
          rw [MS.ss_known]
          refine g_aload_n (pc := 99) dc_M_meet_99 rfl ?_
          refine g_getfield (pc := 100) dc_M_meet_100 fl_M_356 (mp_o hA) rfl ?_
          refine g_iload (pc := 103) dc_M_meet_103 rfl ?_
          refine g_iconst (pc := 105) (v := 5) dc_M_meet_105 rfl ?_
          refine g_iadd (pc := 106) (v := (nI (6 * K.ad.length + 5))) dc_M_meet_106 (nI_add (6 * K.ad.length) 5) ?_
          refine g_iconst (pc := 107) (v := (-1)) dc_M_meet_107 rfl ?_
          refine as_known (pc := 108) (6 * K.ad.length + 5) hA dc_M_meet_108 (by omega) ?_
          rw [MS.ss_known]
          refine g_aload_n (pc := 109) dc_M_meet_109 rfl ?_
          refine g_dup (pc := 110) dc_M_meet_110 rfl ?_
          refine g_getfield (pc := 111) (v := .int (nI K.ad.length)) dc_M_meet_111 fl_M_412 (mp_o hA) (congrArg (fun z => some (Value.int (nI z))) hK.1) ?_
          refine g_iconst (pc := 114) (v := 1) dc_M_meet_114 rfl ?_
          refine g_iadd (pc := 115) (v := (nI (K.ad.length + 1))) dc_M_meet_115 (nI_add K.ad.length 1) ?_
          refine pf_knownCount (pc := 116) (v := K.ad.length + 1) hA dc_M_meet_116 fp_M_meet_412 ?_
          exact g_return dc_M_meet_119 rfl ⟨rfl, _, rfl, ((mA.rf S).a_known _ (by decide)).a_knownCount _ (by decide), by rw [mee_n hc9 ⟨by omega, by omega, by omega⟩]; exact ⟨by show K.ad.length + 1 = (K.ad ++ [gT T ka]).length; rw [List.length_append]; rfl, hK.2.new (g1 := (upd (upd (upd (upd (upd (upd S.known (6 * K.ad.length) (nI ka)) (6 * K.ad.length + 1) 1) (6 * K.ad.length + 2) (nI dp)) (6 * K.ad.length + 3) (nI ch)) (6 * K.ad.length + 4) (-1)) (6 * K.ad.length + 5) (-1))) (n := K.ad.length) rfl hka rfl (fun j hj => by rw [upd_n (by omega), upd_n (by omega), upd_n (by omega), upd_n (by omega), upd_n (by omega), upd_n (by omega)]) (by rw [upd_n (by omega), upd_n (by omega), upd_n (by omega), upd_n (by omega), upd_n (by omega), upd_s]) (by rw [upd_n (by omega), upd_n (by omega), upd_n (by omega), upd_n (by omega), upd_s]) (by rw [upd_n (by omega), upd_n (by omega), upd_n (by omega), upd_s]) (by rw [upd_n (by omega), upd_n (by omega), upd_s]) (by rw [upd_n (by omega), upd_s])⟩⟩
theorem l_M_save {Q : Option Value → List va_E → Prop} (hA : A.length = 84) (hK : S.knownCount = k) (h250 : k ≤ 250) (KK : ∀ g, (∀ j, j < 6 * k → g j = S.known j) → am_G X mt_M_save d 31 [some (.ref 84), none] [] (mput A (S.s_saved g) B) Q) : ∀ (n i : Nat) (g : Nat → Int32), i + n = 6 * k → (∀ j, j < i → g j = S.known j) → am_G X mt_M_save d 2 [some (.ref 84), some (.int (nI i))] [] (mput A (S.s_saved g) B) Q
  | 0, i, g, e, hp => by
    refine g_iload_n (pc := 2) dc_M_save_2 rfl ?_
    refine g_bipush (pc := 3) (v := 6) dc_M_save_3 rfl ?_
    refine g_aload_n (pc := 5) dc_M_save_5 rfl ?_
    refine g_getfield (pc := 6) (v := .int (nI k)) dc_M_save_6 fl_M_412 (mp_o hA) (congrArg (fun z => some (Value.int (nI z))) hK) ?_
    refine g_imul (pc := 9) (v := (nI (6 * k))) dc_M_save_9 (pk_mul 6 k) ?_
    refine q_icmp_ge (pc := 10) (tgt := 31) i (6 * k) dc_M_save_10 (by omega) (by omega) rfl (fun hc10 => ?_) (fun hc => absurd hc (by omega))
    refine am_wk (am_le_s (am_le_n am_le_0)) ?_
    exact KK g (fun j hj => hp j (by omega))
  | n + 1, i, g, e, hp => by
    refine g_iload_n (pc := 2) dc_M_save_2 rfl ?_
    refine g_bipush (pc := 3) (v := 6) dc_M_save_3 rfl ?_
    refine g_aload_n (pc := 5) dc_M_save_5 rfl ?_
    refine g_getfield (pc := 6) (v := .int (nI k)) dc_M_save_6 fl_M_412 (mp_o hA) (congrArg (fun z => some (Value.int (nI z))) hK) ?_
    refine g_imul (pc := 9) (v := (nI (6 * k))) dc_M_save_9 (pk_mul 6 k) ?_
    refine q_icmp_ge (pc := 10) (tgt := 31) i (6 * k) dc_M_save_10 (by omega) (by omega) rfl (fun hc => absurd hc (by omega)) (fun hc10 => ?_)
    refine g_aload_n (pc := 13) dc_M_save_13 rfl ?_
    refine g_getfield (pc := 14) dc_M_save_14 fl_M_359 (mp_o hA) rfl ?_
    refine g_iload_n (pc := 17) dc_M_save_17 rfl ?_
    refine g_aload_n (pc := 18) dc_M_save_18 rfl ?_
    refine g_getfield (pc := 19) dc_M_save_19 fl_M_356 (mp_o hA) rfl ?_
    refine g_iload_n (pc := 22) dc_M_save_22 rfl ?_
    refine q_iaload (pc := 23) i dc_M_save_23 (mp_a hA 33 rfl) (by omega) (by omega) ?_
    refine as_saved (pc := 24) i hA dc_M_save_24 (by omega) ?_
    rw [MS.ss_saved]
    refine g_iinc (pc := 25) (v := (nI (i + 1))) dc_M_save_25 rfl (nI_add i 1) (by decide) ?_
    show am_G X mt_M_save _ 28 [some (.ref 84), some (.int (nI (i + 1)))] [] _ _
    refine g_goto (pc := 28) (tgt := 2) dc_M_save_28 rfl ?_
    exact l_M_save hA hK h250 KK n (i + 1) _ (by omega) (fun j hj => by
      by_cases e9 : j = i
      · rw [e9, upd_s]; rfl
      · rw [upd_n e9]; exact hp j (by omega))
theorem c_M_save (hA : A.length = 84) (hK : knM S T Y K) (h250 : K.ad.length ≤ 250) : am_C X mt_M_save d [.ref 84] (mput A S B) (fun r h1 => r = none ∧ ∃ S1, h1 = mput A S1 B ∧ mA [65, 66, 67] S S1 ∧ S1.savedCount = K.ad.length ∧ knG S1.saved T Y K ∧ S1.askedSince = 0) := by
  show am_G X mt_M_save d 0 [some (.ref 84), none] [] (mput A S B) _
  refine g_iconst (pc := 0) (v := 0) dc_M_save_0 rfl ?_
  refine g_istore_n (pc := 1) dc_M_save_1 (by decide) ?_
  show am_G X mt_M_save _ 2 [some (.ref 84), some (.int 0)] [] _ _
  refine l_M_save (S := S) (k := K.ad.length) hA hK.1 h250 (fun g hg => ?_) (6 * K.ad.length) 0 S.saved (by omega) (fun j hj => absurd hj (by omega))
  refine g_aload_n (pc := 31) dc_M_save_31 rfl ?_
  refine g_aload_n (pc := 32) dc_M_save_32 rfl ?_
  refine g_getfield (pc := 33) (v := .int (nI K.ad.length)) dc_M_save_33 fl_M_412 (mp_o hA) (congrArg (fun z => some (Value.int (nI z))) hK.1) ?_
  refine pf_savedCount (pc := 36) (v := K.ad.length) hA dc_M_save_36 fp_M_save_421 ?_
  refine g_aload_n (pc := 39) dc_M_save_39 rfl ?_
  refine g_iconst (pc := 40) (v := 0) dc_M_save_40 rfl ?_
  refine pf_askedSince (pc := 41) (v := 0) hA dc_M_save_41 fp_M_save_424 ?_
  exact g_return dc_M_save_44 rfl ⟨rfl, _, rfl, (((mA.rf S).a_saved _ (by decide)).a_savedCount _ (by decide)).a_askedSince _ (by decide), rfl, hK.2.cg hg, rfl⟩
def lss (K : Kn) (k : Nat) (b : Option Nat) : Bool := match b with
  | none => true
  | some j => decide (K.dp k < K.dp j ∨ K.dp k = K.dp j ∧ K.ch k < K.ch j)
/-- who is asked for next -/
def nwf (K : Kn) : Nat → Option Nat
  | 0 => none
  | k + 1 => if K.st k = 1 ∧ lss K k (nwf K k) = true then some k else nwf K k
def nxw (K : Kn) : Option Nat := nwf K K.ad.length
theorem nwf_b {K : Kn} : ∀ (n k : Nat), nwf K n = some k → k < n ∧ K.st k = 1
  | 0, k, h => by cases h
  | n + 1, k, h => by
    have e : nwf K (n + 1) = if K.st n = 1 ∧ lss K n (nwf K n) = true then some n else nwf K n := rfl
    rw [e] at h
    split at h
    · rename_i h9
      cases h
      exact ⟨by omega, h9.1⟩
    · have := nwf_b n k h
      exact ⟨by omega, this.2⟩
theorem l_M_next (hA : A.length = 84) (hK : knM S T Y K) (hw : wfK K) : ∀ (n k : Nat), k + n = K.ad.length → am_G X mt_M_next (d + 1) 4 [some (.ref 84), some (.int (er (nwf K k))), some (.int (nI k)), none] [] (mput A S B) (fun r h1 => r = some (.int (er (nxw K))) ∧ h1 = mput A S B)
  | 0, k, hn => by
    have h250 := hw.1
    refine g_iload_n (pc := 4) dc_M_next_4 rfl ?_
    refine g_aload_n (pc := 5) dc_M_next_5 rfl ?_
    refine g_getfield (pc := 6) (v := .int (nI K.ad.length)) dc_M_next_6 fl_M_412 (mp_o hA) (congrArg (fun z => some (Value.int (nI z))) hK.1) ?_
    refine q_icmp_ge (pc := 9) (tgt := 93) k K.ad.length dc_M_next_9 (by omega) (by omega) rfl (fun hc9 => ?_) (fun hc => absurd hc (by omega))
    refine g_iload_n (pc := 93) dc_M_next_93 rfl ?_
    exact g_ireturn dc_M_next_94 rfl ⟨by rw [show nxw K = nwf K k from by unfold nxw; rw [show k = K.ad.length by omega]], rfl⟩
  | n + 1, k, hn => by
    have h250 := hw.1
    have hwk := hw.2.2.2 k (by omega)
    have hnb : ∀ j, nwf K k = some j → j < 2 ^ 31 := fun j hj => by have := (nwf_b k j hj).1; omega
    have es : nwf K (k + 1) = if K.st k = 1 ∧ lss K k (nwf K k) = true then some k else nwf K k := rfl
    refine g_iload_n (pc := 4) dc_M_next_4 rfl ?_
    refine g_aload_n (pc := 5) dc_M_next_5 rfl ?_
    refine g_getfield (pc := 6) (v := .int (nI K.ad.length)) dc_M_next_6 fl_M_412 (mp_o hA) (congrArg (fun z => some (Value.int (nI z))) hK.1) ?_
    refine q_icmp_ge (pc := 9) (tgt := 93) k K.ad.length dc_M_next_9 (by omega) (by omega) rfl (fun hc => absurd hc (by omega)) (fun hc9 => ?_)
    refine g_aload_n (pc := 12) dc_M_next_12 rfl ?_
    refine g_iload_n (pc := 13) dc_M_next_13 rfl ?_
    refine g_iconst (pc := 14) (v := 1) dc_M_next_14 rfl ?_
    refine g_v2 (pc := 15) (M' := mt_M_of) dc_M_next_15 mo_M_of im_M_of se_M_of ln_M_415 (mp_o hA) rfl rfl (Nat.le_of_ble_eq_true rfl) (Nat.le_of_ble_eq_true rfl) (am_G.mono (c1_M_of (d := d) (i := k) hA hK (by omega) (by omega)) ?_)
    intro r h1 hq
    rw [hq.1, hq.2]
    clear hq h1 r
    refine ⟨am_nti _, ?_⟩
    refine g_iconst (pc := 18) (v := 1) dc_M_next_18 rfl ?_
    refine q_icmp_ne (pc := 19) (tgt := 87) (K.st k) 1 dc_M_next_19 (by omega) (by omega) rfl (fun hc19 => ?_) (fun hc19 => ?_)
    · refine g_iinc (pc := 87) (v := (nI (k + 1))) dc_M_next_87 rfl (nI_add k 1) (by decide) ?_
      show am_G X mt_M_next _ 90 [some (.ref 84), some (.int (er (nwf K k))), some (.int (nI (k + 1))), none] [] _ _
      refine g_goto (pc := 90) (tgt := 4) dc_M_next_90 rfl ?_
      have e9 : nwf K (k + 1) = nwf K k := es.trans (if_neg (fun h9 => hc19 h9.1))
      have h9 := l_M_next hA hK hw n (k + 1) (by omega)
      rw [e9] at h9
      exact h9
    · refine g_iload_n (pc := 22) dc_M_next_22 rfl ?_
      refine q_o_lt (pc := 23) (tgt := 71) dc_M_next_23 hnb rfl (fun hc23 => ?_) (fun k23 hc23 => ?_)
      · rw [hc23]
        refine g_iconst (pc := 71) (v := 1) dc_M_next_71 rfl ?_
        refine g_goto (pc := 72) (tgt := 76) dc_M_next_72 rfl ?_
        refine g_istore_n (pc := 76) dc_M_next_76 (by decide) ?_
        show am_G X mt_M_next _ 77 [some (.ref 84), some (.int (-1)), some (.int (nI k)), some (.int 1)] [] _ _
        refine g_iload_n (pc := 77) dc_M_next_77 rfl ?_
        refine g_if_eq (pc := 78) (tgt := 85) dc_M_next_78 rfl (fun hc => absurd hc (by decide)) (fun _ => ?_)
        refine g_iload_n (pc := 81) dc_M_next_81 rfl ?_
        refine g_goto (pc := 82) (tgt := 86) dc_M_next_82 rfl ?_
        refine g_istore_n (pc := 86) dc_M_next_86 (by decide) ?_
        show am_G X mt_M_next _ 87 [some (.ref 84), some (.int (nI k)), some (.int (nI k)), some (.int 1)] [] _ _
        refine g_iinc (pc := 87) (v := (nI (k + 1))) dc_M_next_87 rfl (nI_add k 1) (by decide) ?_
        show am_G X mt_M_next _ 90 [some (.ref 84), some (.int (nI k)), some (.int (nI (k + 1))), some (.int 1)] [] _ _
        refine g_goto (pc := 90) (tgt := 4) dc_M_next_90 rfl ?_
        refine am_wk (am_le_s (am_le_s (am_le_s (am_le_n am_le_0)))) ?_
        have e9 : nwf K (k + 1) = some k := es.trans (if_pos ⟨hc19, by rw [hc23]; rfl⟩)
        have h9 := l_M_next hA hK hw n (k + 1) (by omega)
        rw [e9] at h9
        exact h9
      · rw [hc23]
        rw [show er (some k23) = nI k23 from rfl]
        have hk23 := hnb k23 hc23
        have hk3 := nwf_b k k23 hc23
        have hwj := hw.2.2.2 k23 (by omega)
        refine g_aload_n (pc := 26) dc_M_next_26 rfl ?_
        refine g_iload_n (pc := 27) dc_M_next_27 rfl ?_
        refine g_iconst (pc := 28) (v := 2) dc_M_next_28 rfl ?_
        refine g_v2 (pc := 29) (M' := mt_M_of) dc_M_next_29 mo_M_of im_M_of se_M_of ln_M_415 (mp_o hA) rfl rfl (Nat.le_of_ble_eq_true rfl) (Nat.le_of_ble_eq_true rfl) (am_G.mono (c2_M_of (d := d) (i := k) hA hK (by omega) (by omega)) ?_)
        intro r h1 hq
        rw [hq.1, hq.2]
        clear hq h1 r
        refine ⟨am_nti _, ?_⟩
        refine g_aload_n (pc := 32) dc_M_next_32 rfl ?_
        refine g_iload_n (pc := 33) dc_M_next_33 rfl ?_
        refine g_iconst (pc := 34) (v := 2) dc_M_next_34 rfl ?_
        refine g_v2 (pc := 35) (M' := mt_M_of) dc_M_next_35 mo_M_of im_M_of se_M_of ln_M_415 (mp_o hA) rfl rfl (Nat.le_of_ble_eq_true rfl) (Nat.le_of_ble_eq_true rfl) (am_G.mono (c2_M_of (d := d) (i := k23) hA hK (by omega) (by omega)) ?_)
        intro r h1 hq
        rw [hq.1, hq.2]
        clear hq h1 r
        refine ⟨am_nti _, ?_⟩
        refine q_icmp_lt (pc := 38) (tgt := 71) (K.dp k) (K.dp k23) dc_M_next_38 (by omega) (by omega) rfl (fun hc38 => ?_) (fun hc38 => ?_)
        · refine g_iconst (pc := 71) (v := 1) dc_M_next_71 rfl ?_
          refine g_goto (pc := 72) (tgt := 76) dc_M_next_72 rfl ?_
          refine g_istore_n (pc := 76) dc_M_next_76 (by decide) ?_
          show am_G X mt_M_next _ 77 [some (.ref 84), some (.int (nI k23)), some (.int (nI k)), some (.int 1)] [] _ _
          refine g_iload_n (pc := 77) dc_M_next_77 rfl ?_
          refine g_if_eq (pc := 78) (tgt := 85) dc_M_next_78 rfl (fun hc => absurd hc (by decide)) (fun _ => ?_)
          refine g_iload_n (pc := 81) dc_M_next_81 rfl ?_
          refine g_goto (pc := 82) (tgt := 86) dc_M_next_82 rfl ?_
          refine g_istore_n (pc := 86) dc_M_next_86 (by decide) ?_
          show am_G X mt_M_next _ 87 [some (.ref 84), some (.int (nI k)), some (.int (nI k)), some (.int 1)] [] _ _
          refine g_iinc (pc := 87) (v := (nI (k + 1))) dc_M_next_87 rfl (nI_add k 1) (by decide) ?_
          show am_G X mt_M_next _ 90 [some (.ref 84), some (.int (nI k)), some (.int (nI (k + 1))), some (.int 1)] [] _ _
          refine g_goto (pc := 90) (tgt := 4) dc_M_next_90 rfl ?_
          refine am_wk (am_le_s (am_le_s (am_le_s (am_le_n am_le_0)))) ?_
          have e9 : nwf K (k + 1) = some k := es.trans (if_pos ⟨hc19, by rw [hc23]; exact decide_eq_true (by omega)⟩)
          have h9 := l_M_next hA hK hw n (k + 1) (by omega)
          rw [e9] at h9
          exact h9
        · refine g_aload_n (pc := 41) dc_M_next_41 rfl ?_
          refine g_iload_n (pc := 42) dc_M_next_42 rfl ?_
          refine g_iconst (pc := 43) (v := 2) dc_M_next_43 rfl ?_
          refine g_v2 (pc := 44) (M' := mt_M_of) dc_M_next_44 mo_M_of im_M_of se_M_of ln_M_415 (mp_o hA) rfl rfl (Nat.le_of_ble_eq_true rfl) (Nat.le_of_ble_eq_true rfl) (am_G.mono (c2_M_of (d := d) (i := k) hA hK (by omega) (by omega)) ?_)
          intro r h1 hq
          rw [hq.1, hq.2]
          clear hq h1 r
          refine ⟨am_nti _, ?_⟩
          refine g_aload_n (pc := 47) dc_M_next_47 rfl ?_
          refine g_iload_n (pc := 48) dc_M_next_48 rfl ?_
          refine g_iconst (pc := 49) (v := 2) dc_M_next_49 rfl ?_
          refine g_v2 (pc := 50) (M' := mt_M_of) dc_M_next_50 mo_M_of im_M_of se_M_of ln_M_415 (mp_o hA) rfl rfl (Nat.le_of_ble_eq_true rfl) (Nat.le_of_ble_eq_true rfl) (am_G.mono (c2_M_of (d := d) (i := k23) hA hK (by omega) (by omega)) ?_)
          intro r h1 hq
          rw [hq.1, hq.2]
          clear hq h1 r
          refine ⟨am_nti _, ?_⟩
          refine q_icmp_ne (pc := 53) (tgt := 75) (K.dp k) (K.dp k23) dc_M_next_53 (by omega) (by omega) rfl (fun hc53 => ?_) (fun hc53 => ?_)
          · refine g_iconst (pc := 75) (v := 0) dc_M_next_75 rfl ?_
            refine g_istore_n (pc := 76) dc_M_next_76 (by decide) ?_
            show am_G X mt_M_next _ 77 [some (.ref 84), some (.int (nI k23)), some (.int (nI k)), some (.int 0)] [] _ _
            refine g_iload_n (pc := 77) dc_M_next_77 rfl ?_
            refine g_if_eq (pc := 78) (tgt := 85) dc_M_next_78 rfl (fun _ => ?_) (fun hc => absurd hc (by decide))
            refine g_iload_n (pc := 85) dc_M_next_85 rfl ?_
            refine g_istore_n (pc := 86) dc_M_next_86 (by decide) ?_
            show am_G X mt_M_next _ 87 [some (.ref 84), some (.int (nI k23)), some (.int (nI k)), some (.int 0)] [] _ _
            refine g_iinc (pc := 87) (v := (nI (k + 1))) dc_M_next_87 rfl (nI_add k 1) (by decide) ?_
            show am_G X mt_M_next _ 90 [some (.ref 84), some (.int (nI k23)), some (.int (nI (k + 1))), some (.int 0)] [] _ _
            refine g_goto (pc := 90) (tgt := 4) dc_M_next_90 rfl ?_
            refine am_wk (am_le_s (am_le_s (am_le_s (am_le_n am_le_0)))) ?_
            have e9 : nwf K (k + 1) = some k23 := es.trans ((if_neg (fun h9 => by have h8 := h9.2; rw [hc23] at h8; have h7 := of_decide_eq_true h8; omega)).trans hc23)
            have h9 := l_M_next hA hK hw n (k + 1) (by omega)
            rw [e9] at h9
            exact h9
          · refine g_aload_n (pc := 56) dc_M_next_56 rfl ?_
            refine g_iload_n (pc := 57) dc_M_next_57 rfl ?_
            refine g_iconst (pc := 58) (v := 3) dc_M_next_58 rfl ?_
            refine g_v2 (pc := 59) (M' := mt_M_of) dc_M_next_59 mo_M_of im_M_of se_M_of ln_M_415 (mp_o hA) rfl rfl (Nat.le_of_ble_eq_true rfl) (Nat.le_of_ble_eq_true rfl) (am_G.mono (c3_M_of (d := d) (i := k) hA hK (by omega) (by omega)) ?_)
            intro r h1 hq
            rw [hq.1, hq.2]
            clear hq h1 r
            refine ⟨am_nti _, ?_⟩
            refine g_aload_n (pc := 62) dc_M_next_62 rfl ?_
            refine g_iload_n (pc := 63) dc_M_next_63 rfl ?_
            refine g_iconst (pc := 64) (v := 3) dc_M_next_64 rfl ?_
            refine g_v2 (pc := 65) (M' := mt_M_of) dc_M_next_65 mo_M_of im_M_of se_M_of ln_M_415 (mp_o hA) rfl rfl (Nat.le_of_ble_eq_true rfl) (Nat.le_of_ble_eq_true rfl) (am_G.mono (c3_M_of (d := d) (i := k23) hA hK (by omega) (by omega)) ?_)
            intro r h1 hq
            rw [hq.1, hq.2]
            clear hq h1 r
            refine ⟨am_nti _, ?_⟩
            refine q_icmp_ge (pc := 68) (tgt := 75) (K.ch k) (K.ch k23) dc_M_next_68 (by omega) (by omega) rfl (fun hc68 => ?_) (fun hc68 => ?_)
            · refine g_iconst (pc := 75) (v := 0) dc_M_next_75 rfl ?_
              refine g_istore_n (pc := 76) dc_M_next_76 (by decide) ?_
              show am_G X mt_M_next _ 77 [some (.ref 84), some (.int (nI k23)), some (.int (nI k)), some (.int 0)] [] _ _
              refine g_iload_n (pc := 77) dc_M_next_77 rfl ?_
              refine g_if_eq (pc := 78) (tgt := 85) dc_M_next_78 rfl (fun _ => ?_) (fun hc => absurd hc (by decide))
              refine g_iload_n (pc := 85) dc_M_next_85 rfl ?_
              refine g_istore_n (pc := 86) dc_M_next_86 (by decide) ?_
              show am_G X mt_M_next _ 87 [some (.ref 84), some (.int (nI k23)), some (.int (nI k)), some (.int 0)] [] _ _
              refine g_iinc (pc := 87) (v := (nI (k + 1))) dc_M_next_87 rfl (nI_add k 1) (by decide) ?_
              show am_G X mt_M_next _ 90 [some (.ref 84), some (.int (nI k23)), some (.int (nI (k + 1))), some (.int 0)] [] _ _
              refine g_goto (pc := 90) (tgt := 4) dc_M_next_90 rfl ?_
              refine am_wk (am_le_s (am_le_s (am_le_s (am_le_n am_le_0)))) ?_
              have e9 : nwf K (k + 1) = some k23 := es.trans ((if_neg (fun h9 => by have h8 := h9.2; rw [hc23] at h8; have h7 := of_decide_eq_true h8; omega)).trans hc23)
              have h9 := l_M_next hA hK hw n (k + 1) (by omega)
              rw [e9] at h9
              exact h9
            · refine g_iconst (pc := 71) (v := 1) dc_M_next_71 rfl ?_
              refine g_goto (pc := 72) (tgt := 76) dc_M_next_72 rfl ?_
              refine g_istore_n (pc := 76) dc_M_next_76 (by decide) ?_
              show am_G X mt_M_next _ 77 [some (.ref 84), some (.int (nI k23)), some (.int (nI k)), some (.int 1)] [] _ _
              refine g_iload_n (pc := 77) dc_M_next_77 rfl ?_
              refine g_if_eq (pc := 78) (tgt := 85) dc_M_next_78 rfl (fun hc => absurd hc (by decide)) (fun _ => ?_)
              refine g_iload_n (pc := 81) dc_M_next_81 rfl ?_
              refine g_goto (pc := 82) (tgt := 86) dc_M_next_82 rfl ?_
              refine g_istore_n (pc := 86) dc_M_next_86 (by decide) ?_
              show am_G X mt_M_next _ 87 [some (.ref 84), some (.int (nI k)), some (.int (nI k)), some (.int 1)] [] _ _
              refine g_iinc (pc := 87) (v := (nI (k + 1))) dc_M_next_87 rfl (nI_add k 1) (by decide) ?_
              show am_G X mt_M_next _ 90 [some (.ref 84), some (.int (nI k)), some (.int (nI (k + 1))), some (.int 1)] [] _ _
              refine g_goto (pc := 90) (tgt := 4) dc_M_next_90 rfl ?_
              refine am_wk (am_le_s (am_le_s (am_le_s (am_le_n am_le_0)))) ?_
              have e9 : nwf K (k + 1) = some k := es.trans (if_pos ⟨hc19, by rw [hc23]; exact decide_eq_true (by omega)⟩)
              have h9 := l_M_next hA hK hw n (k + 1) (by omega)
              rw [e9] at h9
              exact h9
theorem c_M_next (hA : A.length = 84) (hK : knM S T Y K) (hw : wfK K) : am_C X mt_M_next (d + 1) [.ref 84] (mput A S B) (fun r h1 => r = some (.int (er (nxw K))) ∧ h1 = mput A S B) := by
  show am_G X mt_M_next (d + 1) 0 [some (.ref 84), none, none, none] [] (mput A S B) _
  refine g_iconst (pc := 0) (v := (-1)) dc_M_next_0 rfl ?_
  refine g_istore_n (pc := 1) dc_M_next_1 (by decide) ?_
  show am_G X mt_M_next _ 2 [some (.ref 84), some (.int (-1)), none, none] [] _ _
  refine g_iconst (pc := 2) (v := 0) dc_M_next_2 rfl ?_
  refine g_istore_n (pc := 3) dc_M_next_3 (by decide) ?_
  show am_G X mt_M_next _ 4 [some (.ref 84), some (.int (-1)), some (.int 0), none] [] _ _
  exact l_M_next hA hK hw K.ad.length 0 (by omega)
end KNM
