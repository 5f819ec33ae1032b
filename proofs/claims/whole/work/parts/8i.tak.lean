/-! ===== one step of the crawl: the model ===== -/
abbrev XT : List Nat := [5, 6, 7, 8, 9, 10, 11, 12, 13, 14, 15, 16, 17, 18, 27, 28, 29, 30, 31, 32, 33, 34, 35, 36, 37, 38, 39, 40, 41, 42, 43, 44, 45, 46, 47, 48, 49, 50, 55, 56, 62, 63, 64, 67, 68, 69, 70, 71, 72, 73]
def txK (K : Kn) (k : Nat) (L : List Int32) : Kn := (K.ad, upf K.st k 2, K.dp, K.ch, K.ld, upf K.tx k L, K.at)
def ldK (K : Kn) (k : Nat) (E : List Int32) : Kn := (K.ad, upf K.st k 3, K.dp, K.ch, upf K.ld k (some E), K.tx, K.at)
/-- links are met one after the other -/
def lkf (lim : Nat → Nat) (dp : Nat) (Ls : List (List Int32)) (K : Kn) : Kn := Ls.foldl (fun K E => mee lim E dp 0 K) K
/-- the line that leads on -/
def ldl (L D : List Int32) : Option (List Int32) := mrr L 0 (fw (nev 10) L 0 L.length) (some D)
/-- what one step makes of address k: its state, the known, the crawl -/
def tak (lim : Nat → Nat) (P : List Pg) (Rs Rt : List (List Int32)) (K : Kn) (c : Cw) (k : Nat) : Nat × Kn × Cw :=
  if jgL (gT K.ad k) Rs Rt = true then
    match nbr (pad P) (gT K.ad k) with
    | none => (5, stK (asK lim K c k) k 5, asC lim K c (gT K.ad k))
    | some j =>
      if (gP P j).2.1 = 200 then (2, lkf lim (K.dp k + 1) (pgL (gP P j).2.2 (gT K.ad k)) (txK (asK lim K c k) k (gP P j).2.2), asC lim K c (gT K.ad k))
      else if 300 ≤ (gP P j).2.1 ∧ (gP P j).2.1 < 400 ∧ K.ch k < lim 1 then
        match ldl (gP P j).2.2 (gT K.ad k) with
        | some E => (3, mee lim E (K.dp k) (K.ch k + 1) (ldK (asK lim K c k) k E), asC lim K c (gT K.ad k))
        | none => (5, stK (asK lim K c k) k 5, asC lim K c (gT K.ad k))
      else (5, stK (asK lim K c k) k 5, asC lim K c (gT K.ad k))
  else (4, stK K k 4, c)
theorem upf_id {α : Type} {f : Nat → α} {i : Nat} {v : α} (h : f i = v) : upf f i v = f := by
  funext j
  by_cases e : j = i
  · rw [e, upf_s, h]
  · rw [upf_n e]
theorem stK_id {K : Kn} {k v : Nat} (h : K.st k = v) : stK K k v = K := by
  unfold stK
  rw [upf_id h]
  rfl
/-- who doesn't wait stays as it is when others are met -/
theorem mee_k {lim : Nat → Nat} {D : List Int32} {dp ch k : Nat} {K : Kn} (hk : k < K.ad.length) (hs : ¬ K.st k = 1) : k < (mee lim D dp ch K).ad.length ∧ (mee lim D dp ch K).st k = K.st k ∧ (mee lim D dp ch K).dp k = K.dp k ∧ (mee lim D dp ch K).ch k = K.ch k ∧ gT (mee lim D dp ch K).ad k = gT K.ad k := by
  unfold mee
  cases e : nbr K.ad D with
  | none =>
    dsimp only
    split
    · have hn : ¬ k = K.ad.length := by omega
      refine ⟨?_, upf_n hn, upf_n hn, upf_n hn, gT_app hk⟩
      show k < (K.ad ++ [D]).length
      rw [List.length_append]; omega
    · exact ⟨hk, rfl, rfl, rfl, rfl⟩
  | some j =>
    dsimp only
    split
    · rename_i h9
      have hn : ¬ k = j := fun e => hs (by rw [e]; exact h9.1)
      exact ⟨hk, rfl, upf_n hn, upf_n hn, rfl⟩
    · exact ⟨hk, rfl, rfl, rfl, rfl⟩
theorem siM.m {S S1 : MS} {T : List (List Int32)} {K : Kn} {cr : Option Nat} {Z : List Nat} (h : siM S T K cr) (e : mA Z S S1) (h1 : ¬ 71 ∈ Z) (h2 : ¬ 72 ∈ Z) (h3 : ¬ 73 ∈ Z) : siM S1 T K cr := by
  unfold siM at h ⊢
  rw [e.siteOf h1, e.siteTime h2, e.siteCount h3]
  exact h
theorem siM.pre {S : MS} {T T1 : List (List Int32)} {K : Kn} {cr : Option Nat} (h : siM S T K cr) (hT : T <+: T1) : siM S T1 K cr := by
  obtain ⟨Q, tm, J, h1, h2, h3, h4, h5⟩ := h
  refine ⟨Q, tm, J, h1, h2, h3, fun s hs => ?_, h5⟩
  obtain ⟨⟨kb, a1, a2, a3⟩, r⟩ := h4 s hs
  exact ⟨⟨kb, (gT_pre2 hT a1).1, a2, by rw [(gT_pre2 hT a1).2]; exact a3⟩, r⟩
theorem siM.cg {S : MS} {T : List (List Int32)} {K K1 : Kn} {cr : Option Nat} (h : siM S T K cr) (e1 : K1.ad = K.ad) (e2 : K1.at = K.at) (e3 : ∀ i, ¬ K.st i = 1 → ¬ K1.st i = 1) : siM S T K1 cr := by
  obtain ⟨Q, tm, J, h1, h2, h3, h4, h5⟩ := h
  refine ⟨Q, tm, J, h1, h2, ⟨h3.1, h3.2.1, fun x hx => ?_⟩, ?_, ?_⟩
  · obtain ⟨i, a, b, c⟩ := h3.2.2 x hx
    exact ⟨i, by rw [e1]; exact a, by rw [e1]; exact b, e3 i c⟩
  · rw [e1, e2]; exact h4
  · rw [e1, e2]; exact h5
theorem siM.met {S : MS} {T : List (List Int32)} {K : Kn} {cr : Option Nat} {lim : Nat → Nat} {D : List Int32} {dp ch : Nat} (h : siM S T K cr) : siM S T (mee lim D dp ch K) cr := by
  unfold mee
  cases e : nbr K.ad D with
  | none =>
    dsimp only
    split
    · obtain ⟨Q, tm, J, h1, h2, h3, h4, h5⟩ := h
      have hl : (K.ad ++ [D]).length = K.ad.length + 1 := by rw [List.length_append]; rfl
      refine ⟨Q, tm, J, h1, h2, ⟨h3.1, h3.2.1, fun x hx => ?_⟩, fun s hs => ?_, fun i hi hlt => ?_⟩
      · obtain ⟨i, a, b, c⟩ := h3.2.2 x hx
        refine ⟨i, ?_, ?_, ?_⟩
        · show i < (K.ad ++ [D]).length
          omega
        · show gT (K.ad ++ [D]) i = x
          rw [gT_app a]; exact b
        · show ¬ upf K.st K.ad.length 1 i = 1
          rw [upf_n (by omega)]; exact c
      · obtain ⟨x1, x2, ⟨i, a, b, c⟩, x4, x5⟩ := h4 s hs
        refine ⟨x1, x2, ⟨i, ?_, ?_, ?_⟩, fun i hi hq => ?_, x5⟩
        · show i < (K.ad ++ [D]).length
          omega
        · show sit (gT (K.ad ++ [D]) i) = _
          rw [gT_app a]; exact b
        · show upf K.at K.ad.length none i = _
          rw [upf_n (by omega)]; exact c
        · show lgv (upf K.at K.ad.length none i) ≤ _
          have hi2 : i < (K.ad ++ [D]).length := hi
          by_cases q : i = K.ad.length
          · rw [q, upf_s]; exact Nat.zero_le _
          · rw [upf_n q]
            have hq2 : sit (gT (K.ad ++ [D]) i) = gT Q s := hq
            rw [gT_app (by omega)] at hq2
            exact x4 i (by omega) hq2
      · have hi2 : i < (K.ad ++ [D]).length := hi
        have hlt2 : lgv cr < lgv (upf K.at K.ad.length none i) := hlt
        show sit (gT (K.ad ++ [D]) i) ∈ Q
        by_cases q : i = K.ad.length
        · rw [q, upf_s] at hlt2; exact absurd hlt2 (Nat.not_lt_zero _)
        · rw [upf_n q] at hlt2
          rw [gT_app (by omega)]
          exact h5 i (by omega) hlt2
    · exact h
  | some k =>
    dsimp only
    split
    · exact h.cg rfl rfl (fun _ h9 => h9)
    · exact h
theorem siM.lkm {S : MS} {T : List (List Int32)} {cr : Option Nat} {lim : Nat → Nat} {dp : Nat} : ∀ (Ls : List (List Int32)) (K : Kn), siM S T K cr → siM S T (lkf lim dp Ls K) cr
  | [], K, h => h
  | E :: Ls, K, h => siM.lkm Ls _ h.met
theorem cwM.m {S S1 : MS} {T : List (List Int32)} {c : Cw} {Z : List Nat} (h : cwM S T c) (e : mA Z S S1) (h1 : ¬ 62 ∈ Z) (h2 : ¬ 67 ∈ Z) (h3 : ¬ 68 ∈ Z) (h4 : ¬ 69 ∈ Z) (h5 : ¬ 70 ∈ Z) (h6 : ¬ 74 ∈ Z) : cwM S1 T c := by
  unfold cwM at h ⊢
  rw [e.clock h1, e.askedSince h2, e.asked h3, e.askedClock h4, e.askedAddress h5, e.otherTime h6]
  exact h
theorem cwM.pre {S : MS} {T T1 : List (List Int32)} {c : Cw} (h : cwM S T c) (hT : T <+: T1) : cwM S T1 c := ⟨h.1, h.2.1, h.2.2.1, h.2.2.2.1, fun i hi => by
  obtain ⟨a, kb, b1, b2, b3⟩ := h.2.2.2.2 i hi
  exact ⟨a, kb, (gT_pre2 hT b1).1, b2, (gT_pre2 hT b1).2.trans b3⟩⟩
theorem knG.stk {g : Nat → Int32} {T Y : List (List Int32)} {K : Kn} {k v : Nat} (h : knG g T Y K) (hv : v = 2 → K.st k = 2) : knG (upd g (6 * k + 1) (nI v)) T Y (stK K k v) := by
  intro i hi
  have h9 := h i hi
  have e : ∀ j, ¬ j = 6 * k + 1 → upd g (6 * k + 1) (nI v) j = g j := fun j a => by rw [upd_n a]
  show (∃ ka, ka < T.length ∧ upd g (6 * k + 1) (nI v) (6 * i) = nI ka ∧ gT T ka = gT K.ad i) ∧ upd g (6 * k + 1) (nI v) (6 * i + 1) = nI (upf K.st k v i) ∧ upd g (6 * k + 1) (nI v) (6 * i + 2) = nI (K.dp i) ∧ upd g (6 * k + 1) (nI v) (6 * i + 3) = nI (K.ch i) ∧ (match K.ld i with | none => upd g (6 * k + 1) (nI v) (6 * i + 4) = -1 | some D => ∃ ka, ka < T.length ∧ upd g (6 * k + 1) (nI v) (6 * i + 4) = nI ka ∧ gT T ka = D) ∧ (upf K.st k v i = 2 → ∃ j, j < Y.length ∧ upd g (6 * k + 1) (nI v) (6 * i + 5) = nI j ∧ gT Y j = K.tx i)
  rw [e (6 * i) (by omega), e (6 * i + 2) (by omega), e (6 * i + 3) (by omega), e (6 * i + 4) (by omega), e (6 * i + 5) (by omega)]
  refine ⟨h9.1, ?_, h9.2.2.1, h9.2.2.2.1, h9.2.2.2.2.1, fun h8 => ?_⟩
  · by_cases q : i = k
    · rw [q, upf_s, upd_s]
    · rw [upf_n q, e _ (by omega)]; exact h9.2.1
  · by_cases q : i = k
    · rw [q, upf_s] at h8
      rw [q] at h9 ⊢
      exact h9.2.2.2.2.2 (hv h8)
    · rw [upf_n q] at h8
      exact h9.2.2.2.2.2 h8
theorem knG.txk {g : Nat → Int32} {T Y : List (List Int32)} {K : Kn} {k y : Nat} {L : List Int32} (h : knG g T Y K) (hy : y < Y.length) (hL : gT Y y = L) : knG (upd (upd g (6 * k + 1) 2) (6 * k + 5) (nI y)) T Y (txK K k L) := by
  intro i hi
  have h9 := h i hi
  have e : ∀ j, ¬ j = 6 * k + 1 → ¬ j = 6 * k + 5 → upd (upd g (6 * k + 1) 2) (6 * k + 5) (nI y) j = g j := fun j a b => by rw [upd_n b, upd_n a]
  show (∃ ka, ka < T.length ∧ upd (upd g (6 * k + 1) 2) (6 * k + 5) (nI y) (6 * i) = nI ka ∧ gT T ka = gT K.ad i) ∧ upd (upd g (6 * k + 1) 2) (6 * k + 5) (nI y) (6 * i + 1) = nI (upf K.st k 2 i) ∧ upd (upd g (6 * k + 1) 2) (6 * k + 5) (nI y) (6 * i + 2) = nI (K.dp i) ∧ upd (upd g (6 * k + 1) 2) (6 * k + 5) (nI y) (6 * i + 3) = nI (K.ch i) ∧ (match K.ld i with | none => upd (upd g (6 * k + 1) 2) (6 * k + 5) (nI y) (6 * i + 4) = -1 | some D => ∃ ka, ka < T.length ∧ upd (upd g (6 * k + 1) 2) (6 * k + 5) (nI y) (6 * i + 4) = nI ka ∧ gT T ka = D) ∧ (upf K.st k 2 i = 2 → ∃ j, j < Y.length ∧ upd (upd g (6 * k + 1) 2) (6 * k + 5) (nI y) (6 * i + 5) = nI j ∧ gT Y j = upf K.tx k L i)
  rw [e (6 * i) (by omega) (by omega), e (6 * i + 2) (by omega) (by omega), e (6 * i + 3) (by omega) (by omega), e (6 * i + 4) (by omega) (by omega)]
  refine ⟨h9.1, ?_, h9.2.2.1, h9.2.2.2.1, h9.2.2.2.2.1, fun h8 => ?_⟩
  · by_cases q : i = k
    · rw [q, upf_s, upd_n (by omega), upd_s]; rfl
    · rw [upf_n q, e _ (by omega) (by omega)]; exact h9.2.1
  · by_cases q : i = k
    · rw [q, upd_s, upf_s]
      exact ⟨y, hy, rfl, hL⟩
    · rw [upf_n q] at h8 ⊢
      rw [e _ (by omega) (by omega)]
      exact h9.2.2.2.2.2 h8
theorem knG.ldk {g : Nat → Int32} {T Y : List (List Int32)} {K : Kn} {k kb : Nat} {E : List Int32} (h : knG g T Y K) (hy : kb < T.length) (hL : gT T kb = E) : knG (upd (upd g (6 * k + 1) 3) (6 * k + 4) (nI kb)) T Y (ldK K k E) := by
  intro i hi
  have h9 := h i hi
  have e : ∀ j, ¬ j = 6 * k + 1 → ¬ j = 6 * k + 4 → upd (upd g (6 * k + 1) 3) (6 * k + 4) (nI kb) j = g j := fun j a b => by rw [upd_n b, upd_n a]
  show (∃ ka, ka < T.length ∧ upd (upd g (6 * k + 1) 3) (6 * k + 4) (nI kb) (6 * i) = nI ka ∧ gT T ka = gT K.ad i) ∧ upd (upd g (6 * k + 1) 3) (6 * k + 4) (nI kb) (6 * i + 1) = nI (upf K.st k 3 i) ∧ upd (upd g (6 * k + 1) 3) (6 * k + 4) (nI kb) (6 * i + 2) = nI (K.dp i) ∧ upd (upd g (6 * k + 1) 3) (6 * k + 4) (nI kb) (6 * i + 3) = nI (K.ch i) ∧ (match upf K.ld k (some E) i with | none => upd (upd g (6 * k + 1) 3) (6 * k + 4) (nI kb) (6 * i + 4) = -1 | some D => ∃ ka, ka < T.length ∧ upd (upd g (6 * k + 1) 3) (6 * k + 4) (nI kb) (6 * i + 4) = nI ka ∧ gT T ka = D) ∧ (upf K.st k 3 i = 2 → ∃ j, j < Y.length ∧ upd (upd g (6 * k + 1) 3) (6 * k + 4) (nI kb) (6 * i + 5) = nI j ∧ gT Y j = K.tx i)
  rw [e (6 * i) (by omega) (by omega), e (6 * i + 2) (by omega) (by omega), e (6 * i + 3) (by omega) (by omega), e (6 * i + 5) (by omega) (by omega)]
  refine ⟨h9.1, ?_, h9.2.2.1, h9.2.2.2.1, ?_, fun h8 => ?_⟩
  · by_cases q : i = k
    · rw [q, upf_s, upd_n (by omega), upd_s]; rfl
    · rw [upf_n q, e _ (by omega) (by omega)]; exact h9.2.1
  · by_cases q : i = k
    · rw [q, upd_s, upf_s]
      exact ⟨kb, hy, rfl, hL⟩
    · rw [upf_n q, e _ (by omega) (by omega)]; exact h9.2.2.2.2.1
  · by_cases q : i = k
    · rw [q, upf_s] at h8; cases h8
    · rw [upf_n q] at h8
      exact h9.2.2.2.2.2 h8
def yOK (Y : List (List Int32)) : Prop := Y.length ≤ 1100 ∧ ∀ j, j < Y.length → ofs Y (j + 1) ≤ 24000 ∧ (gT Y j).length ≤ 7999
/-- all that pages may lead to lies in U -/
def pgU (U : List (List Int32)) (D L : List Int32) : Prop := (∀ x, pgB L D = some x → x ∈ U) ∧ (∀ x, x ∈ pgL L D → x ∈ U) ∧ ∀ x, ldl L D = some x → x ∈ U
/-- the model's tables -/
def tbM (S : MS) (T Y U : List (List Int32)) : Prop := adT S T ∧ (∀ x, x ∈ T → okD x) ∧ (∀ x, x ∈ T → x ∈ U) ∧ txT S Y
section TAK
variable {X : am_X} {d k ka j i y dp0 : Nat} {A B h : List va_E} {S : MS} {T Y U Ls Rs Rt : List (List Int32)} {K : Kn} {lim : Nat → Nat} {c : Cw} {P : List Pg} {D L : List Int32}
theorem lkf_len : (pgL L D).length ≤ 60 := by
  unfold pgL
  have : ∀ (V Ls : List (List Int32)), Ls.length ≤ 60 → (V.foldl (lnk ((pgB L D).getD D)) Ls).length ≤ 60 := fun V => by
    induction V with
    | nil => exact fun Ls h => h
    | cons v V ih => exact fun Ls h => ih _ (lnk_60 h)
  exact this _ [] (Nat.zero_le _)
theorem lkI_m {S1 : MS} (h : lkI S T Ls) (e : mA [63, 64] S S1) : lkI S1 T Ls := by
  unfold lkI at h ⊢
  rw [e.linkCount (by decide), e.links (by decide)]
  exact h
theorem l99_M_take (hA : A.length = 84) (hL60 : Ls.length ≤ 60) (hdp : dp0 ≤ 20) (hok : ∀ x, x ∈ T → okD x) : ∀ (n i : Nat) (S : MS) (K : Kn), i + n = Ls.length → adT S T → knM S T Y K → wfK K → hdM S lim → lkI S T Ls → k < K.ad.length → ¬ K.st k = 1 → K.dp k = dp0 → am_G X mt_M_take (d + 3) 99 [some (.ref 84), some (.int (nI k)), none, none, none, some (.int (nI i)), none] [] (mput A S B) (fun r h1 => r = some (.int 2) ∧ ∃ S1, h1 = mput A S1 B ∧ mA [63, 64] S S1 ∧ knM S1 T Y (lkf lim (dp0 + 1) (Ls.drop i) K))
  | 0, i, S, K, e, hT, hK, hw, hl, hk, h1, h2, h3 => by
    refine g_iload (pc := 99) dc_M_take_99 rfl ?_
    refine g_aload_n (pc := 101) dc_M_take_101 rfl ?_
    refine g_getfield (pc := 102) (v := .int (nI Ls.length)) dc_M_take_102 fl_M_322 (mp_o hA) (congrArg (fun z => some (Value.int (nI z))) hk.1) ?_
    refine q_icmp_ge (pc := 105) (tgt := 134) i Ls.length dc_M_take_105 (by omega) (by omega) rfl (fun hc105 => ?_) (fun hc => absurd hc (by omega))
    refine g_iconst (pc := 134) (v := 2) dc_M_take_134 rfl ?_
    exact g_ireturn dc_M_take_135 rfl ⟨rfl, S, rfl, mA.rf S, by rw [List.drop_eq_nil_of_le (by omega)]; exact hK⟩
  | n + 1, i, S, K, e, hT, hK, hw, hl, hk, h1, h2, h3 => by
    obtain ⟨kb, hb1, hb2, hb3⟩ := hk.2 i (by omega)
    have h250 := hw.1
    rw [drop_s (show i < Ls.length by omega)]
    refine g_iload (pc := 99) dc_M_take_99 rfl ?_
    refine g_aload_n (pc := 101) dc_M_take_101 rfl ?_
    refine g_getfield (pc := 102) (v := .int (nI Ls.length)) dc_M_take_102 fl_M_322 (mp_o hA) (congrArg (fun z => some (Value.int (nI z))) hk.1) ?_
    refine q_icmp_ge (pc := 105) (tgt := 134) i Ls.length dc_M_take_105 (by omega) (by omega) rfl (fun hc => absurd hc (by omega)) (fun hc105 => ?_)
    refine g_aload_n (pc := 108) dc_M_take_108 rfl ?_
    refine g_aload_n (pc := 109) dc_M_take_109 rfl ?_
    refine g_getfield (pc := 110) dc_M_take_110 fl_M_328 (mp_o hA) rfl ?_
    refine g_iload (pc := 113) dc_M_take_113 rfl ?_
    refine q_ialoadV (pc := 115) i dc_M_take_115 (mp_a hA 29 rfl) (by omega) (by omega) (v := (nI kb)) hb2 ?_
    refine g_aload_n (pc := 116) dc_M_take_116 rfl ?_
    refine g_iload_n (pc := 117) dc_M_take_117 rfl ?_
    refine g_iconst (pc := 118) (v := 2) dc_M_take_118 rfl ?_
    refine g_v2 (pc := 119) (M' := mt_M_of) dc_M_take_119 mo_M_of im_M_of se_M_of ln_M_415 (mp_o hA) rfl rfl (Nat.le_of_ble_eq_true rfl) (Nat.le_of_ble_eq_true rfl) (am_G.mono (c2_M_of (d := d + 2) (i := k) hA hK (by omega) h1) ?_)
    intro r h9 hq
    rw [hq.1, hq.2, h3]
    clear hq h9 r
    refine ⟨am_nti _, ?_⟩
    refine g_iconst (pc := 122) (v := 1) dc_M_take_122 rfl ?_
    refine g_iadd (pc := 123) (v := (nI (dp0 + 1))) dc_M_take_123 (nI_add dp0 1) ?_
    refine g_iconst (pc := 124) (v := 0) dc_M_take_124 rfl ?_
    refine g_v3 (pc := 125) (M' := mt_M_meet) dc_M_take_125 mo_M_meet im_M_meet se_M_meet ln_M_452 (mp_o hA) rfl rfl (Nat.le_of_ble_eq_true rfl) (Nat.le_of_ble_eq_true rfl) (am_G.mono (c_M_meet (d := d) (dp := dp0 + 1) (ch := 0) hA hT hb1 hK hw hl (by omega) (by omega)) ?_)
    intro r h9 hz
    obtain ⟨hz1, S2, hz2, hz3, hz4⟩ := hz
    rw [hz1, hz2]
    clear hz1 hz2 h9 r
    rw [hb3] at hz4
    refine ⟨am_nt0, ?_⟩
    refine g_iinc (pc := 128) (v := (nI (i + 1))) dc_M_take_128 rfl (nI_add i 1) (by decide) ?_
    show am_G X mt_M_take _ 131 [some (.ref 84), some (.int (nI k)), none, none, none, some (.int (nI (i + 1))), none] [] _ _
    refine g_goto (pc := 131) (tgt := 99) dc_M_take_131 rfl ?_
    have hm9 := mee_k (lim := lim) (D := gT Ls i) (dp := dp0 + 1) (ch := 0) h1 h2
    refine am_G.mono (l99_M_take hA hL60 hdp hok n (i + 1) S2 _ (by omega) (hT.m hz3 (by decide) (by decide) (by decide) (by decide)) hz4 (mee_wf hl.2.1 hl.2.2.1 (hok _ (by rw [← hb3]; exact gT_mem hb1)) (by omega) (by omega) hw) (hl.m hz3 (by decide)) (lkI_m hk hz3) hm9.1 (by rw [hm9.2.1]; exact h2) (hm9.2.2.1.trans h3)) (fun r h9 hz => ?_)
    obtain ⟨y1, S1, y2, y3, y4⟩ := hz
    exact ⟨y1, S1, y2, hz3.tr y3, y4⟩
abbrev XL : List Nat := [5, 6, 7, 8, 9, 10, 11, 12, 13, 14, 15, 16, 17, 18, 35, 36, 37, 38, 39, 40, 41, 42, 43, 44, 45, 46, 47, 48, 49, 50, 55, 56, 63, 64]
theorem w56_M_take (hA : A.length = 84) (hUl : U.length < 3500) (hY : yOK Y) (hM : tbM S T Y U) (hka : ka < T.length) (hD : gT T ka = gT K.ad k) (hK : knM S T Y K) (hw : wfK K) (hl : hdM S lim) (hk : k < K.ad.length) (hp : pagM S T Y P) (hj : j < P.length) (hpU : pgU U (gT K.ad k) (gP P j).2.2) : am_G X mt_M_take (d + 10) 56 [some (.ref 84), some (.int (nI k)), some (.int (nI ka)), some (.int (nI j)), none, none, none] [] (mput A S B) (fun r h1 => r = some (.int 2) ∧ ∃ S1 T1, h1 = mput A S1 B ∧ mA XL S S1 ∧ tbM S1 T1 Y U ∧ T <+: T1 ∧ knM S1 T1 Y (lkf lim (K.dp k + 1) (pgL (gP P j).2.2 (gT K.ad k)) (txK K k (gP P j).2.2))) := by
  obtain ⟨y, hy1, hy2, hy3⟩ := (hp.2.2.2 j hj).2.2
  obtain ⟨hT, hok, hU, hX⟩ := hM
  have h250 := hw.1
  have hp6 := hp.2.1
  have hyy := hY.2 y hy1
  have hw9 := hw.2.2.2 k hk
  refine g_aload_n (pc := 56) dc_M_take_56 rfl ?_
  refine g_getfield (pc := 57) dc_M_take_57 fl_M_356 (mp_o hA) rfl ?_
  refine g_bipush (pc := 60) (v := 6) dc_M_take_60 rfl ?_
  refine g_iload_n (pc := 62) dc_M_take_62 rfl ?_
  refine g_imul (pc := 63) (v := (nI (6 * k))) dc_M_take_63 (pk_mul 6 k) ?_
  refine g_iconst (pc := 64) (v := 1) dc_M_take_64 rfl ?_
  refine g_iadd (pc := 65) (v := (nI (6 * k + 1))) dc_M_take_65 (nI_add (6 * k) 1) ?_
  refine g_iconst (pc := 66) (v := 2) dc_M_take_66 rfl ?_
  refine as_known (pc := 67) (6 * k + 1) hA dc_M_take_67 (by omega) ?_
  refine g_aload_n (pc := 68) dc_M_take_68 rfl ?_
  refine g_getfield (pc := 69) dc_M_take_69 fl_M_356 (mp_o hA) rfl ?_
  refine g_bipush (pc := 72) (v := 6) dc_M_take_72 rfl ?_
  refine g_iload_n (pc := 74) dc_M_take_74 rfl ?_
  refine g_imul (pc := 75) (v := (nI (6 * k))) dc_M_take_75 (pk_mul 6 k) ?_
  refine g_iconst (pc := 76) (v := 5) dc_M_take_76 rfl ?_
  refine g_iadd (pc := 77) (v := (nI (6 * k + 5))) dc_M_take_77 (nI_add (6 * k) 5) ?_
  refine g_aload_n (pc := 78) dc_M_take_78 rfl ?_
  refine g_getfield (pc := 79) dc_M_take_79 fl_M_344 (mp_o hA) rfl ?_
  refine g_iload_n (pc := 82) dc_M_take_82 rfl ?_
  refine q_ialoadV (pc := 83) j dc_M_take_83 (mp_a hA 28 rfl) (by omega) (by omega) (v := (nI y)) hy2 ?_
  refine asE_known (pc := 84) (6 * k + 5) (g := upd (upd S.known (6 * k + 1) 2) (6 * k + 5) (nI y)) hA dc_M_take_84 (by omega) (rfl) ?_
  rw [MS.ss_known]
  refine g_aload_n (pc := 85) dc_M_take_85 rfl ?_
  refine g_aload_n (pc := 86) dc_M_take_86 rfl ?_
  refine g_getfield (pc := 87) dc_M_take_87 fl_M_344 (mp_o hA) rfl ?_
  refine g_iload_n (pc := 90) dc_M_take_90 rfl ?_
  refine q_ialoadV (pc := 91) j dc_M_take_91 (mp_a hA 28 rfl) (by omega) (by omega) (v := (nI y)) hy2 ?_
  refine g_iload_n (pc := 92) dc_M_take_92 rfl ?_
  have hm2 : mA [63] S (S.s_known (upd (upd S.known (6 * k + 1) 2) (6 * k + 5) (nI y))) := (mA.rf S).a_known _ (by decide)
  have hK2 : knM (S.s_known (upd (upd S.known (6 * k + 1) 2) (6 * k + 5) (nI y))) T Y (txK K k (gP P j).2.2) := ⟨hK.1, hK.2.txk hy1 hy3⟩
  refine g_v2 (pc := 93) (M' := mt_M_findLinks) dc_M_take_93 mo_M_findLinks im_M_findLinks se_M_findLinks ln_M_449 (mp_o hA) rfl rfl (Nat.le_of_ble_eq_true rfl) (Nat.le_of_ble_eq_true rfl) (am_G.mono (c_M_findLinks (d := d) (S := (S.s_known (upd (upd S.known (6 * k + 1) 2) (6 * k + 5) (nI y)))) (T := T) (Y := Y) (U := U) (j := y) (ka := ka) (D := gT K.ad k) hA hUl (hX.m hm2 (by decide) (by decide) (by decide) (by decide) (by decide)) hY.1 hy1 hyy.1 hyy.2 (hT.m hm2 (by decide) (by decide) (by decide) (by decide)) hok ⟨hka, hD⟩ hU (by rw [hy3]; exact hpU.1) (by rw [hy3]; exact hpU.2.1)) ?_)
  intro r h9 hz
  obtain ⟨hz1, S3, T1, hz2, hz3, hz4, hz5, hz6, hz7⟩ := hz
  rw [hz1, hz2]
  clear hz1 hz2 h9 r
  rw [hy3] at hz4 hz7
  have hm3 := hm2.mo (Z1 := XL) (by decide) |>.tr (hz3.m.mo (by decide))
  have hK3 := (hK2.m hz3.m (by decide) (by decide)).pre hz5 (List.prefix_refl Y)
  refine ⟨am_nt0, ?_⟩
  refine g_iconst (pc := 96) (v := 0) dc_M_take_96 rfl ?_
  refine g_istore (pc := 97) dc_M_take_97 (by decide) ?_
  show am_G X mt_M_take _ 99 [some (.ref 84), some (.int (nI k)), some (.int (nI ka)), some (.int (nI j)), none, some (.int 0), none] [] _ _
  refine am_wk (am_le_s (am_le_s (am_le_n (am_le_n (am_le_n (am_le_s (am_le_n am_le_0))))))) ?_
  have hwt : wfK (txK K k (gP P j).2.2) := ⟨hw.1, hw.2.1, hw.2.2.1, fun i hi => by
    have := hw.2.2.2 i hi
    refine ⟨?_, ?_, this.2.2⟩
    · show 1 ≤ upf K.st k 2 i
      by_cases q : i = k
      · rw [q, upf_s]; decide
      · rw [upf_n q]; exact this.1
    · show upf K.st k 2 i ≤ 5
      by_cases q : i = k
      · rw [q, upf_s]; decide
      · rw [upf_n q]; exact this.2.1⟩
  refine am_G.mono (l99_M_take (d := d + 7) (dp0 := K.dp k) hA lkf_len (by omega) hz4.2.1 (pgL (gP P j).2.2 (gT K.ad k)).length 0 S3 _ (by omega) hz4.1 hK3 hwt (hl.m hm3 (by decide)) hz7 hk (by show ¬ upf K.st k 2 k = 1; rw [upf_s]; decide) rfl) (fun r h9 hz => ?_)
  obtain ⟨y1, S1, y2, y3, y4⟩ := hz
  refine ⟨y1, S1, T1, y2, hm3.tr (y3.mo (by decide)), ⟨hz4.1.m y3 (by decide) (by decide) (by decide) (by decide), hz4.2.1, hz6, (hX.m hm3 (by decide) (by decide) (by decide) (by decide) (by decide)).m y3 (by decide) (by decide) (by decide) (by decide) (by decide)⟩, hz5, y4⟩
theorem tb_lt (hM : tbM S T Y U) (hUl : U.length < 3500) : T.length < 3500 := Nat.lt_of_le_of_lt (nd_len hM.1.2.2.2.2 hM.2.2.1) hUl
theorem w152_M_take (hA : A.length = 84) (hUl : U.length < 3500) (hY : yOK Y) (hM : tbM S T Y U) (hka : ka < T.length) (hD : gT T ka = gT K.ad k) (hK : knM S T Y K) (hw : wfK K) (hl : hdM S lim) (hk : k < K.ad.length) (hp : pagM S T Y P) (hj : j < P.length) (hpU : pgU U (gT K.ad k) (gP P j).2.2) : am_G X mt_M_take (d + 10) 152 [some (.ref 84), some (.int (nI k)), some (.int (nI ka)), some (.int (nI j)), none, none, none] [] (mput A S B) (fun r h1 => (r = some (.int 3) ∧ K.ch k < lim 1 ∧ ∃ E S1 T1, ldl (gP P j).2.2 (gT K.ad k) = some E ∧ h1 = mput A S1 B ∧ mA XL S S1 ∧ tbM S1 T1 Y U ∧ T <+: T1 ∧ knM S1 T1 Y (mee lim E (K.dp k) (K.ch k + 1) (ldK K k E))) ∨ (r = some (.int 5) ∧ (¬ K.ch k < lim 1 ∨ ldl (gP P j).2.2 (gT K.ad k) = none) ∧ ∃ S1, h1 = mput A S1 B ∧ mA XL S S1 ∧ tbM S1 T Y U ∧ knM S1 T Y K)) := by
  obtain ⟨y, hy1, hy2, hy3⟩ := (hp.2.2.2 j hj).2.2
  have h3500 := tb_lt hM hUl
  have hM0 := hM
  obtain ⟨hT, hok, hU, hX⟩ := hM
  have h250 := hw.1
  have hp6 := hp.2.1
  have hyy := hY.2 y hy1
  have hY1 := hY.1
  have hos := ofs_s (T := Y) hy1
  have hw9 := hw.2.2.2 k hk
  have hl1 := hl.1 1 (by decide)
  have hl3 := hl.2.2.1
  have hxx := hX.2.2.1 y hy1
  have hbt := hX.2.2.2 y hy1
  rw [hos] at hxx
  rw [hy3] at hyy hxx hos hbt
  have hln := lnE_bd (L := (gP P j).2.2) (f := 0) (t := (gP P j).2.2.length) (by omega)
  refine g_aload_n (pc := 152) dc_M_take_152 rfl ?_
  refine g_getfield (pc := 153) dc_M_take_153 fl_M_131 (mp_o hA) rfl ?_
  refine g_aload_n (pc := 156) dc_M_take_156 rfl ?_
  refine g_getfield (pc := 157) dc_M_take_157 fl_M_344 (mp_o hA) rfl ?_
  refine g_iload_n (pc := 160) dc_M_take_160 rfl ?_
  refine q_ialoadV (pc := 161) j dc_M_take_161 (mp_a hA 28 rfl) (by omega) (by omega) (v := (nI y)) hy2 ?_
  refine q_ialoadV (pc := 162) y dc_M_take_162 (mp_a hA 13 rfl) (by omega) (by omega) (v := (nI ((ofs Y y) + 0))) hxx.1 ?_
  refine g_istore (pc := 163) dc_M_take_163 (by decide) ?_
  show am_G X mt_M_take _ 165 [some (.ref 84), some (.int (nI k)), some (.int (nI ka)), some (.int (nI j)), none, some (.int (nI ((ofs Y y) + 0))), none] [] _ _
  refine g_aload_n (pc := 165) dc_M_take_165 rfl ?_
  refine g_getfield (pc := 166) dc_M_take_166 fl_M_140 (mp_o hA) rfl ?_
  refine g_iload (pc := 169) dc_M_take_169 rfl ?_
  refine g_aload_n (pc := 171) dc_M_take_171 rfl ?_
  refine g_getfield (pc := 172) dc_M_take_172 fl_M_146 (mp_o hA) rfl ?_
  refine g_aload_n (pc := 175) dc_M_take_175 rfl ?_
  refine g_getfield (pc := 176) dc_M_take_176 fl_M_344 (mp_o hA) rfl ?_
  refine g_iload_n (pc := 179) dc_M_take_179 rfl ?_
  refine q_ialoadV (pc := 180) j dc_M_take_180 (mp_a hA 28 rfl) (by omega) (by omega) (v := (nI y)) hy2 ?_
  refine q_ialoadV (pc := 181) y dc_M_take_181 (mp_a hA 14 rfl) (by omega) (by omega) (v := (nI ((ofs Y y) + ((gP P j).2.2.length)))) hxx.2.1 ?_
  refine g_s3 (pc := 182) (M' := mt_M_lineEnd) dc_M_take_182 mo_M_lineEnd st_M_lineEnd ln_M_455 (Nat.le_of_ble_eq_true rfl) (Nat.le_of_ble_eq_true rfl) (am_G.mono (c_M_lineEnd (s := ofs Y y) (L := (gP P j).2.2) (f := 0) (t := (gP P j).2.2.length) ((txO_texts hA hxx.2.2 (by omega)).tt) (by omega) (by omega)) ?_)
  intro r h1 hq
  rw [hq.1, hq.2]
  clear hq h1 r
  refine ⟨am_nti _, ?_⟩
  refine g_istore (pc := 185) dc_M_take_185 (by decide) ?_
  show am_G X mt_M_take _ 187 [some (.ref 84), some (.int (nI k)), some (.int (nI ka)), some (.int (nI j)), none, some (.int (nI ((ofs Y y) + 0))), some (.int (nI ((ofs Y y) + (lnE (gP P j).2.2 0 (gP P j).2.2.length))))] [] _ _
  refine g_aload_n (pc := 187) dc_M_take_187 rfl ?_
  refine g_iload_n (pc := 188) dc_M_take_188 rfl ?_
  refine g_iconst (pc := 189) (v := 3) dc_M_take_189 rfl ?_
  refine g_v2 (pc := 190) (M' := mt_M_of) dc_M_take_190 mo_M_of im_M_of se_M_of ln_M_415 (mp_o hA) rfl rfl (Nat.le_of_ble_eq_true rfl) (Nat.le_of_ble_eq_true rfl) (am_G.mono (c3_M_of (d := d + 9) (i := k) hA hK (by omega) hk) ?_)
  intro r h1 hq
  rw [hq.1, hq.2]
  clear hq h1 r
  refine ⟨am_nti _, ?_⟩
  refine g_aload_n (pc := 193) dc_M_take_193 rfl ?_
  refine g_getfield (pc := 194) dc_M_take_194 fl_M_350 (mp_o hA) rfl ?_
  refine g_iconst (pc := 197) (v := 1) dc_M_take_197 rfl ?_
  refine q_ialoadV (pc := 198) 1 dc_M_take_198 (mp_a hA 31 rfl) (by omega) (by omega) (v := (nI (lim 1))) hl1 ?_
  refine q_icmp_ge (pc := 199) (tgt := 271) (K.ch k) (lim 1) dc_M_take_199 (by omega) (by omega) rfl (fun hc199 => ?_) (fun hc199 => ?_)
  · refine g_iconst (pc := 271) (v := 5) dc_M_take_271 rfl ?_
    exact g_ireturn dc_M_take_272 rfl (Or.inr ⟨rfl, Or.inl (by omega), S, rfl, mA.rf S, hM0, hK⟩)
  · refine g_aload_n (pc := 202) dc_M_take_202 rfl ?_
    refine g_aload_n (pc := 203) dc_M_take_203 rfl ?_
    refine g_getfield (pc := 204) dc_M_take_204 fl_M_140 (mp_o hA) rfl ?_
    refine g_iload (pc := 207) dc_M_take_207 rfl ?_
    refine g_iload (pc := 209) dc_M_take_209 rfl ?_
    refine g_iload_n (pc := 211) dc_M_take_211 rfl ?_
    refine g_v4 (pc := 212) (M' := mt_M_readReference) dc_M_take_212 mo_M_readReference im_M_readReference se_M_readReference ln_M_297 (mp_o hA) rfl rfl (Nat.le_of_ble_eq_true rfl) (Nat.le_of_ble_eq_true rfl) (am_G.mono (c_M_readReference (d := d + 4) (s := ofs Y y) (L := (gP P j).2.2) (f0 := 0) (t0 := lnE (gP P j).2.2 0 (gP P j).2.2.length) (bo := some ka) (ca := 96) hA hT (okT_of hok) (txO_texts hA hxx.2.2 (by omega)) (by decide) hbt (by omega) (by omega) (by omega) (fun q hq => by cases hq; exact hka)) ?_)
    intro r h9 hz
    obtain ⟨S2, hz2, hz3, hz4⟩ := hz
    rw [hz2]
    clear hz2 h9
    rw [lnE_r (by omega), show Option.map (gT T) (some ka) = some (gT K.ad k) from congrArg some hD, show mrr (gP P j).2.2 0 (fw (nev 10) (gP P j).2.2 0 (gP P j).2.2.length) (some (gT K.ad k)) = ldl (gP P j).2.2 (gT K.ad k) from rfl] at hz4
    have hm2 : mA XL S S2 := hz3.m.mo (by decide)
    cases hm : ldl (gP P j).2.2 (gT K.ad k) with
    | none =>
      rw [hm] at hz4
      rw [hz4]
      refine ⟨am_nti _, ?_⟩
      refine g_if_eq (pc := 215) (tgt := 271) dc_M_take_215 rfl (fun _ => ?_) (fun hc => absurd hc (by decide))
      refine g_iconst (pc := 271) (v := 5) dc_M_take_271 rfl ?_
      exact g_ireturn dc_M_take_272 rfl (Or.inr ⟨rfl, Or.inr rfl, S2, rfl, hm2, ⟨hT.m hz3.m (by decide) (by decide) (by decide) (by decide), hok, hU, hX.m hm2 (by decide) (by decide) (by decide) (by decide) (by decide)⟩, hK.m hz3.m (by decide) (by decide)⟩)
    | some E =>
      rw [hm] at hz4
      rw [hz4.1]
      refine ⟨am_nti _, ?_⟩
      have hoE : okD E := mrr_ok (L := (gP P j).2.2) (by omega) (fw_bd (p := nev 10) (L := (gP P j).2.2) (f := 0) (t := (gP P j).2.2.length) (by omega)).2 hbt (fun D9 h9 => by cases h9; rw [← hD]; exact hok _ (gT_mem hka)) hm
      refine g_if_eq (pc := 215) (tgt := 271) dc_M_take_215 rfl (fun hc => absurd hc (by decide)) (fun _ => ?_)
      refine g_aload_n (pc := 218) dc_M_take_218 rfl ?_
      refine g_getfield (pc := 219) dc_M_take_219 fl_M_356 (mp_o hA) rfl ?_
      refine g_bipush (pc := 222) (v := 6) dc_M_take_222 rfl ?_
      refine g_iload_n (pc := 224) dc_M_take_224 rfl ?_
      refine g_imul (pc := 225) (v := (nI (6 * k))) dc_M_take_225 (pk_mul 6 k) ?_
      refine g_iconst (pc := 226) (v := 1) dc_M_take_226 rfl ?_
      refine g_iadd (pc := 227) (v := (nI (6 * k + 1))) dc_M_take_227 (nI_add (6 * k) 1) ?_
      refine g_iconst (pc := 228) (v := 3) dc_M_take_228 rfl ?_
      refine as_known (pc := 229) (6 * k + 1) hA dc_M_take_229 (by omega) ?_
      refine g_aload_n (pc := 230) dc_M_take_230 rfl ?_
      refine g_getfield (pc := 231) dc_M_take_231 fl_M_356 (mp_o hA) rfl ?_
      refine g_bipush (pc := 234) (v := 6) dc_M_take_234 rfl ?_
      refine g_iload_n (pc := 236) dc_M_take_236 rfl ?_
      refine g_imul (pc := 237) (v := (nI (6 * k))) dc_M_take_237 (pk_mul 6 k) ?_
      refine g_iconst (pc := 238) (v := 4) dc_M_take_238 rfl ?_
      refine g_iadd (pc := 239) (v := (nI (6 * k + 4))) dc_M_take_239 (nI_add (6 * k) 4) ?_
      refine g_aload_n (pc := 240) dc_M_take_240 rfl ?_
      have hmk : mA [63] S2 (S2.s_known (upd S2.known (6 * k + 1) 3)) := (mA.rf S2).a_known _ (by decide)
      have hT2 := (hT.m hz3.m (by decide) (by decide) (by decide) (by decide)).m hmk (by decide) (by decide) (by decide) (by decide)
      refine g_v0 (pc := 241) (M' := mt_M_keep) dc_M_take_241 mo_M_keep im_M_keep se_M_keep ln_M_300 (mp_o hA) rfl rfl (Nat.le_of_ble_eq_true rfl) (Nat.le_of_ble_eq_true rfl) (am_G.mono (c_M_keep (d := d + 8) (S := (S2.s_known (upd S2.known (6 * k + 1) 3))) (D := E) hA hT2 hz4.2 (Or.inr h3500)) ?_)
      intro r h9 hy9
      obtain ⟨S3, T1, kb, q1, q2, q3⟩ := hy9
      rw [q1, q2]
      clear q1 q2 h9
      have hpr := q3.pre
      have hkm := q3.m
      have hkb : kb < T1.length ∧ gT T1 kb = E := ⟨q3.2.2.1, q3.2.2.2.1⟩
      have hkn : S3.known = upd S.known (6 * k + 1) 3 := (hkm.known (by decide)).trans (by show upd S2.known _ _ = _; rw [hz3.m.known (by decide)])
      refine ⟨am_nti _, ?_⟩
      refine as_known (pc := 244) (6 * k + 4) hA dc_M_take_244 (by omega) ?_
      have hm4 : mA [63] S3 (S3.s_known (upd S3.known (6 * k + 4) (nI kb))) := (mA.rf S3).a_known _ (by decide)
      have hk4 : (S3.s_known (upd S3.known (6 * k + 4) (nI kb))).known = upd (upd S.known (6 * k + 1) 3) (6 * k + 4) (nI kb) := by show upd S3.known _ _ = _; rw [hkn]
      have hT4 := q3.1.m hm4 (by decide) (by decide) (by decide) (by decide)
      have hl4 : hdM (S3.s_known (upd S3.known (6 * k + 4) (nI kb))) lim := (((hl.m hz3.m (by decide)).m hmk (by decide)).m hkm (by decide)).m hm4 (by decide)
      have hn4 : (S3.s_known (upd S3.known (6 * k + 4) (nI kb))).knownCount = K.ad.length := (hkm.knownCount (by decide)).trans ((hz3.m.knownCount (by decide)).trans hK.1)
      have hK4 : knM (S3.s_known (upd S3.known (6 * k + 4) (nI kb))) T1 Y (ldK K k E) := ⟨hn4, by rw [hk4]; exact (hK.2.pre hpr (List.prefix_refl Y)).ldk hkb.1 hkb.2⟩
      have hwl : wfK (ldK K k E) := ⟨hw.1, hw.2.1, hw.2.2.1, fun i hi => by
        have := hw.2.2.2 i hi
        refine ⟨?_, ?_, this.2.2⟩
        · show 1 ≤ upf K.st k 3 i
          by_cases q : i = k
          · rw [q, upf_s]; decide
          · rw [upf_n q]; exact this.1
        · show upf K.st k 3 i ≤ 5
          by_cases q : i = k
          · rw [q, upf_s]; decide
          · rw [upf_n q]; exact this.2.1⟩
      refine g_aload_n (pc := 245) dc_M_take_245 rfl ?_
      refine g_aload_n (pc := 246) dc_M_take_246 rfl ?_
      refine g_iload_n (pc := 247) dc_M_take_247 rfl ?_
      refine g_iconst (pc := 248) (v := 4) dc_M_take_248 rfl ?_
      refine g_v2 (pc := 249) (M' := mt_M_of) dc_M_take_249 mo_M_of im_M_of se_M_of ln_M_415 (mp_o hA) rfl rfl (Nat.le_of_ble_eq_true rfl) (Nat.le_of_ble_eq_true rfl) (am_G.mono (c_M_of (d := d + 9) (i := k) (w := 4) (v := (nI kb)) (S := (S3.s_known (upd S3.known (6 * k + 4) (nI kb)))) hA (by omega) (by decide) (by rw [hk4, upd_s])) ?_)
      intro r h1 hq
      rw [hq.1, hq.2]
      clear hq h1 r
      refine ⟨am_nti _, ?_⟩
      refine g_aload_n (pc := 252) dc_M_take_252 rfl ?_
      refine g_iload_n (pc := 253) dc_M_take_253 rfl ?_
      refine g_iconst (pc := 254) (v := 2) dc_M_take_254 rfl ?_
      refine g_v2 (pc := 255) (M' := mt_M_of) dc_M_take_255 mo_M_of im_M_of se_M_of ln_M_415 (mp_o hA) rfl rfl (Nat.le_of_ble_eq_true rfl) (Nat.le_of_ble_eq_true rfl) (am_G.mono (c_M_of (d := d + 9) (i := k) (w := 2) (v := (nI (K.dp k))) (S := (S3.s_known (upd S3.known (6 * k + 4) (nI kb)))) hA (by omega) (by decide) (by rw [hk4, upd_n (by omega), upd_n (by omega)]; exact (hK.2 k hk).2.2.1)) ?_)
      intro r h1 hq
      rw [hq.1, hq.2]
      clear hq h1 r
      refine ⟨am_nti _, ?_⟩
      refine g_aload_n (pc := 258) dc_M_take_258 rfl ?_
      refine g_iload_n (pc := 259) dc_M_take_259 rfl ?_
      refine g_iconst (pc := 260) (v := 3) dc_M_take_260 rfl ?_
      refine g_v2 (pc := 261) (M' := mt_M_of) dc_M_take_261 mo_M_of im_M_of se_M_of ln_M_415 (mp_o hA) rfl rfl (Nat.le_of_ble_eq_true rfl) (Nat.le_of_ble_eq_true rfl) (am_G.mono (c_M_of (d := d + 9) (i := k) (w := 3) (v := (nI (K.ch k))) (S := (S3.s_known (upd S3.known (6 * k + 4) (nI kb)))) hA (by omega) (by decide) (by rw [hk4, upd_n (by omega), upd_n (by omega)]; exact (hK.2 k hk).2.2.2.1)) ?_)
      intro r h1 hq
      rw [hq.1, hq.2]
      clear hq h1 r
      refine ⟨am_nti _, ?_⟩
      refine g_iconst (pc := 264) (v := 1) dc_M_take_264 rfl ?_
      refine g_iadd (pc := 265) (v := (nI (K.ch k + 1))) dc_M_take_265 (nI_add (K.ch k) 1) ?_
      refine g_v3 (pc := 266) (M' := mt_M_meet) dc_M_take_266 mo_M_meet im_M_meet se_M_meet ln_M_452 (mp_o hA) rfl rfl (Nat.le_of_ble_eq_true rfl) (Nat.le_of_ble_eq_true rfl) (am_G.mono (c_M_meet (d := d + 7) (S := (S3.s_known (upd S3.known (6 * k + 4) (nI kb)))) (K := ldK K k E) (ka := kb) (dp := K.dp k) (ch := K.ch k + 1) hA hT4 hkb.1 hK4 hwl hl4 (by omega) (by omega)) ?_)
      intro r h9 hy9
      obtain ⟨q1, S5, q2, q5, q6⟩ := hy9
      rw [q1, q2]
      clear q1 q2 h9
      rw [hkb.2] at q6
      have hm5 : mA XL S S5 := ((hm2.tr (hmk.mo (by decide))).tr (hkm.mo (by decide))).tr ((hm4.mo (by decide)).tr (q5.mo (by decide)))
      refine ⟨am_nt0, ?_⟩
      refine g_iconst (pc := 269) (v := 3) dc_M_take_269 rfl ?_
      exact g_ireturn dc_M_take_270 rfl (Or.inl ⟨rfl, by omega, E, S5, T1, rfl, rfl, hm5, ⟨hT4.m q5 (by decide) (by decide) (by decide) (by decide), fun x hx => (q3.mem x hx).elim (hok x) (fun e => by rw [e]; exact hoE), fun x hx => (q3.mem x hx).elim (hU x) (fun e => by rw [e]; exact hpU.2.2 E hm), hX.m hm5 (by decide) (by decide) (by decide) (by decide) (by decide)⟩, hpr, q6⟩)
end TAK
