/-! ===== the class's cells: who owns them, and what may change ===== -/
abbrev Gw : Type := (Nat → Nat) × (Nat → Nat)
def tos (c : Nat → Nat) : Nat → Nat
  | 0 => 0
  | n + 1 => tos c n + c n
def up1 (c : Nat → Nat) (i v : Nat) : Nat → Nat := fun j => if j = i then v else c j
theorem up1_s {c : Nat → Nat} {i v : Nat} : up1 c i v i = v := if_pos rfl
theorem up1_n {c : Nat → Nat} {i v j : Nat} (h : ¬ j = i) : up1 c i v j = c j := if_neg h
theorem tos_ge {c : Nat → Nat} {i v : Nat} : ∀ n, n ≤ i → tos (up1 c i v) n = tos c n
  | 0, _ => rfl
  | n + 1, h => by
    show tos (up1 c i v) n + up1 c i v n = tos c n + c n
    rw [tos_ge n (by omega), up1_n (by omega)]
theorem tos_up {c : Nat → Nat} {i v : Nat} : ∀ n, i < n → tos (up1 c i v) n + c i = tos c n + v
  | 0, h => absurd h (Nat.not_lt_zero i)
  | n + 1, h => by
    show tos (up1 c i v) n + up1 c i v n + c i = tos c n + c n + v
    by_cases e : n = i
    · rw [e, tos_ge i (Nat.le_refl _), up1_s]; omega
    · rw [up1_n e]
      have := tos_up (c := c) (i := i) (v := v) n (by omega)
      omega
/-- how much room a row of bytes may come to have -/
def kb (i : Nat) : Nat := if i = 46 then 400016 else if i = 36 then 100016 else if 100 ≤ i then 20016 else 40016
theorem kb_le (i : Nat) : kb i ≤ 400016 := by
  unfold kb
  repeat' split
  all_goals omega
/-- only cells of the owners in I have changed -/
def fr (w w1 : Gw) (h h1 : List va_E) (I : List Nat) : Prop := (h.length ≤ h1.length ∧ ∀ k, k < h.length → w1.1 k = w.1 k ∧ (¬ w.1 k ∈ I → h1[k]? = h[k]?)) ∧ (∀ i, ¬ i ∈ I → w1.2 i = w.2 i) ∧ am_sl h1 + 2 * tos w.2 400 ≤ am_sl h + 2 * tos w1.2 400 ∧ 16 * h1.length + tos w.2 400 ≤ 16 * h.length + tos w1.2 400 ∧ ∀ i, ¬ i = 27 → w1.2 i = w.2 i ∨ ((0 < w.2 i ∨ (100 ≤ i ∧ i < 172)) ∧ w1.2 i ≤ kb i)
section OWN
variable {w w1 w2 : Gw} {h h1 h2 : List va_E} {I J : List Nat} {i j a b c k s : Nat} {L M : List Int32}
theorem fr.rf : fr w w h h I := ⟨⟨Nat.le_refl _, fun _ _ => ⟨rfl, fun _ => rfl⟩⟩, fun _ _ => rfl, Nat.le_refl _, Nat.le_refl _, fun _ _ => Or.inl rfl⟩
theorem fr.tr (x : fr w w1 h h1 I) (y : fr w1 w2 h1 h2 I) : fr w w2 h h2 I := by
  obtain ⟨⟨a1, a2⟩, a3, a4, a5, a6⟩ := x
  obtain ⟨⟨b1, b2⟩, b3, b4, b5, b6⟩ := y
  have h6 : ∀ i, ¬ i = 27 → w2.2 i = w.2 i ∨ ((0 < w.2 i ∨ (100 ≤ i ∧ i < 172)) ∧ w2.2 i ≤ kb i) := fun i hi => by
    rcases b6 i hi with e | e
    · rcases a6 i hi with e2 | e2
      · exact Or.inl (e.trans e2)
      · exact Or.inr ⟨e2.1, by rw [e]; exact e2.2⟩
    · rcases a6 i hi with e2 | e2
      · exact Or.inr ⟨by rw [← e2]; exact e.1, e.2⟩
      · exact Or.inr ⟨e2.1, e.2⟩
  clear a6 b6
  refine ⟨⟨by omega, fun k hk => ?_⟩, fun i hi => (b3 i hi).trans (a3 i hi), by omega, by omega, h6⟩
  have e1 := a2 k hk
  have e2 := b2 k (by omega)
  refine ⟨e2.1.trans e1.1, fun hn => (e2.2 (by rw [e1.1]; exact hn)).trans (e1.2 hn)⟩
theorem fr.mo (x : fr w w1 h h1 I) (hs : ∀ i, i ∈ I → i ∈ J) : fr w w1 h h1 J := ⟨⟨x.1.1, fun k hk => ⟨(x.1.2 k hk).1, fun hn => (x.1.2 k hk).2 (fun h9 => hn (hs _ h9))⟩⟩, fun i hi => x.2.1 i (fun h9 => hi (hs _ h9)), x.2.2⟩
theorem fr.at (x : fr w w1 h h1 I) {e : va_E} (hk : h[k]? = some e) (ho : ¬ w.1 k ∈ I) : h1[k]? = some e := ((x.1.2 k (am_lt hk)).2 ho).trans hk
theorem fr.ow (x : fr w w1 h h1 I) (hk : k < h.length) : w1.1 k = w.1 k := (x.1.2 k hk).1
theorem fr.st {x0 x : va_E} (ha : h[a]? = some x0) (hn : am_n x = am_n x0) (ho : w.1 a = i) : fr w w h (h.set a x) [i] := by
  refine ⟨⟨by rw [List.length_set]; exact Nat.le_refl _, fun k hk => ⟨rfl, fun h9 => ?_⟩⟩, fun _ _ => rfl, by rw [am_sl_set h a x x0 ha hn]; exact Nat.le_refl _, by rw [List.length_set]; exact Nat.le_refl _, fun _ _ => Or.inl rfl⟩
  refine List.getElem?_set_ne (fun e => h9 ?_)
  rw [← e, ho]
  exact List.mem_singleton_self _
/-- a cell with its owner -/
def cO (w : Gw) (h : List va_E) (i k : Nat) (e : va_E) : Prop := h[k]? = some e ∧ w.1 k = i
theorem cO.fr {e : va_E} (x : cO w h i k e) (f : fr w w1 h h1 I) (hi : ¬ i ∈ I) : cO w1 h1 i k e := ⟨f.at x.1 (by rw [x.2]; exact hi), (f.ow (am_lt x.1)).trans x.2⟩
/-- a text with its owner -/
def tO (w : Gw) (h : List va_E) (i c s : Nat) (L : List Int32) : Prop := ttb h c s L ∧ w.1 c = i
theorem tO.fr (x : tO w h i c s L) (f : fr w w1 h h1 I) (hi : ¬ i ∈ I) : tO w1 h1 i c s L := ⟨x.1.eq ((f.1.2 c x.1.lt).2 (by rw [x.2]; exact hi)), (f.ow x.1.lt).trans x.2⟩
/-- a row of bytes with its owner -/
def bB (w : Gw) (h : List va_E) (i a b : Nat) (L : List Int32) : Prop := isB h a b (w.2 i) L ∧ w.1 a = i ∧ w.1 b = i ∧ w.2 i ≤ kb i
def bE (w : Gw) (h : List va_E) (i a : Nat) (L : List Int32) : Prop := ∃ b, bB w h i a b L
theorem bB.fr (x : bB w h i a b L) (f : fr w w1 h h1 I) (hi : ¬ i ∈ I) : bB w1 h1 i a b L := by
  obtain ⟨x1, x2, x3, x4⟩ := x
  have la := am_lt x1.ha
  have lb := x1.ttb.lt
  have e := f.2.1 i hi
  refine ⟨?_, (f.ow la).trans x2, (f.ow lb).trans x3, by rw [e]; exact x4⟩
  rw [e]
  exact x1.eq ((f.1.2 a la).2 (by rw [x2]; exact hi)) ((f.1.2 b lb).2 (by rw [x3]; exact hi))
theorem bE.fr (x : bE w h i a L) (f : fr w w1 h h1 I) (hi : ¬ i ∈ I) : bE w1 h1 i a L := by
  obtain ⟨b, hb⟩ := x
  exact ⟨b, hb.fr f hi⟩
theorem bB.e (x : bB w h i a b L) : bE w h i a L := ⟨b, x⟩
theorem bB.tO (x : bB w h i a b L) : tO w h i b 0 L := ⟨x.1.ttb, x.2.2.1⟩
theorem bB.cO (x : bB w h i a b L) : cO w h i a (.inr (1, [.ref b, .int (nI L.length)])) := ⟨x.1.ha, x.2.1⟩
theorem isB.pos {cap : Nat} (x : isB h a b cap L) : 0 < cap := by
  obtain ⟨g, -, -, -, -, h16, -⟩ := x
  omega
theorem toB.wo (hi : i < 400) (hp : 0 < w.2 i) (x2 : w.1 a = i) (x3 : w.1 b = i) (x4 : w.2 i ≤ kb i) (ht : toB h h1 a b (w.2 i) L) (hl : 2 * L.length + 16 ≤ kb i) : ∃ w1, fr w w1 h h1 [i] ∧ bE w1 h1 i a L := by
  obtain ⟨b', cap', y1, ⟨⟨y2, y3⟩, y4, y5, y6⟩, y7⟩ := ht
  have la : a < h1.length := am_lt y1.ha
  refine ⟨(fun k => if h.length ≤ k then i else w.1 k, up1 w.2 i cap'), ⟨⟨y2, fun k hk => ⟨if_neg (by omega), fun h9 => ?_⟩⟩, fun j hj => up1_n (fun e => hj (by rw [e]; exact List.mem_singleton_self _)), ?_, ?_, fun j _ => ?_⟩, b', ?_, ?_, ?_, ?_⟩
  · exact y3 k hk (fun e => h9 (by rw [e, x2]; exact List.mem_singleton_self _)) (fun e => h9 (by rw [e, x3]; exact List.mem_singleton_self _))
  · have := tos_up (c := w.2) (i := i) (v := cap') 400 hi
    show am_sl h1 + 2 * tos w.2 400 ≤ am_sl h + 2 * tos (up1 w.2 i cap') 400
    omega
  · have := tos_up (c := w.2) (i := i) (v := cap') 400 hi
    show 16 * h1.length + tos w.2 400 ≤ 16 * h.length + tos (up1 w.2 i cap') 400
    omega
  · by_cases e : j = i
    · refine Or.inr ⟨Or.inl (by rw [e]; exact hp), ?_⟩
      show up1 w.2 i cap' j ≤ kb j
      rw [e, up1_s]
      omega
    · exact Or.inl (up1_n e)
  · show isB h1 a b' (up1 w.2 i cap' i) L
    rw [up1_s]
    exact y1
  · show (if h.length ≤ a then i else w.1 a) = i
    split
    · rfl
    · exact x2
  · show (if h.length ≤ b' then i else w.1 b') = i
    split
    · rfl
    · rcases y4 with e | e
      · rw [e]; exact x3
      · omega
  · show up1 w.2 i cap' i ≤ kb i
    rw [up1_s]
    omega
/-- rows with their owners: i has the object and the ends, j the bytes -/
def rR (w : Gw) (h : List va_E) (i j a ab b e : Nat) (T : List (List Int32)) (P : List Int32) : Prop := isR h a ab b (w.2 j) e (w.2 i) T P ∧ (w.1 a = i ∧ w.1 e = i ∧ w.1 ab = j ∧ w.1 b = j) ∧ w.2 i ≤ kb i ∧ w.2 j ≤ kb j ∧ 0 < w.2 i
def rE (w : Gw) (h : List va_E) (i j a ab : Nat) (T : List (List Int32)) (P : List Int32) : Prop := ∃ b e, rR w h i j a ab b e T P
theorem isR.eq {ab e cap ecap : Nat} {T : List (List Int32)} {P : List Int32} (x : isR h a ab b cap e ecap T P) (h1a : h1[a]? = h[a]?) (h1ab : h1[ab]? = h[ab]?) (h1b : h1[b]? = h[b]?) (h1e : h1[e]? = h[e]?) : isR h1 a ab b cap e ecap T P := by
  obtain ⟨x1, x2, gE, x3, x4⟩ := x
  exact ⟨h1a.trans x1, x2.eq h1ab h1b, gE, h1e.trans x3, x4⟩
theorem rR.fr {ab e : Nat} {T : List (List Int32)} {P : List Int32} (x : rR w h i j a ab b e T P) (f : fr w w1 h h1 I) (hi : ¬ i ∈ I) (hj : ¬ j ∈ I) : rR w1 h1 i j a ab b e T P := by
  obtain ⟨x1, ⟨o1, o2, o3, o4⟩, x4, x5, x6⟩ := x
  have la := am_lt x1.1
  have lab := am_lt x1.2.1.ha
  have lb := x1.2.1.ttb.lt
  have le : e < h.length := by
    obtain ⟨-, -, gE, x3, -⟩ := x1
    exact am_lt x3
  have ei := f.2.1 i hi
  have ej := f.2.1 j hj
  refine ⟨?_, ⟨(f.ow la).trans o1, (f.ow le).trans o2, (f.ow lab).trans o3, (f.ow lb).trans o4⟩, by rw [ei]; exact x4, by rw [ej]; exact x5, by rw [ei]; exact x6⟩
  rw [ei, ej]
  exact x1.eq ((f.1.2 a la).2 (by rw [o1]; exact hi)) ((f.1.2 ab lab).2 (by rw [o3]; exact hj)) ((f.1.2 b lb).2 (by rw [o4]; exact hj)) ((f.1.2 e le).2 (by rw [o2]; exact hi))
theorem rE.fr {ab : Nat} {T : List (List Int32)} {P : List Int32} (x : rE w h i j a ab T P) (f : fr w w1 h h1 I) (hi : ¬ i ∈ I) (hj : ¬ j ∈ I) : rE w1 h1 i j a ab T P := by
  obtain ⟨b, e, hb⟩ := x
  exact ⟨b, e, hb.fr f hi hj⟩
/-- as toR, and the ends' room is kept -/
def toR9 (h h1 : List va_E) (a ab b cap e ecap : Nat) (T : List (List Int32)) (P : List Int32) : Prop := ∃ b1 cap1 e1 ecap1, isR h1 a ab b1 cap1 e1 ecap1 T P ∧ chR h h1 a ab b cap e ecap b1 cap1 e1 ecap1 ∧ cap1 ≤ max cap (2 * (T.flatten ++ P).length + 16) ∧ ecap1 ≤ max ecap (2 * T.length + 16) ∧ (0 < ecap → 0 < ecap1)
theorem toR.wo {ab e : Nat} {T : List (List Int32)} {P : List Int32} (hp : 0 < w.2 i) (hpj : 0 < w.2 j) (hla : a < h.length) (hi : i < 400) (hj : j < 400) (hij : ¬ i = j) (o : w.1 a = i ∧ w.1 e = i ∧ w.1 ab = j ∧ w.1 b = j) (x4 : w.2 i ≤ kb i) (x5 : w.2 j ≤ kb j) (ht : toR9 h h1 a ab b (w.2 j) e (w.2 i) T P) (hl : 2 * (T.flatten ++ P).length + 16 ≤ kb j) (hl2 : 2 * T.length + 16 ≤ kb i) : ∃ w1, fr w w1 h h1 [i, j] ∧ rE w1 h1 i j a ab T P := by
  obtain ⟨o1, o2, o3, o4⟩ := o
  obtain ⟨b1, cap1, e1, ecap1, y1, ⟨⟨y2, y3⟩, y4, y4e, y5, y6⟩, y7, y8, y9⟩ := ht
  have y9 := y9 hp
  have hne := y1.ne
  have m1 : ∀ {x : Nat}, x = i → x ∈ [i, j] := fun e => by rw [e]; exact List.mem_cons_self ..
  have m2 : ∀ {x : Nat}, x = j → x ∈ [i, j] := fun e => by rw [e]; exact List.mem_cons_of_mem _ (List.mem_singleton_self _)
  have t1 := tos_up (c := w.2) (i := i) (v := ecap1) 400 hi
  have t2 := tos_up (c := up1 w.2 i ecap1) (i := j) (v := cap1) 400 hj
  rw [up1_n (fun e => hij e.symm)] at t2
  refine ⟨(fun k => if h.length ≤ k then (if k = e1 then i else j) else w.1 k, up1 (up1 w.2 i ecap1) j cap1), ⟨⟨y2, fun k hk => ⟨if_neg (by omega), fun h9 => ?_⟩⟩, fun q hq => ?_, ?_, ?_, fun q _ => ?_⟩, b1, e1, ?_, ⟨?_, ?_, ?_, ?_⟩, ?_, ?_, ?_⟩
  · exact y3 k hk (fun e => h9 (m1 (by rw [e]; exact o1))) (fun e => h9 (m2 (by rw [e]; exact o3))) (fun e => h9 (m2 (by rw [e]; exact o4))) (fun e => h9 (m1 (by rw [e]; exact o2)))
  · show up1 (up1 w.2 i ecap1) j cap1 q = w.2 q
    rw [up1_n (fun e => hq (m2 e)), up1_n (fun e => hq (m1 e))]
  · show am_sl h1 + 2 * tos w.2 400 ≤ am_sl h + 2 * tos (up1 (up1 w.2 i ecap1) j cap1) 400
    omega
  · show 16 * h1.length + tos w.2 400 ≤ 16 * h.length + tos (up1 (up1 w.2 i ecap1) j cap1) 400
    omega
  · by_cases e2 : q = j
    · refine Or.inr ⟨Or.inl (by rw [e2]; exact hpj), ?_⟩
      show up1 (up1 w.2 i ecap1) j cap1 q ≤ kb q
      rw [e2, up1_s]
      omega
    · by_cases e3 : q = i
      · refine Or.inr ⟨Or.inl (by rw [e3]; exact hp), ?_⟩
        show up1 (up1 w.2 i ecap1) j cap1 q ≤ kb q
        rw [up1_n e2, e3, up1_s]
        omega
      · refine Or.inl ?_
        show up1 (up1 w.2 i ecap1) j cap1 q = w.2 q
        rw [up1_n e2, up1_n e3]
  · show isR h1 a ab b1 (up1 (up1 w.2 i ecap1) j cap1 j) e1 (up1 (up1 w.2 i ecap1) j cap1 i) T P
    rw [up1_s, up1_n hij, up1_s]
    exact y1
  · show (if h.length ≤ a then (if a = e1 then i else j) else w.1 a) = i
    rw [if_neg (by omega)]; exact o1
  · show (if h.length ≤ e1 then (if e1 = e1 then i else j) else w.1 e1) = i
    split
    · exact if_pos rfl
    · rcases y4e with q | q
      · rw [q]; exact o2
      · omega
  · show (if h.length ≤ ab then (if ab = e1 then i else j) else w.1 ab) = j
    split
    · exact if_neg hne.2.2.2.2.1
    · exact o3
  · show (if h.length ≤ b1 then (if b1 = e1 then i else j) else w.1 b1) = j
    split
    · exact if_neg hne.2.2.2.2.2
    · rcases y4 with q | q
      · rw [q]; exact o4
      · omega
  · show up1 (up1 w.2 i ecap1) j cap1 i ≤ kb i
    rw [up1_n hij, up1_s]
    omega
  · show up1 (up1 w.2 i ecap1) j cap1 j ≤ kb j
    rw [up1_s]
    omega
  · show 0 < up1 (up1 w.2 i ecap1) j cap1 i
    rw [up1_n hij, up1_s]
    exact y9
theorem A2.wo {r p br bp : Nat} {R P : List Int32} (hp : 0 < w.2 i) (hpj : 0 < w.2 j) (hi : i < 400) (hj : j < 400) (hij : ¬ i = j) (ki : 20000 ≤ kb i) (kj : 20000 ≤ kb j) (lr : r < h.length) (lp : p < h.length) (o : w.1 r = i ∧ w.1 br = i ∧ w.1 p = j ∧ w.1 bp = j) (x4 : w.2 i ≤ kb i) (x5 : w.2 j ≤ kb j) (ht : A2 h h1 r br (w.2 i) p bp (w.2 j) R P) : ∃ w1, fr w w1 h h1 [i, j] ∧ (bE w1 h1 i r R ∧ w.2 i ≤ w1.2 i) ∧ bE w1 h1 j p P := by
  obtain ⟨o1, o2, o3, o4⟩ := o
  obtain ⟨br1, cr1, bp1, cp1, y1, y1p, hne, ⟨⟨y2, y3⟩, y4, y4p, y5, y6, y7, y8, y9, y10⟩⟩ := ht
  have m1 : ∀ {x : Nat}, x = i → x ∈ [i, j] := fun e => by rw [e]; exact List.mem_cons_self ..
  have m2 : ∀ {x : Nat}, x = j → x ∈ [i, j] := fun e => by rw [e]; exact List.mem_cons_of_mem _ (List.mem_singleton_self _)
  have t1 := tos_up (c := w.2) (i := i) (v := cr1) 400 hi
  have t2 := tos_up (c := up1 w.2 i cr1) (i := j) (v := cp1) 400 hj
  rw [up1_n (fun e => hij e.symm)] at t2
  refine ⟨(fun k => if h.length ≤ k then (if k = br1 then i else j) else w.1 k, up1 (up1 w.2 i cr1) j cp1), ⟨⟨y2, fun k hk => ⟨if_neg (by omega), fun h9 => ?_⟩⟩, fun q hq => ?_, ?_, ?_, fun q _ => ?_⟩, ⟨⟨br1, ?_, ?_, ?_, ?_⟩, ?_⟩, ⟨bp1, ?_, ?_, ?_, ?_⟩⟩
  · exact y3 k hk (fun e => h9 (m1 (by rw [e]; exact o1))) (fun e => h9 (m1 (by rw [e]; exact o2))) (fun e => h9 (m2 (by rw [e]; exact o3))) (fun e => h9 (m2 (by rw [e]; exact o4)))
  · show up1 (up1 w.2 i cr1) j cp1 q = w.2 q
    rw [up1_n (fun e => hq (m2 e)), up1_n (fun e => hq (m1 e))]
  · show am_sl h1 + 2 * tos w.2 400 ≤ am_sl h + 2 * tos (up1 (up1 w.2 i cr1) j cp1) 400
    omega
  · show 16 * h1.length + tos w.2 400 ≤ 16 * h.length + tos (up1 (up1 w.2 i cr1) j cp1) 400
    omega
  · by_cases e2 : q = j
    · refine Or.inr ⟨Or.inl (by rw [e2]; exact hpj), ?_⟩
      show up1 (up1 w.2 i cr1) j cp1 q ≤ kb q
      rw [e2, up1_s]
      omega
    · by_cases e3 : q = i
      · refine Or.inr ⟨Or.inl (by rw [e3]; exact hp), ?_⟩
        show up1 (up1 w.2 i cr1) j cp1 q ≤ kb q
        rw [up1_n e2, e3, up1_s]
        omega
      · refine Or.inl ?_
        show up1 (up1 w.2 i cr1) j cp1 q = w.2 q
        rw [up1_n e2, up1_n e3]
  · show isB h1 r br1 (up1 (up1 w.2 i cr1) j cp1 i) R
    rw [up1_n hij, up1_s]
    exact y1
  · show (if h.length ≤ r then (if r = br1 then i else j) else w.1 r) = i
    rw [if_neg (by omega)]; exact o1
  · show (if h.length ≤ br1 then (if br1 = br1 then i else j) else w.1 br1) = i
    split
    · exact if_pos rfl
    · rcases y4 with q | q
      · rw [q]; exact o2
      · omega
  · show up1 (up1 w.2 i cr1) j cp1 i ≤ kb i
    rw [up1_n hij, up1_s]
    omega
  · show w.2 i ≤ up1 (up1 w.2 i cr1) j cp1 i
    rw [up1_n hij, up1_s]
    exact y9
  · show isB h1 p bp1 (up1 (up1 w.2 i cr1) j cp1 j) P
    rw [up1_s]
    exact y1p
  · show (if h.length ≤ p then (if p = br1 then i else j) else w.1 p) = j
    rw [if_neg (by omega)]; exact o3
  · show (if h.length ≤ bp1 then (if bp1 = br1 then i else j) else w.1 bp1) = j
    split
    · exact if_neg (fun e => hne e.symm)
    · rcases y4p with q | q
      · rw [q]; exact o4
      · omega
  · show up1 (up1 w.2 i cr1) j cp1 j ≤ kb j
    rw [up1_s]
    omega
end OWN
