/-! ===== between two calls: both sides ===== -/
def OW (w : Gw) : Prop := ∀ k, 84 ≤ k → k < 135 → w.1 k = 84
def gwl (i : Nat) : Bool := decide (i ∈ [1, 3, 5, 8, 10, 13, 14, 17, 18, 22, 24, 30, 31, 35, 36, 45, 46, 51, 67, 68, 71, 80, 81, 98] ∨ (100 ≤ i ∧ i < 172))
/-- what was there at the beginning: tags and rooms -/
def w00 : Gw := (fun k => match k with
  | 2 => 1 | 4 => 3 | 6 => 5 | 9 => 8 | 11 => 10 | 15 => 14 | 16 => 13 | 19 => 18 | 20 => 17 | 23 => 22 | 25 => 24 | 32 => 31 | 33 => 30 | 37 => 36 | 38 => 35 | 47 => 46 | 48 => 45 | 52 => 51 | 69 => 68 | 70 => 67 | 72 => 71 | 82 => 81 | 83 => 80 | 135 => 97
  | n => if 84 ≤ n ∧ n < 135 then 84 else n, fun i => match i with
  | 1 => 256 | 3 => 256 | 5 => 200 | 8 => 512 | 10 => 512 | 13 => 60 | 14 => 512 | 17 => 128 | 18 => 512 | 22 => 200 | 24 => 512 | 30 => 20 | 31 => 256 | 35 => 250 | 36 => 1024 | 45 => 1000 | 46 => 1024 | 51 => 200 | 67 => 128 | 68 => 512 | 71 => 200 | 80 => 64 | 81 => 256 | 98 => 1
  | _ => 0)
def RM (w : Gw) (h : List va_E) : Prop := am_sl h + 2 * tos w00.2 400 ≤ am_sl hp_0 + 2 * tos w.2 400 ∧ 16 * h.length + tos w00.2 400 ≤ 16 * hp_0.length + tos w.2 400 ∧ ∀ i, ¬ i = 27 → w.2 i ≤ kb i ∧ (w.2 i = 0 ∨ gwl i = true)
def qz0 : Cr := (K00, (0, 0, 0, some 0, [], fun _ => 0), K00)
def q00 : Cr := qz0
def qC (st9 : Bool) (q : Cr) : Cr := if st9 = true then q else qz0
def C1 (w : Gw) (h : List va_E) (L D : List Int32) : Prop := wO w h ∧ bE w h 1 1 L ∧ bE w h 3 3 D ∧ eB w h 5 5 ∧ rdC w h ∧ ∃ Tx, rE w h 17 18 17 18 Tx []
def C2 (w : Gw) (h : List va_E) (P : List Pg) (Rs Rt : List (List Int32)) (sett : Nat → Nat) (Sd : List (List Int32)) : Prop := wbC w h P Rs Rt ∧ seC w h sett ∧ rE w h 30 31 30 31 Sd []
def C3 (w : Gw) (h : List va_E) (st9 : Bool) (lim : Nat → Nat) (q : Cr) : Prop := cqD w h st9 lim (qC st9 q) ∧ eB w h 51 51
def C4 (w : Gw) (h : List va_E) (K0 : Kn) (pn : Nat) (H : List (Nat × Nat)) : Prop := dcX w h K0 pn ∧ dcR w h ∧ anC w h H
def C5 (w : Gw) (h : List va_E) : Prop := ∃ g, cO w h 97 135 (.inl (2, 1, .inr (.inl g)))
def M1 (S : MS) (L D : List Int32) : Prop := tpM S L ∧ prM S D
def M2 (S : MS) (T Y : List (List Int32)) (P : List Pg) (Rs Rt : List (List Int32)) (sett : Nat → Nat) (Sd : List (List Int32)) : Prop := pagM S T Y P ∧ rulM S T Y Rs Rt ∧ tdM S sett ∧ sdM S T Sd
def M3 (S : MS) (T Y : List (List Int32)) (st9 : Bool) (lim : Nat → Nat) (q : Cr) : Prop := S.isStarted = st9 ∧ hdM S lim ∧ knM S T Y q.1 ∧ cwM S T q.2.1 ∧ siM S T q.1 q.2.1.cr ∧ svM S T Y q.2.2
def M4 (S : MS) (T Y : List (List Int32)) (K0 : Kn) (pn : Nat) (H : List (Nat × Nat)) : Prop := dcM S T Y K0 pn ∧ hitM S H
def PU (j : Nat) (w : Gw) (Y U : List (List Int32)) (L : List Int32) (P : List Pg) (Rt Rs : List (List Int32)) (sett : Nat → Nat) (Sd : List (List Int32)) (st9 : Bool) (lim : Nat → Nat) (q : Cr) (K0 : Kn) (H : List (Nat × Nat)) : Prop := (Rt.length = Rs.length ∧ 1 ≤ sett 3 ∧ ∀ x, x ∈ Sd → okD x) ∧ (yOK Y ∧ pgP U P ∧ wfK K0 ∧ (∀ i, i ∈ dcs K0 → pgU U (gT K0.ad i) (K0.tx i)) ∧ H.length ≤ 250) ∧ ((st9 = true → cqJ lim q ∧ lmO lim ∧ 1 ≤ lim 3 ∧ (gpU U q.1 ∧ gpU U q.2.2) ∧ 1 ≤ j) ∧ (st9 = false → q = q00)) ∧ 8 * U.length + L.length ≤ 44 * j ∧ ofs Y Y.length + L.length ≤ 20 * j ∧ Y.length ≤ j ∧ q.2.1.an ≤ 250 * (j - 1) ∧ w.2 27 + L.length ≤ 268 * j ∧ w.2 98 ≤ 1 + 16 * j ∧ 1 ≤ w.2 98
def INV (j : Nat) (h : List va_E) : Prop := ∃ (w : Gw) (A : List va_E) (S : MS) (B : List va_E) (T Y U : List (List Int32)) (L D : List Int32) (P : List Pg) (Rs Rt : List (List Int32)) (sett : Nat → Nat) (Sd : List (List Int32)) (st9 : Bool) (lim : Nat → Nat) (q : Cr) (K0 : Kn) (pn : Nat) (H : List (Nat × Nat)), (A.length = 84 ∧ h = mput A S B ∧ OW w) ∧ (C1 w h L D ∧ C2 w h P Rs Rt sett Sd ∧ C3 w h st9 lim q ∧ C4 w h K0 pn H ∧ C5 w h) ∧ (M1 S L D ∧ M2 S T Y P Rs Rt sett Sd ∧ M3 S T Y st9 lim q ∧ M4 S T Y K0 pn H ∧ tbM S T Y U) ∧ PU j w Y U L P Rt Rs sett Sd st9 lim q K0 H ∧ RM w h
section D1S
variable {w w1 : Gw} {h h1 : List va_E} {I : List Nat} {A B : List va_E} {S S1 : MS} {T T1 Y Y1 U U1 : List (List Int32)} {L D : List Int32} {P P1 : List Pg} {Rs Rt : List (List Int32)} {sett lim : Nat → Nat} {Sd : List (List Int32)} {st9 : Bool} {q : Cr} {K0 : Kn} {pn j : Nat} {H : List (Nat × Nat)} {Z : List Nat} {p : Int32}
theorem OW.fr (z : OW w) (f : fr w w1 h h1 I) (hl : 135 ≤ h.length) : OW w1 := fun k h1 h2 => (f.ow (by omega)).trans (z k h1 h2)
theorem af_W (f : fr w w1 (mput A S B) h1 I) (hA : A.length = 84) (ho : OW w) (hi : ¬ 84 ∈ I) : ∃ A1 B1, A1.length = 84 ∧ h1 = mput A1 S B1 ∧ OW w1 := by
  have hl : (mput A S B).length = A.length + 51 + B.length := mp_len
  have hl1 : (mput A S B).length ≤ h1.length := f.1.1
  have hm : (mcells S).length = 51 := rfl
  have ht : (h1.take 84).length = 84 := by rw [List.length_take]; omega
  refine ⟨h1.take 84, h1.drop 135, ht, ?_, ho.fr f (by omega)⟩
  refine List.ext_getElem? (fun n => ?_)
  show h1[n]? = (h1.take 84 ++ (mcells S ++ h1.drop 135))[n]?
  by_cases h9 : n < 84
  · rw [List.getElem?_append_left (by omega), List.getElem?_take_of_lt h9]
  · rw [List.getElem?_append_right (by omega), ht]
    by_cases h8 : n < 135
    · rw [List.getElem?_append_left (by omega), (f.1.2 n (by omega)).2 (by rw [ho n (by omega) h8]; exact hi)]
      show (A ++ (mcells S ++ B))[n]? = _
      rw [List.getElem?_append_right (by omega), hA, List.getElem?_append_left (by omega)]
    · rw [List.getElem?_append_right (by omega), hm, List.getElem?_drop, show 135 + (n - 84 - 51) = n by omega]
theorem af_M (hA : A.length = 84) (ho : OW w) : fr w w (mput A S B) (mput A S1 B) [84] := by
  have hm : (mcells S).length = 51 := rfl
  have hm1 : (mcells S1).length = 51 := rfl
  have hl : (mput A S1 B).length = (mput A S B).length := by rw [mp_len, mp_len]
  have hs : am_sl (mput A S1 B) = am_sl (mput A S B) := by
    unfold mput
    rw [am_sl_app, am_sl_app, am_sl_app, am_sl_app, show am_sl (mcells S1) = am_sl (mcells S) from rfl]
  refine ⟨⟨by omega, fun k hk => ⟨rfl, fun h9 => ?_⟩⟩, fun _ _ => rfl, by omega, by omega, fun _ _ => Or.inl rfl⟩
  show (A ++ (mcells S1 ++ B))[k]? = (A ++ (mcells S ++ B))[k]?
  by_cases q : k < 84
  · rw [List.getElem?_append_left (by omega), List.getElem?_append_left (by omega)]
  · by_cases q2 : k < 135
    · exact absurd (List.mem_singleton.mpr (ho k (by omega) q2)) h9
    · rw [List.getElem?_append_right (by omega), List.getElem?_append_right (by omega), List.getElem?_append_right (by omega), List.getElem?_append_right (by omega), hm, hm1]
theorem RM.fr (z : RM w h) (f : fr w w1 h h1 I) : RM w1 h1 := by
  obtain ⟨a1, a2, a3⟩ := z
  obtain ⟨-, -, b3, b4, b5⟩ := f
  refine ⟨by omega, by omega, fun i hi => ?_⟩
  have h9 := a3 i hi
  rcases b5 i hi with e | e
  · rw [e]; exact h9
  · refine ⟨e.2, Or.inr ?_⟩
    rcases e.1 with e1 | e1
    · exact h9.2.resolve_left (by omega)
    · exact decide_eq_true (Or.inr e1)
theorem C1.fr (z : C1 w h L D) (f : fr w w1 h h1 I) (hi : ∀ x, x ∈ [0, 1, 3, 5, 7, 8, 10, 12, 13, 14, 17, 18, 21, 22, 24] → ¬ x ∈ I) : C1 w1 h1 L D := by
  obtain ⟨a1, a2, a3, a4, a5, Tx, a6⟩ := z
  exact ⟨a1.fr f (hi 0 (by decide)), a2.fr f (hi 1 (by decide)), a3.fr f (hi 3 (by decide)), a4.fr f (hi 5 (by decide)), a5.fr f (fun x hx => hi x ((by decide : ∀ x, x ∈ [7, 8, 10, 12, 13, 14, 21, 22, 24] → x ∈ [0, 1, 3, 5, 7, 8, 10, 12, 13, 14, 17, 18, 21, 22, 24]) x hx)), Tx, a6.fr f (hi 17 (by decide)) (hi 18 (by decide))⟩
theorem C2.fr (z : C2 w h P Rs Rt sett Sd) (f : fr w w1 h h1 I) (hi : ∀ x, x ∈ [26, 27, 28, 29, 30, 31, 99] → ¬ x ∈ I) (h2 : ∀ x, x ∈ I → x < 100 ∧ ¬ x = 28) : C2 w1 h1 P Rs Rt sett Sd := by
  obtain ⟨⟨a1, a2, a3⟩, a4, a5⟩ := z
  exact ⟨⟨a1.fr f (hi 26 (by decide)), a2.fr f (hi 27 (by decide)) (hi 99 (by decide)), a3.fr f h2⟩, a4.fr f (hi 29 (by decide)), a5.fr f (hi 30 (by decide)) (hi 31 (by decide))⟩
theorem C3.fr (z : C3 w h st9 lim q) (f : fr w w1 h h1 I) (hi : ∀ x, x ∈ [34, 35, 36, 39, 40, 41, 42, 43, 44, 45, 46, 49, 50, 51, 53, 54, 55, 56, 57, 58, 99] → ¬ x ∈ I) : C3 w1 h1 st9 lim q := ⟨cqC.fr z.1 f (fun x hx => hi x ((by decide : ∀ x, x ∈ [34, 35, 36, 39, 40, 41, 42, 43, 44, 45, 46, 49, 50, 53, 54, 55, 56, 57, 58, 99] → x ∈ [34, 35, 36, 39, 40, 41, 42, 43, 44, 45, 46, 49, 50, 51, 53, 54, 55, 56, 57, 58, 99]) x hx)), z.2.fr f (hi 51 (by decide))⟩
theorem C4.fr (z : C4 w h K0 pn H) (f : fr w w1 h h1 I) (hi : ∀ x, x ∈ [59, 60, 61, 62, 63, 64, 65, 66, 67, 68, 71, 73, 74, 75, 76, 77, 78, 79, 80, 81, 99] → ¬ x ∈ I) : C4 w1 h1 K0 pn H := ⟨z.1.fr f (fun x hx => hi x ((by decide : ∀ x, x ∈ [59, 60, 61, 62, 63, 64, 65, 66, 67, 68, 73, 99] → x ∈ [59, 60, 61, 62, 63, 64, 65, 66, 67, 68, 71, 73, 74, 75, 76, 77, 78, 79, 80, 81, 99]) x hx)), z.2.1.fr f (fun x hx => hi x ((by decide : ∀ x, x ∈ [71, 74, 75, 76] → x ∈ [59, 60, 61, 62, 63, 64, 65, 66, 67, 68, 71, 73, 74, 75, 76, 77, 78, 79, 80, 81, 99]) x hx)), z.2.2.fr f (fun x hx => hi x ((by decide : ∀ x, x ∈ [77, 78, 79, 80, 81] → x ∈ [59, 60, 61, 62, 63, 64, 65, 66, 67, 68, 71, 73, 74, 75, 76, 77, 78, 79, 80, 81, 99]) x hx))⟩
theorem C5.fr (z : C5 w h) (f : fr w w1 h h1 I) (hi : ¬ 97 ∈ I) : C5 w1 h1 := by
  obtain ⟨g, a⟩ := z
  exact ⟨g, cO.fr a f hi⟩
theorem M1.m (z : M1 S L D) (e : mA Z S S1) (hi : ∀ x, x ∈ [0, 1, 3, 4] → ¬ x ∈ Z) : M1 S1 L D := ⟨z.1.m e (hi 0 (by decide)) (hi 1 (by decide)), z.2.m e (hi 3 (by decide)) (hi 4 (by decide))⟩
theorem M2.m (z : M2 S T Y P Rs Rt sett Sd) (e : mA Z S S1) (hi : ∀ x, x ∈ [24, 25, 26, 51, 52, 53, 54, 57, 59, 60] → ¬ x ∈ Z) : M2 S1 T Y P Rs Rt sett Sd := ⟨z.1.m e (hi 51 (by decide)) (hi 52 (by decide)) (hi 53 (by decide)) (hi 54 (by decide)), z.2.1.m e (hi 24 (by decide)) (hi 25 (by decide)) (hi 26 (by decide)), z.2.2.1.m e (hi 57 (by decide)), z.2.2.2.m e (hi 59 (by decide)) (hi 60 (by decide))⟩
theorem M2.pre (z : M2 S T Y P Rs Rt sett Sd) (hT : T <+: T1) (hY : Y <+: Y1) : M2 S T1 Y1 P Rs Rt sett Sd := ⟨z.1.pre hT hY, z.2.1.pre hT hY, z.2.2.1, z.2.2.2.pre hT⟩
theorem M3.m (z : M3 S T Y st9 lim q) (e : mA Z S S1) (hi : ∀ x, x ∈ [58, 61, 62, 63, 64, 65, 66, 67, 68, 69, 70, 71, 72, 73, 74] → ¬ x ∈ Z) : M3 S1 T Y st9 lim q := ⟨(e.isStarted (hi 61 (by decide))).trans z.1, z.2.1.m e (hi 58 (by decide)), z.2.2.1.m e (hi 63 (by decide)) (hi 64 (by decide)), z.2.2.2.1.m e (hi 62 (by decide)) (hi 67 (by decide)) (hi 68 (by decide)) (hi 69 (by decide)) (hi 70 (by decide)) (hi 74 (by decide)), z.2.2.2.2.1.m e (hi 71 (by decide)) (hi 72 (by decide)) (hi 73 (by decide)), z.2.2.2.2.2.m e (hi 65 (by decide)) (hi 66 (by decide))⟩
theorem M3.pre (z : M3 S T Y st9 lim q) (hT : T <+: T1) (hY : Y <+: Y1) : M3 S T1 Y1 st9 lim q := ⟨z.1, z.2.1, z.2.2.1.pre hT hY, z.2.2.2.1.pre hT, z.2.2.2.2.1.pre hT, z.2.2.2.2.2.pre hT hY⟩
theorem M3.cq (z : M3 S T Y st9 lim q) (hM : tbM S T Y U) (h2 : M2 S T Y P Rs Rt sett Sd) : cqM S T Y U P Rs Rt lim q := ⟨⟨hM, h2.1, h2.2.1, z.2.1, z.2.2.1, z.2.2.2.1, z.2.2.2.2.1⟩, z.2.2.2.2.2⟩
theorem M3.of (z : cqM S T Y U P Rs Rt lim q) (hs : S.isStarted = st9) : M3 S T Y st9 lim q := ⟨hs, z.1.2.2.2.1, z.1.2.2.2.2.1, z.1.2.2.2.2.2.1, z.1.2.2.2.2.2.2, z.2⟩
theorem M4.m (z : M4 S T Y K0 pn H) (e : mA Z S S1) (hi : ∀ x, x ∈ [75, 76, 77, 78, 79, 80, 81, 83, 84, 85, 86] → ¬ x ∈ Z) : M4 S1 T Y K0 pn H := ⟨z.1.m e (fun x hx => hi x ((by decide : ∀ x, x ∈ [75, 76, 77, 78, 79, 80, 81, 83] → x ∈ [75, 76, 77, 78, 79, 80, 81, 83, 84, 85, 86]) x hx)), z.2.m e (hi 84 (by decide)) (hi 85 (by decide)) (hi 86 (by decide))⟩
theorem M4.pre (z : M4 S T Y K0 pn H) (hT : T <+: T1) (hY : Y <+: Y1) : M4 S T1 Y1 K0 pn H := ⟨z.1.pre hT hY, z.2⟩
theorem tbM.m (z : tbM S T Y U) (e : mA Z S S1) (hi : ∀ x, x ∈ [5, 6, 7, 8, 19, 20, 21, 22, 23] → ¬ x ∈ Z) : tbM S1 T Y U := ⟨z.1.m e (hi 5 (by decide)) (hi 6 (by decide)) (hi 7 (by decide)) (hi 8 (by decide)), z.2.1, z.2.2.1, z.2.2.2.m e (hi 19 (by decide)) (hi 20 (by decide)) (hi 21 (by decide)) (hi 22 (by decide)) (hi 23 (by decide))⟩
theorem tbM.mo (z : tbM S T Y U) (hs : ∀ x, x ∈ U → x ∈ U1) : tbM S T Y U1 := ⟨z.1, z.2.1, fun x hx => hs x (z.2.2.1 x hx), z.2.2.2⟩
theorem pag_wf (hp : pagM S T Y P) (hM : tbM S T Y U) (hY : yOK Y) : wfP P := by
  refine ⟨⟨hp.2.1, hp.2.2.1⟩, fun k hk => ?_⟩
  obtain ⟨⟨ka, a1, -, a3⟩, ⟨-, b2⟩, y, c1, -, c3⟩ := hp.2.2.2 k hk
  refine ⟨by rw [← a3]; exact hM.2.1 _ (gT_mem a1), ?_, ?_, b2⟩
  · rw [← c3]; exact hM.2.2.2.2.2.2 y c1
  · rw [← c3]; exact (hY.2 y c1).2
theorem rul_wf (hp : rulM S T Y Rs Rt) (hM : tbM S T Y U) : rsO Rs := fun x hx => by
  obtain ⟨k, hk, e⟩ := List.getElem_of_mem hx
  obtain ⟨⟨ka, a1, -, a3⟩, -⟩ := hp.2.2.2 k hk
  refine ⟨gT T ka, hM.2.1 _ (gT_mem a1), ?_⟩
  rw [a3, ← e]
  unfold gT
  rw [List.getD_eq_getElem?_getD, List.getElem?_eq_getElem hk]
  rfl
theorem okz : okQ (rlz L) := by
  unfold rlz
  split
  · exact rlT_okf _ _ okQ_0
  · exact rlT_okf _ _ okQ_0
theorem wfW_of (h2 : M2 S T Y P Rs Rt sett Sd) (hM : tbM S T Y U) (hY : yOK Y) (hl : Rt.length = Rs.length) : wfW P Rs Rt := ⟨pag_wf h2.1 hM hY, rul_wf h2.2.1 hM, h2.2.1.2.1, hl, fun _ _ => okz⟩
theorem mem_l : ∀ x, x ∈ U → x ∈ U ++ adU L := fun x hx => List.mem_append_left _ hx
theorem mem_r : ∀ x, x ∈ adU L → x ∈ U ++ adU L := fun x hx => List.mem_append_right _ hx
theorem PU.nx (z : PU j w Y U L P Rt Rs sett Sd st9 lim q K0 H) (h27 : w1.2 27 = w.2 27) (h98 : w1.2 98 = w.2 98) : PU (j + 1) w1 Y U L P Rt Rs sett Sd st9 lim q K0 H := by
  obtain ⟨a1, a2, ⟨c1, c2⟩, a4, a5, a6, a7, a8, a9, a10⟩ := z
  exact ⟨a1, a2, ⟨fun h9 => ⟨(c1 h9).1, (c1 h9).2.1, (c1 h9).2.2.1, (c1 h9).2.2.2.1, Nat.le_succ_of_le (c1 h9).2.2.2.2⟩, c2⟩, by omega, by omega, by omega, by omega, by omega, by omega, by omega⟩
theorem PU.us (z : PU j w Y U L P Rt Rs sett Sd st9 lim q K0 H) (h27 : w1.2 27 ≤ w.2 27 + (248 + L.length)) (h98 : w1.2 98 = w.2 98) : PU (j + 1) w1 Y (U ++ adU L) [] P Rt Rs sett Sd st9 lim q K0 H := by
  obtain ⟨a1, ⟨b1, b2, b3, b4, b5⟩, ⟨c1, c2⟩, a4, a5, a6, a7, a8, a9, a10⟩ := z
  have hl := adU_len (L := L)
  refine ⟨a1, ⟨b1, b2.mo mem_l, b3, fun i hi => (b4 i hi).mo mem_l, b5⟩, ⟨fun h9 => ?_, c2⟩, ?_, ?_, by omega, by omega, ?_, by omega, by omega⟩
  · obtain ⟨d1, d2, d3, d4, d5⟩ := c1 h9
    exact ⟨d1, d2, d3, ⟨d4.1.mo mem_l, d4.2.mo mem_l⟩, by omega⟩
  · rw [List.length_append]; show _ + 0 ≤ _; omega
  · show _ + 0 ≤ _; omega
  · show _ + 0 ≤ _; omega
theorem PU.bd (z : PU j w Y U L P Rt Rs sett Sd st9 lim q K0 H) (hj : j < 512) : (U ++ adU L).length < 3500 ∧ U.length < 3500 ∧ ofs Y Y.length + L.length ≤ 24000 ∧ Y.length < 1100 := by
  obtain ⟨a1, ⟨b1, b2, b3, b4, b5⟩, ⟨c1, c2⟩, a4, a5, a6, a7, a8, a9, a10⟩ := z
  have hl := adU_len (L := L)
  rw [List.length_append]
  exact ⟨by omega, by omega, by omega, by omega⟩
theorem C1_p3 {D1 : List Int32} (z : C1 w h L D) (f : fr w w1 h h1 [3]) (b : bE w1 h1 3 3 D1) : C1 w1 h1 L D1 := by
  obtain ⟨a1, a2, a3, a4, a5, Tx, a6⟩ := z
  exact ⟨a1.fr f (by decide), a2.fr f (by decide), b, a4.fr f (by decide), a5.fr f (by decide), Tx, a6.fr f (by decide) (by decide)⟩
theorem inv_mk (hA : A.length = 84) (ho : OW w1) (c1 : C1 w1 (mput A S B) L D) (c2 : C2 w1 (mput A S B) P Rs Rt sett Sd) (c3 : C3 w1 (mput A S B) st9 lim q) (c4 : C4 w1 (mput A S B) K0 pn H) (c5 : C5 w1 (mput A S B)) (m1 : M1 S1 L D) (m2 : M2 S1 T Y P Rs Rt sett Sd) (m3 : M3 S1 T Y st9 lim q) (m4 : M4 S1 T Y K0 pn H) (hM : tbM S1 T Y U) (hp : PU j w1 Y U L P Rt Rs sett Sd st9 lim q K0 H) (hr : RM w1 (mput A S B)) : INV j (mput A S1 B) := by
  have f := af_M (S := S) (S1 := S1) (B := B) hA ho
  exact ⟨w1, A, S1, B, T, Y, U, L, D, P, Rs, Rt, sett, Sd, st9, lim, q, K0, pn, H, ⟨hA, rfl, ho⟩, ⟨c1.fr f (by decide), c2.fr f (by decide) (by decide), c3.fr f (by decide), c4.fr f (by decide), c5.fr f (by decide)⟩, ⟨m1, m2, m3, m4, hM⟩, hp, hr.fr f⟩
end D1S
