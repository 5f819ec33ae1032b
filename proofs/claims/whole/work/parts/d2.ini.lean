/-! ===== the law: loads of the script; exceptions; the beginning ===== -/
abbrev LO (j : Nat) : am_lo := [some (.retAddr 300), some (.ref 0), some (.ref 84), some (.ref 135), some (.int (nI (6 * j))), none, none]
section D2S
variable {X : am_X} {M : am_Mt} {d pc : Nat} {l : am_lo} {st : List Value} {h : List va_E} {Q : Option Value → List va_E → Prop} {w : Gw} {n : Nat}
theorem g_scr (k : Nat) {p : Int32} (hd : decode M.2.1 pc = .ok (.iaload, 1)) (hk : k < X.2.2.2.2.2.1) (hN : X.2.2.2.2.2.1 ≤ 3072) (hv : X.2.2.2.2.2.2 k = p) (kk : am_G X M d (pc + 1) l (.int p :: st) h Q) : am_G X M d pc l (.int (nI k) :: .retAddr 300 :: st) h Q := g_scriptLoadV hd (vp_in_nI hk (by omega)) (by rw [nI_clamp (by omega)]; exact hv) kk
theorem lg_self (x : Int64) : lg_cmp x x = 0 := by
  unfold lg_cmp
  rw [if_neg (show ¬ x > x from Int64.lt_irrefl), if_pos rfl]
theorem ex_fr (h0 : 1 ≤ w.2 98) (h1 : w.2 98 ≤ 16000) : ∃ w1, fr w w1 h (h ++ [.inr (n, [.null, .null, .null, .null, .null, .null])]) [98] ∧ w1.2 98 = w.2 98 + 16 := by
  have t := tos_up (c := w.2) (i := 98) (v := w.2 98 + 16) 400 (by decide)
  have hl : (h ++ [(.inr (n, [.null, .null, .null, .null, .null, .null]) : va_E)]).length = h.length + 1 := by rw [List.length_append]; rfl
  have hs : am_sl (h ++ [(.inr (n, [.null, .null, .null, .null, .null, .null]) : va_E)]) = am_sl h + 6 := by rw [am_sl_app]; rfl
  refine ⟨(fun k => if h.length ≤ k then 98 else w.1 k, up1 w.2 98 (w.2 98 + 16)), ⟨⟨by omega, fun k hk => ⟨if_neg (by omega), fun _ => List.getElem?_append_left hk⟩⟩, fun i hi => up1_n (fun e => hi (by rw [e]; exact List.mem_singleton_self _)), ?_, ?_, fun i _ => ?_⟩, (show up1 w.2 98 (w.2 98 + 16) 98 = _ from up1_s)⟩
  · show _ ≤ _ + 2 * tos (up1 w.2 98 (w.2 98 + 16)) 400
    omega
  · show _ ≤ _ + tos (up1 w.2 98 (w.2 98 + 16)) 400
    omega
  · by_cases e : i = 98
    · refine Or.inr ⟨Or.inl (by rw [e]; omega), ?_⟩
      show up1 w.2 98 (w.2 98 + 16) i ≤ kb i
      rw [e, up1_s]
      show _ ≤ 40016
      omega
    · exact Or.inl (up1_n e)
end D2S
section D2T
variable {w w1 : Gw} {h h1 : List va_E} {A B : List va_E} {S S1 : MS} {T T1 Y Y1 U U1 : List (List Int32)} {L D : List Int32} {P P1 : List Pg} {Rs Rt : List (List Int32)} {sett lim : Nat → Nat} {Sd : List (List Int32)} {st9 : Bool} {q : Cr} {K0 : Kn} {pn j : Nat} {H : List (Nat × Nat)}
theorem wfK00 : wfK K00 := ⟨Nat.zero_le _, List.nodup_nil, fun x hx => absurd hx List.not_mem_nil, fun i hi => absurd hi (Nat.not_lt_zero i)⟩
theorem wfC00 : wfC K00 c00 := ⟨fun i z hi => absurd hi (Nat.not_lt_zero i), fun z hz => (by cases hz), Nat.le_refl _, Nat.zero_le _, rfl, fun x hx => absurd hx List.not_mem_nil, Nat.le_refl _⟩
theorem wfCz0 : wfC qz0.1 qz0.2.1 := ⟨fun i z hi => absurd hi (Nat.not_lt_zero i), fun z hz => (by cases hz; exact Nat.le_refl _), Nat.le_refl _, Nat.zero_le _, rfl, fun x hx => absurd hx List.not_mem_nil, Nat.le_refl _⟩
theorem PU.qe (z : PU j w Y U L P Rt Rs sett Sd st9 lim q K0 H) : (qC st9 q).1 = q.1 ∧ (qC st9 q).2.1.an = q.2.1.an ∧ (qC st9 q).2.1.aq = q.2.1.aq ∧ (qC st9 q).2.1.ac = q.2.1.ac := by
  cases st9 with
  | true => exact ⟨rfl, rfl, rfl, rfl⟩
  | false => rw [z.2.2.1.2 rfl]; exact ⟨rfl, rfl, rfl, rfl⟩
theorem PU.qw (z : PU j w Y U L P Rt Rs sett Sd st9 lim q K0 H) : wfK q.1 ∧ wfC q.1 q.2.1 ∧ wfC (qC st9 q).1 (qC st9 q).2.1 := by
  cases st9 with
  | true => exact ⟨(z.2.2.1.1 rfl).1.1.1, (z.2.2.1.1 rfl).1.1.2.1, (z.2.2.1.1 rfl).1.1.2.1⟩
  | false => rw [z.2.2.1.2 rfl]; exact ⟨wfK00, wfCz0, wfCz0⟩
theorem inv_s {Z : List Nat} (hA : A.length = 84) (ho : OW w) (c1 : C1 w (mput A S B) L D) (c2 : C2 w (mput A S B) P Rs Rt sett Sd) (c3 : C3 w (mput A S B) st9 lim q) (c4 : C4 w (mput A S B) K0 pn H) (c5 : C5 w (mput A S B)) (m1 : M1 S L D) (m2 : M2 S T Y P Rs Rt sett Sd) (m3 : M3 S T Y st9 lim q) (m4 : M4 S T Y K0 pn H) (hM : tbM S T Y U) (hp : PU j w Y U L P Rt Rs sett Sd st9 lim q K0 H) (hr : RM w (mput A S B)) (e : mA Z S S1) (hz : ∀ x, x ∈ Z → x ∈ [2]) : INV (j + 1) (mput A S1 B) := by
  have e2 : mA [2] S S1 := e.mo hz
  exact inv_mk hA ho c1 c2 c3 c4 c5 (m1.m e2 (by decide)) (m2.m e2 (by decide)) (m3.m e2 (by decide)) (m4.m e2 (by decide)) (hM.m e2 (by decide)) (hp.nx rfl rfl) hr
end D2T
