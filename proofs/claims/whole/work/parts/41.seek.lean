/-! ===== a stretch of an array as a list; where a value stands first ===== -/
def sl (g : Nat → Int32) : Nat → Nat → List Int32
  | _, 0 => []
  | a, n + 1 => g a :: sl g (a + 1) n
def ixL (v : Int32) : List Int32 → Nat
  | [] => 0
  | x :: t => if x = v then 0 else ixL v t + 1
theorem ixL_t {v x : Int32} {t : List Int32} (h : x = v) : ixL v (x :: t) = 0 := if_pos h
theorem ixL_f {v x : Int32} {t : List Int32} (h : ¬ x = v) : ixL v (x :: t) = ixL v t + 1 := if_neg h
theorem ixL_le (v : Int32) : ∀ L : List Int32, ixL v L ≤ L.length
  | [] => Nat.le_refl _
  | x :: t => by
    by_cases h : x = v
    · rw [ixL_t h]; exact Nat.zero_le _
    · rw [ixL_f h, List.length_cons]; exact Nat.succ_le_succ (ixL_le v t)
theorem sl_len (g : Nat → Int32) : ∀ (n a : Nat), (sl g a n).length = n
  | 0, _ => rfl
  | n + 1, a => by show (sl g (a + 1) n).length + 1 = n + 1; rw [sl_len g n (a + 1)]
section AMZ
variable {X : am_X} {d : Nat} {h : List va_E} {v : Int32} {a cap : Nat} {g : Nat → Int32}
theorem l_M_seek (ha : h[a]? = some (.inl (0, cap, .inl g))) (hcap : cap < 2 ^ 31) (f : Nat) : ∀ n i : Nat, i + n ≤ cap → am_G X mt_M_seek d 3 [some (.ref a), some (.int (nI f)), some (.int (nI (i + n))), some (.int v), some (.int (nI i))] [] h (fun r h1 => r = some (.int (nI (i + ixL v (sl g i n)))) ∧ h1 = h)
  | 0, i, hi => by
    refine g_iload (pc := 3) dc_M_seek_3 rfl ?_
    refine g_iload_n (pc := 5) dc_M_seek_5 rfl ?_
    refine g_icmp_ge (pc := 6) (tgt := 23) dc_M_seek_6 rfl (fun _ => ?_) (fun hc => absurd hc (fun h9 => h9 (nI_le (Nat.le_refl _) (by omega))))
    refine g_iload (pc := 23) dc_M_seek_23 rfl ?_
    exact g_ireturn dc_M_seek_25 rfl ⟨rfl, rfl⟩
  | n + 1, i, hi => by
    refine g_iload (pc := 3) dc_M_seek_3 rfl ?_
    refine g_iload_n (pc := 5) dc_M_seek_5 rfl ?_
    refine g_icmp_ge (pc := 6) (tgt := 23) dc_M_seek_6 rfl (fun hc => absurd hc (nI_ge (by omega) (by omega))) (fun _ => ?_)
    refine g_aload_n (pc := 9) dc_M_seek_9 rfl ?_
    refine g_iload (pc := 10) dc_M_seek_10 rfl ?_
    refine g_baload (pc := 12) dc_M_seek_12 ha (vp_in_nI (by omega) hcap) ?_
    rw [nI_clamp (show i < 2 ^ 31 by omega)]
    refine g_iload_n (pc := 13) dc_M_seek_13 rfl ?_
    refine g_icmp_eq (pc := 14) (tgt := 23) dc_M_seek_14 rfl (fun hc14 => ?_) (fun hc14 => ?_)
    · refine g_iload (pc := 23) dc_M_seek_23 rfl ?_
      exact g_ireturn dc_M_seek_25 rfl ⟨by show some (Value.int (nI i)) = some (.int (nI (i + ixL v (g i :: sl g (i + 1) n)))); rw [ixL_t hc14]; rfl, rfl⟩
    · refine g_iinc (pc := 17) dc_M_seek_17 rfl (nI_1 i) (by decide) ?_
      refine g_goto (pc := 20) (tgt := 3) dc_M_seek_20 rfl ?_
      rw [show i + (n + 1) = i + 1 + n by omega]
      refine am_G.mono (l_M_seek ha hcap f n (i + 1) (by omega)) (fun r h1 hq => ⟨?_, hq.2⟩)
      show r = some (Value.int (nI (i + ixL v (g i :: sl g (i + 1) n))))
      rw [hq.1, ixL_f hc14, show i + (ixL v (sl g (i + 1) n) + 1) = i + 1 + ixL v (sl g (i + 1) n) by omega]
theorem c_M_seek {f n : Nat} (ha : h[a]? = some (.inl (0, cap, .inl g))) (hcap : cap < 2 ^ 31) (hn : f + n ≤ cap) : am_C X mt_M_seek d [.ref a, .int (nI f), .int (nI (f + n)), .int v] h (fun r h1 => r = some (.int (nI (f + ixL v (sl g f n)))) ∧ h1 = h) := by
  show am_G X mt_M_seek d 0 [some (.ref a), some (.int (nI f)), some (.int (nI (f + n))), some (.int v), none] [] h _
  refine g_iload_n (pc := 0) dc_M_seek_0 rfl ?_
  refine g_istore (pc := 1) dc_M_seek_1 (by decide) ?_
  exact l_M_seek ha hcap f n f hn
theorem l_W_indexOf (ha : h[a]? = some (.inl (0, cap, .inl g))) (hcap : cap < 2 ^ 31) (f : Nat) : ∀ n i : Nat, i + n ≤ cap → am_G X mt_W_indexOf d 3 [some (.ref a), some (.int v), some (.int (nI f)), some (.int (nI (i + n))), some (.int (nI i))] [] h (fun r h1 => r = some (.int (nI (i + ixL v (sl g i n)))) ∧ h1 = h)
  | 0, i, hi => by
    refine g_iload (pc := 3) dc_W_indexOf_3 rfl ?_
    refine g_iload_n (pc := 5) dc_W_indexOf_5 rfl ?_
    refine g_icmp_ge (pc := 6) (tgt := 23) dc_W_indexOf_6 rfl (fun _ => ?_) (fun hc => absurd hc (fun h9 => h9 (nI_le (Nat.le_refl _) (by omega))))
    refine g_iload (pc := 23) dc_W_indexOf_23 rfl ?_
    exact g_ireturn dc_W_indexOf_25 rfl ⟨rfl, rfl⟩
  | n + 1, i, hi => by
    refine g_iload (pc := 3) dc_W_indexOf_3 rfl ?_
    refine g_iload_n (pc := 5) dc_W_indexOf_5 rfl ?_
    refine g_icmp_ge (pc := 6) (tgt := 23) dc_W_indexOf_6 rfl (fun hc => absurd hc (nI_ge (by omega) (by omega))) (fun _ => ?_)
    refine g_aload_n (pc := 9) dc_W_indexOf_9 rfl ?_
    refine g_iload (pc := 10) dc_W_indexOf_10 rfl ?_
    refine g_baload (pc := 12) dc_W_indexOf_12 ha (vp_in_nI (by omega) hcap) ?_
    rw [nI_clamp (show i < 2 ^ 31 by omega)]
    refine g_iload_n (pc := 13) dc_W_indexOf_13 rfl ?_
    refine g_icmp_eq (pc := 14) (tgt := 23) dc_W_indexOf_14 rfl (fun hc14 => ?_) (fun hc14 => ?_)
    · refine g_iload (pc := 23) dc_W_indexOf_23 rfl ?_
      exact g_ireturn dc_W_indexOf_25 rfl ⟨by show some (Value.int (nI i)) = some (.int (nI (i + ixL v (g i :: sl g (i + 1) n)))); rw [ixL_t hc14]; rfl, rfl⟩
    · refine g_iinc (pc := 17) dc_W_indexOf_17 rfl (nI_1 i) (by decide) ?_
      refine g_goto (pc := 20) (tgt := 3) dc_W_indexOf_20 rfl ?_
      rw [show i + (n + 1) = i + 1 + n by omega]
      refine am_G.mono (l_W_indexOf ha hcap f n (i + 1) (by omega)) (fun r h1 hq => ⟨?_, hq.2⟩)
      show r = some (Value.int (nI (i + ixL v (g i :: sl g (i + 1) n))))
      rw [hq.1, ixL_f hc14, show i + (ixL v (sl g (i + 1) n) + 1) = i + 1 + ixL v (sl g (i + 1) n) by omega]
theorem c_W_indexOf {f n : Nat} (ha : h[a]? = some (.inl (0, cap, .inl g))) (hcap : cap < 2 ^ 31) (hn : f + n ≤ cap) : am_C X mt_W_indexOf d [.ref a, .int v, .int (nI f), .int (nI (f + n))] h (fun r h1 => r = some (.int (nI (f + ixL v (sl g f n)))) ∧ h1 = h) := by
  show am_G X mt_W_indexOf d 0 [some (.ref a), some (.int v), some (.int (nI f)), some (.int (nI (f + n))), none] [] h _
  refine g_iload_n (pc := 0) dc_W_indexOf_0 rfl ?_
  refine g_istore (pc := 1) dc_W_indexOf_1 (by decide) ?_
  exact l_W_indexOf ha hcap f n f hn
end AMZ
