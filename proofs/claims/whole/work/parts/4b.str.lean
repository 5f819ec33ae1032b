/-! ===== String constants: length, charAt ===== -/
theorem dc_JPreconditions_checkIndex_16 : decode prog_32_method_11_code 16 = .ok (.iload_n 0, 1) := by decide +kernel
theorem dc_JPreconditions_checkIndex_17 : decode prog_32_method_11_code 17 = .ok (.ireturn, 1) := by decide +kernel
/-- byte k of constant i -/
def ch (i k : Nat) : Int32 := (am_si i).2.2.2.getD k 0
def cln (i : Nat) : Nat := (am_si i).2.2.2.length
def chok (b : Int32) : Bool := decide (b &&& 255 = b) && decide ((b.toUInt32 % 65536).toInt32 = b) && decide (0 ≤ b.toInt ∧ b.toInt < 128)
theorem ch_all : am_sc.all (fun s => s.2.2.2.all chok && decide (s.2.2.2.length < 64)) = true := by decide +kernel
theorem ch_len {i : Nat} (hi : i < 42) : cln i < 64 := by
  have h := List.all_eq_true.mp ch_all
  have h1 : am_sc[i]? = some (am_si i) := by
    show am_sc[i]? = some (am_sc.getD i _)
    rw [List.getD_eq_getElem?_getD]
    have : i < am_sc.length := hi
    rw [List.getElem?_eq_getElem this]
    rfl
  have h2 := h _ (List.mem_of_getElem? h1)
  rw [Bool.and_eq_true] at h2
  exact of_decide_eq_true h2.2
theorem ch_ok {i k : Nat} (hi : i < 42) (hk : k < cln i) : chok (ch i k) = true := by
  have h := List.all_eq_true.mp ch_all
  have h1 : am_sc[i]? = some (am_si i) := by
    show am_sc[i]? = some (am_sc.getD i _)
    rw [List.getD_eq_getElem?_getD]
    have : i < am_sc.length := hi
    rw [List.getElem?_eq_getElem this]
    rfl
  have h2 := h _ (List.mem_of_getElem? h1)
  rw [Bool.and_eq_true] at h2
  refine List.all_eq_true.mp h2.1 _ ?_
  show (am_si i).2.2.2.getD k 0 ∈ _
  rw [List.getD_eq_getElem?_getD, List.getElem?_eq_getElem hk]
  exact List.getElem_mem _
section AMX4
variable {X : am_X} {M : am_Mt} {d i k n : Nat} {pc : Nat} {l : am_lo} {h : List va_E} {Q : Option Value → List va_E → Prop}
theorem g_breturn {v : Int32} (hd : decode M.2.1 pc = .ok (.ireturn, 1)) (hr : M.2.2.2 = some .byte) (hv : narrow .byte (.int v) = .int v) (hq : Q (some (.int v)) h) : am_G X M d pc l [.int v] h Q := am_end (am_nti v) hq (fun hx hb hr9 hlk h1 h2 => W.zret hx hb (hr9.trans hr) hv h1 h2 hd hlk)
theorem c_coder (hi : i < 42) : am_C X mt_JString_coder d [.retAddr i] h (fun r h1 => r = some (.int 0) ∧ h1 = h) := by
  show am_G X mt_JString_coder d 0 [some (.retAddr i)] [] h _
  refine g_gsCompact (pc := 0) dc_JString_coder_0 (am_t2 230 rfl rfl) ?_
  refine g_if_eq (pc := 3) (tgt := 13) dc_JString_coder_3 rfl (fun hc => absurd hc (by decide)) (fun _ => ?_)
  refine g_xload_n (pc := 6) dc_JString_coder_6 rfl ?_
  refine g_sCoder (pc := 7) dc_JString_coder_7 hi (am_t4 205 rfl rfl) ?_
  refine g_goto (pc := 10) (tgt := 14) dc_JString_coder_10 rfl ?_
  exact g_breturn dc_JString_coder_14 rfl rfl ⟨rfl, rfl⟩
theorem c_isLatin1 (hi : i < 42) : am_C X mt_JString_isLatin1 d [.retAddr i] h (fun r h1 => r = some (.int 1) ∧ h1 = h) := by
  show am_G X mt_JString_isLatin1 d 0 [some (.retAddr i)] [] h _
  refine g_gsCompact (pc := 0) dc_JString_isLatin1_0 (am_t2 230 rfl rfl) ?_
  refine g_if_eq (pc := 3) (tgt := 17) dc_JString_isLatin1_3 rfl (fun hc => absurd hc (by decide)) (fun _ => ?_)
  refine g_xload_n (pc := 6) dc_JString_isLatin1_6 rfl ?_
  refine g_sCoder (pc := 7) dc_JString_isLatin1_7 hi (am_t4 205 rfl rfl) ?_
  refine g_if_ne (pc := 10) (tgt := 17) dc_JString_isLatin1_10 rfl (fun hc => absurd rfl hc) (fun _ => ?_)
  refine g_iconst (pc := 13) (v := 1) dc_JString_isLatin1_13 rfl ?_
  refine g_goto (pc := 14) (tgt := 18) dc_JString_isLatin1_14 rfl ?_
  exact g_zreturn dc_JString_isLatin1_18 rfl rfl ⟨rfl, rfl⟩
theorem c_strLen (hi : i < 42) : am_C X mt_JString_length (d + 1) [.retAddr i] h (fun r h1 => r = some (.int (nI (cln i))) ∧ h1 = h) := by
  show am_G X mt_JString_length (d + 1) 0 [some (.retAddr i)] [] h _
  refine g_xload_n (pc := 0) dc_JString_length_0 rfl ?_
  refine g_sValue (pc := 1) dc_JString_length_1 hi (am_t4 204 rfl rfl) ?_
  refine g_sLen (pc := 4) (n := nI (cln i)) dc_JString_length_4 hi rfl ?_
  refine g_xload_n (pc := 5) dc_JString_length_5 rfl ?_
  refine g_x0 (pc := 6) (M' := mt_JString_coder) dc_JString_length_6 mo_JString_coder im_JString_coder se_JString_coder (am_t2 236 rfl rfl) hi (Nat.le_of_ble_eq_true rfl) (Nat.le_of_ble_eq_true rfl) (am_G.mono (c_coder hi) ?_)
  intro r h1 hq
  rw [hq.1, hq.2]
  refine ⟨am_nti _, ?_⟩
  refine g_ishr (pc := 9) (v := nI (cln i)) dc_JString_length_9 am_sh0 ?_
  exact g_ireturn dc_JString_length_10 rfl ⟨rfl, rfl⟩
theorem c_preIndex (w : Value) (hk : k < n) (hn : n < 2 ^ 31) (hw : w = .null ∨ w = .retAddr 400) : am_C X mt_JPreconditions_checkIndex d [.int (nI k), .int (nI n), w] h (fun r h1 => r = some (.int (nI k)) ∧ h1 = h) := by
  have e9 : am_fr mt_JPreconditions_checkIndex.2.2.1 [.int (nI k), .int (nI n), w] = [some (.int (nI k)), some (.int (nI n)), some w] := by rcases hw with rfl | rfl <;> rfl
  unfold am_C
  rw [e9]
  refine g_iload_n (pc := 0) dc_JPreconditions_checkIndex_0 rfl ?_
  refine g_if_lt (pc := 1) (tgt := 9) dc_JPreconditions_checkIndex_1 rfl (fun hc => absurd hc (nI_pos (by omega))) (fun _ => ?_)
  refine g_iload_n (pc := 4) dc_JPreconditions_checkIndex_4 rfl ?_
  refine g_iload_n (pc := 5) dc_JPreconditions_checkIndex_5 rfl ?_
  refine g_icmp_lt (pc := 6) (tgt := 16) dc_JPreconditions_checkIndex_6 rfl (fun _ => ?_) (fun hc => absurd (nI_lt hk hn) hc)
  refine g_iload_n (pc := 16) dc_JPreconditions_checkIndex_16 rfl ?_
  exact g_ireturn dc_JPreconditions_checkIndex_17 rfl ⟨rfl, rfl⟩
theorem c_strIndex (hk : k < n) (hn : n < 2 ^ 31) : am_C X mt_JString_checkIndex (d + 1) [.int (nI k), .int (nI n)] h (fun r h1 => r = none ∧ h1 = h) := by
  show am_G X mt_JString_checkIndex (d + 1) 0 [some (.int (nI k)), some (.int (nI n))] [] h _
  refine g_iload_n (pc := 0) dc_JString_checkIndex_0 rfl ?_
  refine g_iload_n (pc := 1) dc_JString_checkIndex_1 rfl ?_
  refine g_gsFmt (pc := 2) dc_JString_checkIndex_2 (am_t3 33 rfl rfl) ?_ ?_
  · refine g_s3 (pc := 5) (M' := mt_JPreconditions_checkIndex) dc_JString_checkIndex_5 mo_JPreconditions_checkIndex st_JPreconditions_checkIndex ln_J_1059 (Nat.le_of_ble_eq_true rfl) (Nat.le_of_ble_eq_true rfl) (am_G.mono (c_preIndex .null hk hn (Or.inl rfl)) ?_)
    intro r h1 hq
    rw [hq.1, hq.2]
    refine ⟨am_nti _, ?_⟩
    refine g_pop (pc := 8) dc_JString_checkIndex_8 rfl ?_
    exact g_return dc_JString_checkIndex_9 rfl ⟨rfl, rfl⟩
  · refine g_s3 (pc := 5) (M' := mt_JPreconditions_checkIndex) dc_JString_checkIndex_5 mo_JPreconditions_checkIndex st_JPreconditions_checkIndex ln_J_1059 (Nat.le_of_ble_eq_true rfl) (Nat.le_of_ble_eq_true rfl) (am_G.mono (c_preIndex (.retAddr 400) hk hn (Or.inr rfl)) ?_)
    intro r h1 hq
    rw [hq.1, hq.2]
    refine ⟨am_nti _, ?_⟩
    refine g_pop (pc := 8) dc_JString_checkIndex_8 rfl ?_
    exact g_return dc_JString_checkIndex_9 rfl ⟨rfl, rfl⟩
theorem c_l1Char (hi : i < 42) (hk : k < cln i) : am_C X mt_JStringLatin1_charAt (d + 2) [.retAddr (100 + i), .int (nI k)] h (fun r h1 => r = some (.int (ch i k)) ∧ h1 = h) := by
  have hl := ch_len hi
  have hok := ch_ok hi hk
  unfold chok at hok
  rw [Bool.and_eq_true, Bool.and_eq_true, decide_eq_true_eq, decide_eq_true_eq, decide_eq_true_eq] at hok
  obtain ⟨⟨o1, o2⟩, o3⟩ := hok
  show am_G X mt_JStringLatin1_charAt (d + 2) 0 [some (.retAddr (100 + i)), some (.int (nI k))] [] h _
  refine g_iload_n (pc := 0) dc_JStringLatin1_charAt_0 rfl ?_
  refine g_xload_n (pc := 1) dc_JStringLatin1_charAt_1 rfl ?_
  refine g_sLen (pc := 2) (n := nI (cln i)) dc_JStringLatin1_charAt_2 hi rfl ?_
  refine g_s2 (pc := 3) (M' := mt_JString_checkIndex) dc_JStringLatin1_charAt_3 mo_JString_checkIndex st_JString_checkIndex ln_J_9 (Nat.le_of_ble_eq_true rfl) (Nat.le_of_ble_eq_true rfl) (am_G.mono (c_strIndex (d := d) hk (by omega)) ?_)
  intro r h1 hq
  rw [hq.1, hq.2]
  refine ⟨am_nt0, ?_⟩
  refine g_xload_n (pc := 6) dc_JStringLatin1_charAt_6 rfl ?_
  refine g_iload_n (pc := 7) dc_JStringLatin1_charAt_7 rfl ?_
  refine g_sLoad (pc := 8) (v := ch i k) dc_JStringLatin1_charAt_8 hi (vp_in_nI hk (by show cln i < _; omega)) (by rw [nI_clamp (by omega)]; rfl) ?_
  refine g_sipush (pc := 9) (v := 255) dc_JStringLatin1_charAt_9 rfl ?_
  refine g_iand (pc := 12) (v := ch i k) dc_JStringLatin1_charAt_12 o1 ?_
  refine g_i2c (pc := 13) (v := ch i k) dc_JStringLatin1_charAt_13 o2 ?_
  exact g_creturn dc_JStringLatin1_charAt_14 rfl (congrArg Value.int o2) ⟨rfl, rfl⟩
theorem c_charAt (hi : i < 42) (hk : k < cln i) : am_C X mt_JString_charAt (d + 3) [.retAddr i, .int (nI k)] h (fun r h1 => r = some (.int (ch i k)) ∧ h1 = h) := by
  have hok := ch_ok hi hk
  unfold chok at hok
  rw [Bool.and_eq_true, Bool.and_eq_true, decide_eq_true_eq, decide_eq_true_eq, decide_eq_true_eq] at hok
  obtain ⟨⟨o1, o2⟩, o3⟩ := hok
  show am_G X mt_JString_charAt (d + 3) 0 [some (.retAddr i), some (.int (nI k))] [] h _
  refine g_xload_n (pc := 0) dc_JString_charAt_0 rfl ?_
  refine g_x0 (pc := 1) (M' := mt_JString_isLatin1) dc_JString_charAt_1 mo_JString_isLatin1 im_JString_isLatin1 se_JString_isLatin1 (am_t2 226 rfl rfl) hi (Nat.le_of_ble_eq_true rfl) (Nat.le_of_ble_eq_true rfl) (am_G.mono (c_isLatin1 hi) ?_)
  intro r h1 hq
  rw [hq.1, hq.2]
  refine ⟨am_nti _, ?_⟩
  refine g_if_eq (pc := 4) (tgt := 16) dc_JString_charAt_4 rfl (fun hc => absurd hc (by decide)) (fun _ => ?_)
  refine g_xload_n (pc := 7) dc_JString_charAt_7 rfl ?_
  refine g_sValue (pc := 8) dc_JString_charAt_8 hi (am_t4 204 rfl rfl) ?_
  refine g_iload_n (pc := 11) dc_JString_charAt_11 rfl ?_
  refine g_s2 (pc := 12) (M' := mt_JStringLatin1_charAt) dc_JString_charAt_12 mo_JStringLatin1_charAt st_JStringLatin1_charAt ln_J_495 (Nat.le_of_ble_eq_true rfl) (Nat.le_of_ble_eq_true rfl) (am_G.mono (c_l1Char (d := d) hi hk) ?_)
  intro r h1 hq
  rw [hq.1, hq.2]
  refine ⟨am_nti _, ?_⟩
  exact g_creturn dc_JString_charAt_15 rfl (congrArg Value.int o2) ⟨rfl, rfl⟩
end AMX4
