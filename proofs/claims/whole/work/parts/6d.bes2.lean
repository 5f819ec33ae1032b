/-! ===== the model's readBeside, its path and host ===== -/
theorem bw_sl {D : List Int32} {f t : Nat} (h : gx D f = 47) (ht : f < t) : f < bw (nev 47) D f t := by
  unfold bw
  obtain ⟨n, hn⟩ : ∃ n, t - f = n + 1 := ⟨t - f - 1, by omega⟩
  rw [hn]
  clear hn ht t
  induction n with
  | zero =>
    show f < (if nev 47 (gx D (f + 0)) = true then bwd (nev 47) D f 0 else f + (0 + 1))
    rw [Nat.add_zero, if_neg (by rw [nev_f h]; decide)]
    omega
  | succ n ih =>
    show f < (if nev 47 (gx D (f + (n + 1))) = true then bwd (nev 47) D f (n + 1) else f + (n + 1 + 1))
    split
    · exact ih
    · omega
section BET
variable {X : am_X} {d s t ca f k : Nat} {A B : List va_E} {S : MS} {L : List Int32} {T : List (List Int32)}
theorem v_M_readBeside {Q : Option Value → List va_E → Prop} (hA : A.length = 84) (hT : adT S T) (hk : k < T.length) (hh7 : 7 ≤ hen (gT T k)) (h47 : gx (gT T k) (hen (gT T k)) = 47) : ∀ n i : Nat, i = hen (gT T k) + 1 + n → i ≤ (gT T k).length → am_G X mt_M_readBeside (d + 3) 165 [some (.ref 84), some (.ref ca), some (.int (nI (s + f))), some (.int (nI (s + t))), some (.int (nI k)), none, some (.int (nI ((ofs T k) + ((gT T k).length)))), some (.int (nI ((ofs T k) + (hen (gT T k))))), some (.int (nI ((ofs T k) + (bmk (gT T k))))), some (.int (nI (s + (fw (nev 63) L f t)))), some (.int (nI ((ofs T k) + (bw (nev 47) (gT T k) (hen (gT T k)) i))))] [] (mput A S B) Q → am_G X mt_M_readBeside (d + 3) 165 [some (.ref 84), some (.ref ca), some (.int (nI (s + f))), some (.int (nI (s + t))), some (.int (nI k)), none, some (.int (nI ((ofs T k) + ((gT T k).length)))), some (.int (nI ((ofs T k) + (hen (gT T k))))), some (.int (nI ((ofs T k) + (bmk (gT T k))))), some (.int (nI (s + (fw (nev 63) L f t)))), some (.int (nI ((ofs T k) + i)))] [] (mput A S B) Q
  | 0, i, e, hl, K => by
    obtain rfl : i = hen (gT T k) + 1 := by omega
    rw [bw_f (Nat.le_refl _) (by rw [nev_f h47]; decide)] at K
    exact K
  | n + 1, i, e, hl, K => by
    obtain ⟨j, rfl⟩ : ∃ j, i = j + 1 := ⟨i - 1, by omega⟩
    have h8 := hT.2.2.2.1 k hk
    have ho := adT.of hT k (by omega)
    have hTl := hT.2.2.1
    by_cases hp : nev 47 (gx (gT T k) j) = true
    · rw [bw_t (by omega) hp] at K
      refine g_aload_n (pc := 165) dc_M_readBeside_165 rfl ?_
      refine g_getfield (pc := 166) dc_M_readBeside_166 fl_M_41 (mp_o hA) rfl ?_
      refine g_iload (pc := 169) dc_M_readBeside_169 rfl ?_
      refine g_iconst (pc := 171) (v := 1) dc_M_readBeside_171 rfl ?_
      refine g_isub (pc := 172) (v := (nI ((ofs T k) + j))) dc_M_readBeside_172 (q_sn (s := ofs T k) (a := j + 1) (b := 1) (by omega)) ?_
      refine q_tx (pc := 173) j dc_M_readBeside_173 (mp_a hA 3 rfl) (hT.2.1 k hk).2.2 (by omega) (by omega) (by omega) ?_
      refine g_bipush (pc := 174) (v := 47) dc_M_readBeside_174 rfl ?_
      refine g_icmp_eq (pc := 176) (tgt := 185) dc_M_readBeside_176 rfl (fun hc => absurd hc (fun h9 => by rw [nev_f h9] at hp; cases hp)) (fun hc176 => ?_)
      refine g_iinc (pc := 179) (v := (nI ((ofs T k) + j))) dc_M_readBeside_179 rfl (q_sm1 (s := ofs T k) (a := j + 1) (by omega)) (by decide) ?_
      show am_G X mt_M_readBeside _ 182 [some (.ref 84), some (.ref ca), some (.int (nI (s + f))), some (.int (nI (s + t))), some (.int (nI k)), none, some (.int (nI ((ofs T k) + ((gT T k).length)))), some (.int (nI ((ofs T k) + (hen (gT T k))))), some (.int (nI ((ofs T k) + (bmk (gT T k))))), some (.int (nI (s + (fw (nev 63) L f t)))), some (.int (nI ((ofs T k) + j)))] [] _ _
      refine g_goto (pc := 182) (tgt := 165) dc_M_readBeside_182 rfl ?_
      exact v_M_readBeside hA hT hk hh7 h47 n j (by omega) (by omega) K
    · rw [bw_f (by omega) hp] at K
      exact K
theorem p_M_readBeside (hA : A.length = 84) (hT : adT S T) (hk : k < T.length) (hX : txO A B S ca s L) (hca : ca ≠ 92 ∧ ca ≠ 93) (hbL : btg L) (hbD : btg (gT T k)) (hft : f ≤ t) (ht : t ≤ L.length) (hL8 : L.length ≤ 8000) (hok : hen (gT T k) < (gT T k).length ∧ hen (gT T k) ≤ 80) : am_G X mt_M_readBeside (d + 3) 105 [some (.ref 84), some (.ref ca), some (.int (nI (s + f))), some (.int (nI (s + t))), some (.int (nI k)), none, some (.int (nI ((ofs T k) + ((gT T k).length)))), some (.int (nI ((ofs T k) + (hen (gT T k))))), some (.int (nI ((ofs T k) + (bmk (gT T k))))), some (.int (nI (s + (fw (nev 63) L f t)))), none] [] (mput A S B) (fun r h1 => ∃ S1, r = none ∧ h1 = mput A S1 B ∧ scA S S1 ∧ S1.host = S.host ∧ S1.hostLength = S.hostLength ∧ S1.pathLength = (bsP L f t (gT T k)).length ∧ tx S1.path 0 (bsP L f t (gT T k)) ∧ S1.queryLength = (bsQ L f t (gT T k)).map List.length ∧ tx S1.query 0 ((bsQ L f t (gT T k)).getD [])) := by
  have h8 := hT.2.2.2.1 k hk
  have ho := adT.of hT k (by omega)
  have hTl := hT.2.2.1
  have hh := hen_bd h8.1
  have hbm := fw_bd (p := nev 63) (L := gT T k) (f := hen (gT T k)) (t := (gT T k).length) (by omega)
  rw [show fw (nev 63) (gT T k) (hen (gT T k)) (gT T k).length = bmk (gT T k) from rfl] at hbm
  have hmb := fw_bd (p := nev 63) (L := L) hft
  have hbs : s + L.length < 2 ^ 30 := by obtain ⟨cp, g, -, -, q1, q2⟩ := hX.tt; omega
  have hta := hT.tt (B := B) hA hk
  have h47 : gx (gT T k) (hen (gT T k)) = 47 := Decidable.not_not.mp (fun h9 => by have h7 := fw_out (p := nev 47) (L := gT T k) (f := 7) (t := (gT T k).length) hok.1; rw [show fw (nev 47) (gT T k) 7 (gT T k).length = hen (gT T k) from rfl, nev_t h9] at h7; cases h7)
  have hbh : hen (gT T k) < bmk (gT T k) := by
    rcases Nat.eq_or_lt_of_le hbm.1 with e9 | e9
    · have h7 := fw_out (p := nev 63) (L := gT T k) (f := hen (gT T k)) (t := (gT T k).length) (by rw [show fw (nev 63) (gT T k) (hen (gT T k)) (gT T k).length = bmk (gT T k) from rfl]; omega)
      rw [show fw (nev 63) (gT T k) (hen (gT T k)) (gT T k).length = bmk (gT T k) from rfl, ← e9, h47] at h7
      exact absurd h7 (by decide)
    · exact e9
  have ha9 := hX.tt
  obtain ⟨cap, g, ha, hTx, hs, hc⟩ := ha9
  refine g_iload (pc := 105) dc_M_readBeside_105 rfl ?_
  refine g_iload_n (pc := 107) dc_M_readBeside_107 rfl ?_
  refine q_icmp_ne (pc := 108) (tgt := 134) (s + (fw (nev 63) L f t)) (s + f) dc_M_readBeside_108 (by omega) (by omega) rfl (fun hc108 => ?_) (fun hc108 => ?_)
  · refine g_aload_n (pc := 134) dc_M_readBeside_134 rfl ?_
    refine g_iload_n (pc := 135) dc_M_readBeside_135 rfl ?_
    refine q_tx (pc := 136) f dc_M_readBeside_136 ha hTx hs (by omega) hc ?_
    refine g_bipush (pc := 137) (v := 47) dc_M_readBeside_137 rfl ?_
    refine g_icmp_ne (pc := 139) (tgt := 161) dc_M_readBeside_139 rfl (fun hc139 => ?_) (fun hc139 => ?_)
    · refine g_iload (pc := 161) dc_M_readBeside_161 rfl ?_
      refine g_istore (pc := 163) dc_M_readBeside_163 (by decide) ?_
      show am_G X mt_M_readBeside _ 165 [some (.ref 84), some (.ref ca), some (.int (nI (s + f))), some (.int (nI (s + t))), some (.int (nI k)), none, some (.int (nI ((ofs T k) + ((gT T k).length)))), some (.int (nI ((ofs T k) + (hen (gT T k))))), some (.int (nI ((ofs T k) + (bmk (gT T k))))), some (.int (nI (s + (fw (nev 63) L f t)))), some (.int (nI ((ofs T k) + (bmk (gT T k)))))] [] _ _
      refine v_M_readBeside hA hT hk hh.1 h47 (bmk (gT T k) - (hen (gT T k) + 1)) (bmk (gT T k)) (by omega) (by omega) ?_
      have hlb := bw_bd (p := nev 47) (L := gT T k) (f := hen (gT T k)) (t := bmk (gT T k)) (by omega)
      have hlo : hen (gT T k) < bw (nev 47) (gT T k) (hen (gT T k)) (bmk (gT T k)) → nev 47 (gx (gT T k) (bw (nev 47) (gT T k) (hen (gT T k)) (bmk (gT T k)) - 1)) = false := bw_out (p := nev 47) (L := gT T k) (f := hen (gT T k)) (bmk (gT T k) - hen (gT T k))
      have hlh : hen (gT T k) < bw (nev 47) (gT T k) (hen (gT T k)) (bmk (gT T k)) := bw_sl h47 (by omega)
      have hul := uf_len (L := gT T k) (t := bw (nev 47) (gT T k) (hen (gT T k)) (bmk (gT T k))) (bw (nev 47) (gT T k) (hen (gT T k)) (bmk (gT T k)) - hen (gT T k)) (hen (gT T k)) (Nat.le_refl _)
      refine g_aload_n (pc := 165) dc_M_readBeside_165 rfl ?_
      refine g_getfield (pc := 166) dc_M_readBeside_166 fl_M_41 (mp_o hA) rfl ?_
      refine g_iload (pc := 169) dc_M_readBeside_169 rfl ?_
      refine g_iconst (pc := 171) (v := 1) dc_M_readBeside_171 rfl ?_
      refine g_isub (pc := 172) (v := (nI ((ofs T k) + (bw (nev 47) (gT T k) (hen (gT T k)) (bmk (gT T k)) - 1)))) dc_M_readBeside_172 (q_sn (s := ofs T k) (a := bw (nev 47) (gT T k) (hen (gT T k)) (bmk (gT T k))) (b := 1) (by omega)) ?_
      refine q_tx (pc := 173) (bw (nev 47) (gT T k) (hen (gT T k)) (bmk (gT T k)) - 1) dc_M_readBeside_173 (mp_a hA 3 rfl) (hT.2.1 k hk).2.2 (by omega) (by omega) (by omega) ?_
      refine g_bipush (pc := 174) (v := 47) dc_M_readBeside_174 rfl ?_
      refine g_icmp_eq (pc := 176) (tgt := 185) dc_M_readBeside_176 rfl (fun hc176 => ?_) (fun hc => absurd hc (fun h9 => by have h7 := hlo hlh; rw [nev_t h9] at h7; cases h7))
      refine g_aload_n (pc := 185) dc_M_readBeside_185 rfl ?_
      refine g_aload_n (pc := 186) dc_M_readBeside_186 rfl ?_
      refine g_getfield (pc := 187) dc_M_readBeside_187 fl_M_41 (mp_o hA) rfl ?_
      refine g_iload (pc := 190) dc_M_readBeside_190 rfl ?_
      refine g_iload (pc := 192) dc_M_readBeside_192 rfl ?_
      refine g_aload_n (pc := 194) dc_M_readBeside_194 rfl ?_
      refine g_getfield (pc := 195) dc_M_readBeside_195 fl_M_91 (mp_o hA) rfl ?_
      refine g_iconst (pc := 198) (v := 0) dc_M_readBeside_198 rfl ?_
      refine g_s5 (pc := 199) (M' := mt_M_unfold) dc_M_readBeside_199 mo_M_unfold st_M_unfold ln_M_94 (Nat.le_of_ble_eq_true rfl) (Nat.le_of_ble_eq_true rfl) (am_G.mono (c_M_unfold_path (d := d) (S := S) (L := gT T k) (f := hen (gT T k)) (t := bw (nev 47) (gT T k) (hen (gT T k)) (bmk (gT T k))) (n := 0) (a := 87) (s := ofs T k) hA hbD (by omega) (by omega) (by omega) hta (by omega)) ?_)
      intro r h1 hq
      rw [hq.1, hq.2]
      clear hq h1 r
      refine ⟨am_nti _, ?_⟩
      rw [Nat.zero_add]
      refine pf_pathLength (pc := 202) (v := (uf (gT T k) (hen (gT T k)) (bw (nev 47) (gT T k) (hen (gT T k)) (bmk (gT T k)))).length) hA dc_M_readBeside_202 fp_M_readBeside_98 ?_
      refine g_aload_n (pc := 205) dc_M_readBeside_205 rfl ?_
      refine g_aload_n (pc := 206) dc_M_readBeside_206 rfl ?_
      refine g_iload_n (pc := 207) dc_M_readBeside_207 rfl ?_
      refine g_iload (pc := 208) dc_M_readBeside_208 rfl ?_
      refine g_aload_n (pc := 210) dc_M_readBeside_210 rfl ?_
      refine g_getfield (pc := 211) dc_M_readBeside_211 fl_M_91 (mp_o hA) rfl ?_
      refine g_aload_n (pc := 214) dc_M_readBeside_214 rfl ?_
      refine g_getfield (pc := 215) dc_M_readBeside_215 fl_M_98 (mp_o hA) rfl ?_
      refine g_s5 (pc := 218) (M' := mt_M_unfold) dc_M_readBeside_218 mo_M_unfold st_M_unfold ln_M_94 (Nat.le_of_ble_eq_true rfl) (Nat.le_of_ble_eq_true rfl) (am_G.mono (c_M_unfold_path (d := d) (S := ((S.s_path (wrt S.path 0 (uf (gT T k) (hen (gT T k)) (bw (nev 47) (gT T k) (hen (gT T k)) (bmk (gT T k)))))).s_pathLength (uf (gT T k) (hen (gT T k)) (bw (nev 47) (gT T k) (hen (gT T k)) (bmk (gT T k)))).length)) (L := L) (f := f) (t := fw (nev 63) L f t) (n := (uf (gT T k) (hen (gT T k)) (bw (nev 47) (gT T k) (hen (gT T k)) (bmk (gT T k)))).length) (a := ca) (s := s) hA hbL (by omega) (by omega) (by omega) (hX.sc (scA.pa _ _ _)).tt (by omega)) ?_)
      intro r h1 hq
      rw [hq.1, hq.2]
      clear hq h1 r
      refine ⟨am_nti _, ?_⟩
      refine pf_pathLength (pc := 221) (v := (uf (gT T k) (hen (gT T k)) (bw (nev 47) (gT T k) (hen (gT T k)) (bmk (gT T k)))).length + (uf L f (fw (nev 63) L f t)).length) hA dc_M_readBeside_221 fp_M_readBeside_98 ?_
      have hP : bsP L f t (gT T k) = (uf (gT T k) (hen (gT T k)) (bw (nev 47) (gT T k) (hen (gT T k)) (bmk (gT T k)))) ++ uf L f (fw (nev 63) L f t) := by unfold bsP; rw [if_neg (by omega), if_neg hc139]
      rw [hP]
      have hs1 : ((((S.s_path (wrt S.path 0 (uf (gT T k) (hen (gT T k)) (bw (nev 47) (gT T k) (hen (gT T k)) (bmk (gT T k)))))).s_pathLength (uf (gT T k) (hen (gT T k)) (bw (nev 47) (gT T k) (hen (gT T k)) (bmk (gT T k)))).length).s_path (wrt ((S.s_path (wrt S.path 0 (uf (gT T k) (hen (gT T k)) (bw (nev 47) (gT T k) (hen (gT T k)) (bmk (gT T k)))))).s_pathLength (uf (gT T k) (hen (gT T k)) (bw (nev 47) (gT T k) (hen (gT T k)) (bmk (gT T k)))).length).path (uf (gT T k) (hen (gT T k)) (bw (nev 47) (gT T k) (hen (gT T k)) (bmk (gT T k)))).length (uf L f (fw (nev 63) L f t)))).s_pathLength ((uf (gT T k) (hen (gT T k)) (bw (nev 47) (gT T k) (hen (gT T k)) (bmk (gT T k)))).length + (uf L f (fw (nev 63) L f t)).length)) = ((S.s_path (wrt S.path 0 ((uf (gT T k) (hen (gT T k)) (bw (nev 47) (gT T k) (hen (gT T k)) (bmk (gT T k)))) ++ uf L f (fw (nev 63) L f t)))).s_pathLength ((uf (gT T k) (hen (gT T k)) (bw (nev 47) (gT T k) (hen (gT T k)) (bmk (gT T k)))) ++ uf L f (fw (nev 63) L f t)).length) := by
        rw [show ((S.s_path (wrt S.path 0 (uf (gT T k) (hen (gT T k)) (bw (nev 47) (gT T k) (hen (gT T k)) (bmk (gT T k)))))).s_pathLength (uf (gT T k) (hen (gT T k)) (bw (nev 47) (gT T k) (hen (gT T k)) (bmk (gT T k)))).length).path = wrt S.path 0 (uf (gT T k) (hen (gT T k)) (bw (nev 47) (gT T k) (hen (gT T k)) (bmk (gT T k)))) from rfl, wrt_app S.path 0 (uf (gT T k) (hen (gT T k)) (bw (nev 47) (gT T k) (hen (gT T k)) (bmk (gT T k)))) _ (by rw [Nat.zero_add]), List.length_append]
        rfl
      rw [hs1]
      refine am_wk (am_le_s (am_le_s (am_le_s (am_le_s (am_le_s (am_le_n (am_le_s (am_le_n (am_le_s (am_le_s (am_le_n am_le_0))))))))))) ?_
      refine am_G.mono (q_M_readBeside (D := gT T k) (S := ((S.s_path (wrt S.path 0 ((uf (gT T k) (hen (gT T k)) (bw (nev 47) (gT T k) (hen (gT T k)) (bmk (gT T k)))) ++ uf L f (fw (nev 63) L f t)))).s_pathLength ((uf (gT T k) (hen (gT T k)) (bw (nev 47) (gT T k) (hen (gT T k)) (bmk (gT T k)))) ++ uf L f (fw (nev 63) L f t)).length)) hA (hT.sc (scA.pa _ _ _)) hk rfl (hX.sc (scA.pa _ _ _)) hca hbL hbD hft ht hL8 hok) (fun r h1 hq => ?_)
      obtain ⟨S2, q0, q1, q2, q3, q4, q5, q6, q7, q8⟩ := hq
      exact ⟨S2, q0, q1, scA.tr (scA.pa _ _ _) q2, q3, q4, q6, by rw [q5]; exact wrt_tx _ _ _, q7, q8⟩
    · refine g_aload_n (pc := 142) dc_M_readBeside_142 rfl ?_
      refine g_aload_n (pc := 143) dc_M_readBeside_143 rfl ?_
      refine g_iload_n (pc := 144) dc_M_readBeside_144 rfl ?_
      refine g_iload (pc := 145) dc_M_readBeside_145 rfl ?_
      refine g_aload_n (pc := 147) dc_M_readBeside_147 rfl ?_
      refine g_getfield (pc := 148) dc_M_readBeside_148 fl_M_91 (mp_o hA) rfl ?_
      refine g_iconst (pc := 151) (v := 0) dc_M_readBeside_151 rfl ?_
      refine g_s5 (pc := 152) (M' := mt_M_unfold) dc_M_readBeside_152 mo_M_unfold st_M_unfold ln_M_94 (Nat.le_of_ble_eq_true rfl) (Nat.le_of_ble_eq_true rfl) (am_G.mono (c_M_unfold_path (d := d) (S := S) (L := L) (f := f) (t := fw (nev 63) L f t) (n := 0) (a := ca) (s := s) hA hbL (by omega) (by omega) (by omega) hX.tt (by omega)) ?_)
      intro r h1 hq
      rw [hq.1, hq.2]
      clear hq h1 r
      refine ⟨am_nti _, ?_⟩
      rw [Nat.zero_add]
      refine pf_pathLength (pc := 155) (v := (uf L f (fw (nev 63) L f t)).length) hA dc_M_readBeside_155 fp_M_readBeside_98 ?_
      refine g_goto (pc := 158) (tgt := 224) dc_M_readBeside_158 rfl ?_
      have hP : bsP L f t (gT T k) = uf L f (fw (nev 63) L f t) := by unfold bsP; rw [if_neg (by omega), if_pos hc139]
      rw [hP]
      refine am_wk (am_le_s (am_le_s (am_le_s (am_le_s (am_le_s (am_le_n (am_le_s (am_le_n (am_le_s (am_le_s (am_le_n am_le_0))))))))))) ?_
      refine am_G.mono (q_M_readBeside (D := gT T k) (S := ((S.s_path (wrt S.path 0 (uf L f (fw (nev 63) L f t)))).s_pathLength (uf L f (fw (nev 63) L f t)).length)) hA (hT.sc (scA.pa _ _ _)) hk rfl (hX.sc (scA.pa _ _ _)) hca hbL hbD hft ht hL8 hok) (fun r h1 hq => ?_)
      obtain ⟨S2, q0, q1, q2, q3, q4, q5, q6, q7, q8⟩ := hq
      exact ⟨S2, q0, q1, scA.tr (scA.pa _ _ _) q2, q3, q4, q6, by rw [q5]; exact wrt_tx _ _ _, q7, q8⟩
  · refine g_aload_n (pc := 111) dc_M_readBeside_111 rfl ?_
    refine g_aload_n (pc := 112) dc_M_readBeside_112 rfl ?_
    refine g_getfield (pc := 113) dc_M_readBeside_113 fl_M_41 (mp_o hA) rfl ?_
    refine g_iload (pc := 116) dc_M_readBeside_116 rfl ?_
    refine g_iload (pc := 118) dc_M_readBeside_118 rfl ?_
    refine g_aload_n (pc := 120) dc_M_readBeside_120 rfl ?_
    refine g_getfield (pc := 121) dc_M_readBeside_121 fl_M_91 (mp_o hA) rfl ?_
    refine g_iconst (pc := 124) (v := 0) dc_M_readBeside_124 rfl ?_
    refine g_s5 (pc := 125) (M' := mt_M_unfold) dc_M_readBeside_125 mo_M_unfold st_M_unfold ln_M_94 (Nat.le_of_ble_eq_true rfl) (Nat.le_of_ble_eq_true rfl) (am_G.mono (c_M_unfold_path (d := d) (S := S) (L := gT T k) (f := hen (gT T k)) (t := bmk (gT T k)) (n := 0) (a := 87) (s := ofs T k) hA hbD (by omega) (by omega) (by omega) hta (by omega)) ?_)
    intro r h1 hq
    rw [hq.1, hq.2]
    clear hq h1 r
    refine ⟨am_nti _, ?_⟩
    rw [Nat.zero_add]
    refine pf_pathLength (pc := 128) (v := (uf (gT T k) (hen (gT T k)) (bmk (gT T k))).length) hA dc_M_readBeside_128 fp_M_readBeside_98 ?_
    refine g_goto (pc := 131) (tgt := 224) dc_M_readBeside_131 rfl ?_
    have hP : bsP L f t (gT T k) = uf (gT T k) (hen (gT T k)) (bmk (gT T k)) := by unfold bsP; rw [if_pos (by omega)]
    rw [hP]
    refine am_wk (am_le_s (am_le_s (am_le_s (am_le_s (am_le_s (am_le_n (am_le_s (am_le_n (am_le_s (am_le_s (am_le_n am_le_0))))))))))) ?_
    refine am_G.mono (q_M_readBeside (D := gT T k) (S := ((S.s_path (wrt S.path 0 (uf (gT T k) (hen (gT T k)) (bmk (gT T k))))).s_pathLength (uf (gT T k) (hen (gT T k)) (bmk (gT T k))).length)) hA (hT.sc (scA.pa _ _ _)) hk rfl (hX.sc (scA.pa _ _ _)) hca hbL hbD hft ht hL8 hok) (fun r h1 hq => ?_)
    obtain ⟨S2, q0, q1, q2, q3, q4, q5, q6, q7, q8⟩ := hq
    exact ⟨S2, q0, q1, scA.tr (scA.pa _ _ _) q2, q3, q4, q6, by rw [q5]; exact wrt_tx _ _ _, q7, q8⟩
theorem w_M_readBeside {Q : Option Value → List va_E → Prop} (hA : A.length = 84) (hT : adT S T) (hk : k < T.length) (hbD : btg (gT T k)) (hok : hen (gT T k) < (gT T k).length ∧ hen (gT T k) ≤ 80) : ∀ n i : Nat, i + n = hen (gT T k) → 7 ≤ i → am_G X mt_M_readBeside (d + 3) 41 [some (.ref 84), some (.ref ca), some (.int (nI (s + f))), some (.int (nI (s + t))), some (.int (nI k)), none, some (.int (nI ((ofs T k) + ((gT T k).length)))), some (.int (nI ((ofs T k) + (hen (gT T k))))), some (.int (nI ((ofs T k) + (hen (gT T k))))), none, none] [] (mput A ((S.s_hostLength ((hen (gT T k)) - 7)).s_host (wrt S.host 0 (sub (gT T k) 7 (hen (gT T k))))) B) Q → am_G X mt_M_readBeside (d + 3) 41 [some (.ref 84), some (.ref ca), some (.int (nI (s + f))), some (.int (nI (s + t))), some (.int (nI k)), none, some (.int (nI ((ofs T k) + ((gT T k).length)))), some (.int (nI ((ofs T k) + (hen (gT T k))))), some (.int (nI ((ofs T k) + i))), none, none] [] (mput A ((S.s_hostLength (i - 7)).s_host (wrt S.host 0 (sub (gT T k) 7 i))) B) Q
  | 0, i, e9, hfi, K => by
    obtain rfl : i = hen (gT T k) := by omega
    exact K
  | n + 1, i, e9, hfi, K => by
    have h8 := hT.2.2.2.1 k hk
    have ho := adT.of hT k (by omega)
    have hTl := hT.2.2.1
    refine g_iload (pc := 41) dc_M_readBeside_41 rfl ?_
    refine g_iload (pc := 43) dc_M_readBeside_43 rfl ?_
    refine q_icmp_ge (pc := 45) (tgt := 80) ((ofs T k) + i) ((ofs T k) + (hen (gT T k))) dc_M_readBeside_45 (by omega) (by omega) rfl (fun hc => absurd hc (by omega)) (fun hc45 => ?_)
    refine g_aload_n (pc := 48) dc_M_readBeside_48 rfl ?_
    refine g_getfield (pc := 49) dc_M_readBeside_49 fl_M_67 (mp_o hA) rfl ?_
    refine g_aload_n (pc := 52) dc_M_readBeside_52 rfl ?_
    refine g_getfield (pc := 53) dc_M_readBeside_53 fl_M_64 (mp_o hA) rfl ?_
    refine g_aload_n (pc := 56) dc_M_readBeside_56 rfl ?_
    refine g_getfield (pc := 57) dc_M_readBeside_57 fl_M_41 (mp_o hA) rfl ?_
    refine g_iload (pc := 60) dc_M_readBeside_60 rfl ?_
    refine q_tx (pc := 62) i dc_M_readBeside_62 (mp_a hA 3 rfl) (hT.2.1 k hk).2.2 (by omega) (by omega) (by omega) ?_
    refine asE_host (pc := 63) (i - 7) (g := wrt S.host 0 (sub (gT T k) 7 (i + 1))) hA dc_M_readBeside_63 (by omega) (by rw [sub_snoc hfi (by omega)]; exact wrt_put (nar_bt (hbD i)) (by rw [sub_len (by omega), Nat.zero_add])) ?_
    rw [MS.ss_host]
    refine g_aload_n (pc := 64) dc_M_readBeside_64 rfl ?_
    refine g_dup (pc := 65) dc_M_readBeside_65 rfl ?_
    refine g_getfield (pc := 66) dc_M_readBeside_66 fl_M_64 (mp_o hA) rfl ?_
    refine g_iconst (pc := 69) (v := 1) dc_M_readBeside_69 rfl ?_
    refine g_iadd (pc := 70) (v := (nI (i + 1 - 7))) dc_M_readBeside_70 ((nI_add (i - 7) 1).trans (congrArg nI (by omega))) ?_
    refine pf_hostLength (pc := 71) (v := i + 1 - 7) hA dc_M_readBeside_71 fp_M_readBeside_64 ?_
    refine g_iinc (pc := 74) (v := (nI ((ofs T k) + (i + 1)))) dc_M_readBeside_74 rfl (q_as (ofs T k) i 1) (by decide) ?_
    show am_G X mt_M_readBeside _ 77 [some (.ref 84), some (.ref ca), some (.int (nI (s + f))), some (.int (nI (s + t))), some (.int (nI k)), none, some (.int (nI ((ofs T k) + ((gT T k).length)))), some (.int (nI ((ofs T k) + (hen (gT T k))))), some (.int (nI ((ofs T k) + (i + 1)))), none, none] [] _ _
    refine g_goto (pc := 77) (tgt := 41) dc_M_readBeside_77 rfl ?_
    exact w_M_readBeside hA hT hk hbD hok n (i + 1) (by omega) (by omega) K
theorem c_M_readBeside (hA : A.length = 84) (hT : adT S T) (hk : k < T.length) (hX : txO A B S ca s L) (hca : ca ≠ 92 ∧ ca ≠ 93) (hbL : btg L) (hbD : btg (gT T k)) (hft : f ≤ t) (ht : t ≤ L.length) (hL8 : L.length ≤ 8000) (hok : hen (gT T k) < (gT T k).length ∧ hen (gT T k) ≤ 80) : am_C X mt_M_readBeside (d + 3) [.ref 84, .ref ca, .int (nI (s + f)), .int (nI (s + t)), .int (nI k)] (mput A S B) (fun r h1 => ∃ S1, r = none ∧ h1 = mput A S1 B ∧ scA S S1 ∧ S1.hostLength = (sub (gT T k) 7 (hen (gT T k))).length ∧ tx S1.host 0 (sub (gT T k) 7 (hen (gT T k))) ∧ S1.pathLength = (bsP L f t (gT T k)).length ∧ tx S1.path 0 (bsP L f t (gT T k)) ∧ S1.queryLength = (bsQ L f t (gT T k)).map List.length ∧ tx S1.query 0 ((bsQ L f t (gT T k)).getD [])) := by
  show am_G X mt_M_readBeside (d + 3) 0 [some (.ref 84), some (.ref ca), some (.int (nI (s + f))), some (.int (nI (s + t))), some (.int (nI k)), none, none, none, none, none, none] [] (mput A S B) _
  have h8 := hT.2.2.2.1 k hk
  have ho := adT.of hT k (by omega)
  have hTl := hT.2.2.1
  have hh := hen_bd h8.1
  have hbm := fw_bd (p := nev 63) (L := gT T k) (f := hen (gT T k)) (t := (gT T k).length) (by omega)
  rw [show fw (nev 63) (gT T k) (hen (gT T k)) (gT T k).length = bmk (gT T k) from rfl] at hbm
  have hmb := fw_bd (p := nev 63) (L := L) hft
  have hbs : s + L.length < 2 ^ 30 := by obtain ⟨cp, g, -, -, q1, q2⟩ := hX.tt; omega
  have hta := hT.tt (B := B) hA hk
  have h47 : gx (gT T k) (hen (gT T k)) = 47 := Decidable.not_not.mp (fun h9 => by have h7 := fw_out (p := nev 47) (L := gT T k) (f := 7) (t := (gT T k).length) hok.1; rw [show fw (nev 47) (gT T k) 7 (gT T k).length = hen (gT T k) from rfl, nev_t h9] at h7; cases h7)
  have hbh : hen (gT T k) < bmk (gT T k) := by
    rcases Nat.eq_or_lt_of_le hbm.1 with e9 | e9
    · have h7 := fw_out (p := nev 63) (L := gT T k) (f := hen (gT T k)) (t := (gT T k).length) (by rw [show fw (nev 63) (gT T k) (hen (gT T k)) (gT T k).length = bmk (gT T k) from rfl]; omega)
      rw [show fw (nev 63) (gT T k) (hen (gT T k)) (gT T k).length = bmk (gT T k) from rfl, ← e9, h47] at h7
      exact absurd h7 (by decide)
    · exact e9
  refine g_aload_n (pc := 0) dc_M_readBeside_0 rfl ?_
  refine g_getfield (pc := 1) dc_M_readBeside_1 fl_M_31 (mp_o hA) rfl ?_
  refine g_iload (pc := 4) dc_M_readBeside_4 rfl ?_
  refine q_ialoadV (pc := 6) k dc_M_readBeside_6 (mp_a hA 4 rfl) (by omega) (by omega) (v := (nI (ofs T k))) (hT.2.1 k (by omega)).1 ?_
  refine g_istore (pc := 7) dc_M_readBeside_7 (by decide) ?_
  show am_G X mt_M_readBeside _ 9 [some (.ref 84), some (.ref ca), some (.int (nI (s + f))), some (.int (nI (s + t))), some (.int (nI k)), some (.int (nI (ofs T k))), none, none, none, none, none] [] _ _
  refine g_iload (pc := 9) dc_M_readBeside_9 rfl ?_
  refine g_aload_n (pc := 11) dc_M_readBeside_11 rfl ?_
  refine g_getfield (pc := 12) dc_M_readBeside_12 fl_M_35 (mp_o hA) rfl ?_
  refine g_iload (pc := 15) dc_M_readBeside_15 rfl ?_
  refine q_ialoadV (pc := 17) k dc_M_readBeside_17 (mp_a hA 5 rfl) (by omega) (by omega) (v := (nI ((gT T k).length))) (hT.2.1 k (by omega)).2.1 ?_
  refine g_iadd (pc := 18) (v := (nI ((ofs T k) + ((gT T k).length)))) dc_M_readBeside_18 (nI_add (ofs T k) (gT T k).length) ?_
  refine g_istore (pc := 19) dc_M_readBeside_19 (by decide) ?_
  show am_G X mt_M_readBeside _ 21 [some (.ref 84), some (.ref ca), some (.int (nI (s + f))), some (.int (nI (s + t))), some (.int (nI k)), some (.int (nI (ofs T k))), some (.int (nI ((ofs T k) + ((gT T k).length)))), none, none, none, none] [] _ _
  refine g_aload_n (pc := 21) dc_M_readBeside_21 rfl ?_
  refine g_iload (pc := 22) dc_M_readBeside_22 rfl ?_
  refine g_v1 (pc := 24) (M' := mt_M_hostEnd) dc_M_readBeside_24 mo_M_hostEnd im_M_hostEnd se_M_hostEnd ln_M_52 (mp_o hA) rfl rfl (Nat.le_of_ble_eq_true rfl) (Nat.le_of_ble_eq_true rfl) (am_G.mono (c_M_hostEnd (d := d + 1) (k := k) hA hT hk) ?_)
  intro r h1 hq
  rw [hq.1, hq.2]
  clear hq h1 r
  refine ⟨am_nti _, ?_⟩
  refine g_istore (pc := 27) dc_M_readBeside_27 (by decide) ?_
  show am_G X mt_M_readBeside _ 29 [some (.ref 84), some (.ref ca), some (.int (nI (s + f))), some (.int (nI (s + t))), some (.int (nI k)), some (.int (nI (ofs T k))), some (.int (nI ((ofs T k) + ((gT T k).length)))), some (.int (nI ((ofs T k) + (hen (gT T k))))), none, none, none] [] _ _
  refine g_aload_n (pc := 29) dc_M_readBeside_29 rfl ?_
  refine g_iconst (pc := 30) (v := 0) dc_M_readBeside_30 rfl ?_
  refine pf_hostLength (pc := 31) (v := 0) hA dc_M_readBeside_31 fp_M_readBeside_64 ?_
  refine g_iload (pc := 34) dc_M_readBeside_34 rfl ?_
  refine g_bipush (pc := 36) (v := 7) dc_M_readBeside_36 rfl ?_
  refine g_iadd (pc := 38) (v := (nI ((ofs T k) + 7))) dc_M_readBeside_38 (nI_add (ofs T k) 7) ?_
  refine g_istore (pc := 39) dc_M_readBeside_39 (by decide) ?_
  show am_G X mt_M_readBeside _ 41 [some (.ref 84), some (.ref ca), some (.int (nI (s + f))), some (.int (nI (s + t))), some (.int (nI k)), some (.int (nI (ofs T k))), some (.int (nI ((ofs T k) + ((gT T k).length)))), some (.int (nI ((ofs T k) + (hen (gT T k))))), some (.int (nI ((ofs T k) + 7))), none, none] [] _ _
  have hK : am_G X mt_M_readBeside (d + 3) 41 [some (.ref 84), some (.ref ca), some (.int (nI (s + f))), some (.int (nI (s + t))), some (.int (nI k)), none, some (.int (nI ((ofs T k) + ((gT T k).length)))), some (.int (nI ((ofs T k) + (hen (gT T k))))), some (.int (nI ((ofs T k) + 7))), none, none] [] (mput A ((S.s_hostLength (7 - 7)).s_host (wrt S.host 0 (sub (gT T k) 7 7))) B) (fun r h1 => ∃ S1, r = none ∧ h1 = mput A S1 B ∧ scA S S1 ∧ S1.hostLength = (sub (gT T k) 7 (hen (gT T k))).length ∧ tx S1.host 0 (sub (gT T k) 7 (hen (gT T k))) ∧ S1.pathLength = (bsP L f t (gT T k)).length ∧ tx S1.path 0 (bsP L f t (gT T k)) ∧ S1.queryLength = (bsQ L f t (gT T k)).map List.length ∧ tx S1.query 0 ((bsQ L f t (gT T k)).getD [])) := by
    refine w_M_readBeside hA hT hk hbD hok (hen (gT T k) - 7) 7 (by omega) (Nat.le_refl _) ?_
    refine g_iload (pc := 41) dc_M_readBeside_41 rfl ?_
    refine g_iload (pc := 43) dc_M_readBeside_43 rfl ?_
    refine q_icmp_ge (pc := 45) (tgt := 80) ((ofs T k) + (hen (gT T k))) ((ofs T k) + (hen (gT T k))) dc_M_readBeside_45 (by omega) (by omega) rfl (fun hc45 => ?_) (fun hc => absurd hc (by omega))
    refine g_aload_n (pc := 80) dc_M_readBeside_80 rfl ?_
    refine g_getfield (pc := 81) dc_M_readBeside_81 fl_M_41 (mp_o hA) rfl ?_
    refine g_iload (pc := 84) dc_M_readBeside_84 rfl ?_
    refine g_iload (pc := 86) dc_M_readBeside_86 rfl ?_
    refine g_bipush (pc := 88) (v := 63) dc_M_readBeside_88 rfl ?_
    refine g_s4 (pc := 90) (M' := mt_M_seek) dc_M_readBeside_90 mo_M_seek st_M_seek ln_M_48 (Nat.le_of_ble_eq_true rfl) (Nat.le_of_ble_eq_true rfl) (am_G.mono (t_M_seek (s := ofs T k) (L := gT T k) (f := hen (gT T k)) (t := (gT T k).length) (v := 63) ((hT.sc (scA.hh _ _ _)).tt hA hk) (by omega) (by omega)) ?_)
    intro r h1 hq
    rw [hq.1, hq.2]
    clear hq h1 r
    refine ⟨am_nti _, ?_⟩
    refine g_istore (pc := 93) dc_M_readBeside_93 (by decide) ?_
    show am_G X mt_M_readBeside _ 95 [some (.ref 84), some (.ref ca), some (.int (nI (s + f))), some (.int (nI (s + t))), some (.int (nI k)), none, some (.int (nI ((ofs T k) + ((gT T k).length)))), some (.int (nI ((ofs T k) + (hen (gT T k))))), some (.int (nI ((ofs T k) + (bmk (gT T k))))), none, none] [] _ _
    refine g_aload_n (pc := 95) dc_M_readBeside_95 rfl ?_
    refine g_iload_n (pc := 96) dc_M_readBeside_96 rfl ?_
    refine g_iload_n (pc := 97) dc_M_readBeside_97 rfl ?_
    refine g_bipush (pc := 98) (v := 63) dc_M_readBeside_98 rfl ?_
    refine g_s4 (pc := 100) (M' := mt_M_seek) dc_M_readBeside_100 mo_M_seek st_M_seek ln_M_48 (Nat.le_of_ble_eq_true rfl) (Nat.le_of_ble_eq_true rfl) (am_G.mono (t_M_seek (s := s) (L := L) (f := f) (t := t) (v := 63) (hX.sc (scA.hh _ _ _)).tt hft ht) ?_)
    intro r h1 hq
    rw [hq.1, hq.2]
    clear hq h1 r
    refine ⟨am_nti _, ?_⟩
    refine g_istore (pc := 103) dc_M_readBeside_103 (by decide) ?_
    show am_G X mt_M_readBeside _ 105 [some (.ref 84), some (.ref ca), some (.int (nI (s + f))), some (.int (nI (s + t))), some (.int (nI k)), none, some (.int (nI ((ofs T k) + ((gT T k).length)))), some (.int (nI ((ofs T k) + (hen (gT T k))))), some (.int (nI ((ofs T k) + (bmk (gT T k))))), some (.int (nI (s + (fw (nev 63) L f t)))), none] [] _ _
    refine am_G.mono (p_M_readBeside (S := ((S.s_hostLength ((hen (gT T k)) - 7)).s_host (wrt S.host 0 (sub (gT T k) 7 (hen (gT T k)))))) hA (hT.sc (scA.hh _ _ _)) hk (hX.sc (scA.hh _ _ _)) hca hbL hbD hft ht hL8 hok) (fun r h1 hq => ?_)
    obtain ⟨S2, q0, q1, q2, q3, q4, q5, q6, q7, q8⟩ := hq
    exact ⟨S2, q0, q1, scA.tr (scA.hh _ _ _) q2, by rw [q4, sub_len (by omega)]; rfl, by rw [q3]; exact wrt_tx _ _ _, q5, q6, q7, q8⟩
  rw [Nat.sub_self, sub_nil (Nat.le_refl 7), wrt_nil] at hK
  refine am_wk (am_le_s (am_le_s (am_le_s (am_le_s (am_le_s (am_le_n (am_le_s (am_le_s (am_le_s (am_le_n (am_le_n am_le_0))))))))))) ?_
  exact hK
end BET
