set_option maxRecDepth 20000 in
set_option maxHeartbeats 1000000 in
theorem p1_0 {X : am_X} {p0 p1 p2 p3 p4 p5 : Int32} (hl9 : X.1.stackTraces = false) (hL : X.2.2.2.2.2.1 = 6) (e0 : X.2.2.2.2.2.2 (Int32.toNatClampNeg 0) = p0) (e1 : X.2.2.2.2.2.2 (Int32.toNatClampNeg 1) = p1) (e2 : X.2.2.2.2.2.2 (Int32.toNatClampNeg 2) = p2) (e3 : X.2.2.2.2.2.2 (Int32.toNatClampNeg 3) = p3) (e4 : X.2.2.2.2.2.2 (Int32.toNatClampNeg 4) = p4) (e5 : X.2.2.2.2.2.2 (Int32.toNatClampNeg 5) = p5) : am_G X mt_L_law 60 168 lo_0 [] hp_0 (fun r h => r = some (.int 1) ∧ h.length ≤ 600002 ∧ am_sl h ≤ 7302232) := by
  refine g_aload_n (pc := 168) dc_L_law_168 rfl ?_
  refine g_xload_n (pc := 169) dc_L_law_169 rfl ?_
  refine g_iload (pc := 170) dc_L_law_170 rfl ?_
  refine g_iconst (pc := 172) (v := 1) dc_L_law_172 rfl ?_
  refine g_iadd (pc := 173) (v := 1) dc_L_law_173 (by decide) ?_
  refine g_scriptLoadV (pc := 174) dc_L_law_174 (by rw [hL]; exact am_vin rfl) e1 ?_
  refine g_xload_n (pc := 175) dc_L_law_175 rfl ?_
  refine g_iload (pc := 176) dc_L_law_176 rfl ?_
  refine g_iconst (pc := 178) (v := 2) dc_L_law_178 rfl ?_
  refine g_iadd (pc := 179) (v := 2) dc_L_law_179 (by decide) ?_
  refine g_scriptLoadV (pc := 180) dc_L_law_180 (by rw [hL]; exact am_vin rfl) e2 ?_
  refine g_xload_n (pc := 181) dc_L_law_181 rfl ?_
  refine g_iload (pc := 182) dc_L_law_182 rfl ?_
  refine g_iconst (pc := 184) (v := 3) dc_L_law_184 rfl ?_
  refine g_iadd (pc := 185) (v := 3) dc_L_law_185 (by decide) ?_
  refine g_scriptLoadV (pc := 186) dc_L_law_186 (by rw [hL]; exact am_vin rfl) e3 ?_
  refine g_xload_n (pc := 187) dc_L_law_187 rfl ?_
  refine g_iload (pc := 188) dc_L_law_188 rfl ?_
  refine g_iconst (pc := 190) (v := 4) dc_L_law_190 rfl ?_
  refine g_iadd (pc := 191) (v := 4) dc_L_law_191 (by decide) ?_
  refine g_scriptLoadV (pc := 192) dc_L_law_192 (by rw [hL]; exact am_vin rfl) e4 ?_
  refine g_xload_n (pc := 193) dc_L_law_193 rfl ?_
  refine g_iload (pc := 194) dc_L_law_194 rfl ?_
  refine g_iconst (pc := 196) (v := 5) dc_L_law_196 rfl ?_
  refine g_iadd (pc := 197) (v := 5) dc_L_law_197 (by decide) ?_
  refine g_scriptLoadV (pc := 198) dc_L_law_198 (by rw [hL]; exact am_vin rfl) e5 ?_
  refine sw_feed (Nat.le_of_ble_eq_true rfl) (Nat.le_of_ble_eq_true rfl) ?_
  refine g_aload_n (pc := 0) dc_L_feed_0 rfl ?_
  refine g_iload_n (pc := 1) dc_L_feed_1 rfl ?_
  refine g_iload_n (pc := 2) dc_L_feed_2 rfl ?_
  refine g_iload_n (pc := 3) dc_L_feed_3 rfl ?_
  refine g_iload (pc := 4) dc_L_feed_4 rfl ?_
  refine g_iload (pc := 6) dc_L_feed_6 rfl ?_
  refine ct_feed rfl (Nat.le_of_ble_eq_true rfl) ?_
  have e7 : hB hp_0 1 2 256 (fun _ => 0) 0 = hp_0 := hB_is rfl rfl
  rw [← e7]
  refine c_W_feed0 (x := 0) (fs := [.ref 1, .ref 3, .ref 5, .ref 7, .ref 12, .ref 26, .ref 29, .ref 30, .ref 34, .ref 59, .ref 77]) rfl rfl (by decide) (by decide) (by decide) (by decide) (by decide) (by decide) (by decide) (by decide) (Or.inl ⟨am_nt0, ?_⟩)
  refine g_goto (pc := 11) (tgt := 18) dc_L_feed_11 rfl ?_
  refine g_iconst (pc := 18) (v := 0) dc_L_feed_18 rfl ?_
  refine g_iretC (pc := 19) dc_L_feed_19 rfl ?_
  refine g_istore (pc := 202) dc_L_law_202 (by decide) ?_
  refine g_aload_n (pc := 204) dc_L_law_204 rfl ?_
  refine g_xload_n (pc := 205) dc_L_law_205 rfl ?_
  refine g_iload (pc := 206) dc_L_law_206 rfl ?_
  refine g_iconst (pc := 208) (v := 1) dc_L_law_208 rfl ?_
  refine g_iadd (pc := 209) (v := 1) dc_L_law_209 (by decide) ?_
  refine g_scriptLoadV (pc := 210) dc_L_law_210 (by rw [hL]; exact am_vin rfl) e1 ?_
  refine g_xload_n (pc := 211) dc_L_law_211 rfl ?_
  refine g_iload (pc := 212) dc_L_law_212 rfl ?_
  refine g_iconst (pc := 214) (v := 2) dc_L_law_214 rfl ?_
  refine g_iadd (pc := 215) (v := 2) dc_L_law_215 (by decide) ?_
  refine g_scriptLoadV (pc := 216) dc_L_law_216 (by rw [hL]; exact am_vin rfl) e2 ?_
  refine g_xload_n (pc := 217) dc_L_law_217 rfl ?_
  refine g_iload (pc := 218) dc_L_law_218 rfl ?_
  refine g_iconst (pc := 220) (v := 3) dc_L_law_220 rfl ?_
  refine g_iadd (pc := 221) (v := 3) dc_L_law_221 (by decide) ?_
  refine g_scriptLoadV (pc := 222) dc_L_law_222 (by rw [hL]; exact am_vin rfl) e3 ?_
  refine g_xload_n (pc := 223) dc_L_law_223 rfl ?_
  refine g_iload (pc := 224) dc_L_law_224 rfl ?_
  refine g_iconst (pc := 226) (v := 4) dc_L_law_226 rfl ?_
  refine g_iadd (pc := 227) (v := 4) dc_L_law_227 (by decide) ?_
  refine g_scriptLoadV (pc := 228) dc_L_law_228 (by rw [hL]; exact am_vin rfl) e4 ?_
  refine g_xload_n (pc := 229) dc_L_law_229 rfl ?_
  refine g_iload (pc := 230) dc_L_law_230 rfl ?_
  refine g_iconst (pc := 232) (v := 5) dc_L_law_232 rfl ?_
  refine g_iadd (pc := 233) (v := 5) dc_L_law_233 (by decide) ?_
  refine g_scriptLoadV (pc := 234) dc_L_law_234 (by rw [hL]; exact am_vin rfl) e5 ?_
  have e8 : hC (hB hp_0 1 2 256 (up20 (fun _ => 0) 0 p1 p2 p3 p4 p5) 20) 84 85 [.ref 85, .int 0, .int 0, .ref 86, .int 0, .ref 87, .ref 88, .ref 89, .int 0, .ref 90, .int 0, .ref 91, .ref 92, .ref 93, .ref 94, .ref 95, .int 0, .int 0, .int 0, .ref 96, .int 0, .ref 97, .ref 98, .int 0, .ref 99, .ref 100, .int 0, .int 0, .int 0, .int 0, .ref 101, .int 0, .ref 102, .int 0, .int 0, .ref 103, .int 0, .ref 104, .ref 105, .ref 106, .int 0, .ref 107, .ref 108, .ref 109, .int 0, .int 0, .int 0, .int 0, .int 0, .int 0, .int 0, .ref 110, .ref 111, .ref 112, .int 0, .ref 113, .int 0, .ref 114, .ref 115, .ref 116, .int 0, .int 0, .int 0, .ref 117, .int 0, .ref 118, .int 0, .int 0, .int 0, .ref 119, .ref 120, .ref 121, .ref 122, .int 0, .int 0, .int 0, .ref 123, .ref 124, .ref 125, .ref 126, .ref 127, .ref 128, .ref 129, .ref 130, .int 0, .ref 131, .ref 132, .ref 133, .ref 134, .int 0] (fun _ => 0) 0 = hB hp_0 1 2 256 (up20 (fun _ => 0) 0 p1 p2 p3 p4 p5) 20 := hC_is (hB_k (by decide) (by decide) rfl) rfl (hB_k (by decide) (by decide) rfl)
  show am_G X mt_L_law 60 235 _ _ (hB hp_0 1 2 256 (up20 (fun _ => 0) 0 p1 p2 p3 p4 p5) 20) _
  rw [← e8]
  refine g_virtual (pc := 235) (M' := mt_M_feed) (vs := [.int p1, .int p2, .int p3, .int p4, .int p5]) (rest := []) dc_L_law_235 mo_M_feed im_M_feed se_M_feed ln_L_30 (hC_a (by rw [hB_len]; decide)) rfl rfl rfl (Nat.le_of_ble_eq_true rfl) (by decide) (c_M_feed0 (by decide) (by rw [hB_len]; decide) (by rw [hB_len]; decide) rfl rfl (by decide)) ?_
  rintro r h1 ⟨rfl, rfl⟩
  refine ⟨am_nt0, ?_⟩
  refine g_aload_n (pc := 238) dc_L_law_238 rfl ?_
  refine g_v0 (pc := 239) (M' := mt_M_thrown) dc_L_law_239 mo_M_thrown im_M_thrown se_M_thrown ln_L_31 rfl rfl rfl (Nat.le_of_ble_eq_true rfl) (Nat.le_of_ble_eq_true rfl) ?_
  refine g_aload_n (pc := 0) dc_M_thrown_0 rfl ?_
  refine g_getfield (pc := 1) dc_M_thrown_1 fl_M_1 rfl rfl ?_
  refine g_iretC (pc := 4) dc_M_thrown_4 rfl ?_
  refine g_iload (pc := 242) dc_L_law_242 rfl ?_
  refine g_icmp_eq (pc := 244) (tgt := 249) dc_L_law_244 rfl (fun _ => ?_) (fun hc => absurd hc (by decide))
  refine g_goto (pc := 249) (tgt := 873) dc_L_law_249 rfl ?_
  refine g_iinc (pc := 873) (v := 6) dc_L_law_873 rfl (by decide) (by decide) ?_
  refine g_goto (pc := 876) (tgt := 23) dc_L_law_876 rfl ?_
  refine g_iload (pc := 23) dc_L_law_23 rfl ?_
  refine g_xload_n (pc := 25) dc_L_law_25 rfl ?_
  refine g_scriptLenV (pc := 26) (n := 6) dc_L_law_26 hL rfl ?_
  refine g_bipush (pc := 27) (v := 6) dc_L_law_27 rfl ?_
  refine g_isub (pc := 29) (v := 0) dc_L_law_29 (by decide) ?_
  refine g_icmp_gt (pc := 30) (tgt := 879) dc_L_law_30 rfl (fun _ => ?_) (fun hc => absurd hc (by decide))
  refine g_iconst (pc := 879) (v := 1) dc_L_law_879 rfl ?_
  exact g_zreturn dc_L_law_880 rfl rfl ⟨rfl, (Nat.le_of_ble_eq_true rfl), am_bz (by (repeat (first | refine am_bw rfl ?_ | refine am_bA rfl ?_ | refine am_bB rfl ?_ | refine am_bC rfl ?_)); exact am_b0 (Nat.le_of_ble_eq_true rfl))⟩
set_option maxRecDepth 20000 in
set_option maxHeartbeats 1000000 in
theorem p1_1 {X : am_X} {p0 p1 p2 p3 p4 p5 : Int32} (hl9 : X.1.stackTraces = false) (hL : X.2.2.2.2.2.1 = 6) (e0 : X.2.2.2.2.2.2 (Int32.toNatClampNeg 0) = p0) (e1 : X.2.2.2.2.2.2 (Int32.toNatClampNeg 1) = p1) (e2 : X.2.2.2.2.2.2 (Int32.toNatClampNeg 2) = p2) (e3 : X.2.2.2.2.2.2 (Int32.toNatClampNeg 3) = p3) (e4 : X.2.2.2.2.2.2 (Int32.toNatClampNeg 4) = p4) (e5 : X.2.2.2.2.2.2 (Int32.toNatClampNeg 5) = p5) : am_G X mt_L_law 60 252 lo_0 [] hp_0 (fun r h => r = some (.int 1) ∧ h.length ≤ 600002 ∧ am_sl h ≤ 7302232) := by
  refine g_aload_n (pc := 252) dc_L_law_252 rfl ?_
  refine g_xload_n (pc := 253) dc_L_law_253 rfl ?_
  refine g_iload (pc := 254) dc_L_law_254 rfl ?_
  refine g_iconst (pc := 256) (v := 1) dc_L_law_256 rfl ?_
  refine g_iadd (pc := 257) (v := 1) dc_L_law_257 (by decide) ?_
  refine g_scriptLoadV (pc := 258) dc_L_law_258 (by rw [hL]; exact am_vin rfl) e1 ?_
  refine g_aload_n (pc := 259) dc_L_law_259 rfl ?_
  refine sw_end (Nat.le_of_ble_eq_true rfl) (Nat.le_of_ble_eq_true rfl) ?_
  refine g_aload_n (pc := 0) dc_L_end_0 rfl ?_
  refine g_iconst (pc := 1) (v := 0) dc_L_end_1 rfl ?_
  refine g_aload_n (pc := 2) dc_L_end_2 rfl ?_
  refine g_iload_n (pc := 3) dc_L_end_3 rfl ?_
  refine ct_end (Nat.le_of_ble_eq_true rfl) rfl (Nat.le_of_ble_eq_true rfl) ?_
  refine g_iload_n (pc := 0) dc_W_end_0 rfl ?_
  refine g_if_lt (pc := 1) (tgt := 15) dc_W_end_1 rfl (fun hc0 => ?_) (fun hc0 => ?_)
  · have hi0 : p1.toInt < 0 := Int32.lt_iff_toInt_lt.mp hc0
    refine th_end hl9 (Nat.le_of_ble_eq_true rfl) (Or.inr ⟨rfl, (Nat.le_of_ble_eq_true rfl), ?_⟩)
    refine g_astore_n (pc := 12) dc_L_end_12 (by decide) ?_
    refine g_iconst (pc := 13) (v := 1) dc_L_end_13 rfl ?_
    refine g_iretC (pc := 14) dc_L_end_14 rfl ?_
    refine g_istore (pc := 263) dc_L_law_263 (by decide) ?_
    refine g_aload_n (pc := 265) dc_L_law_265 rfl ?_
    refine g_xload_n (pc := 266) dc_L_law_266 rfl ?_
    refine g_iload (pc := 267) dc_L_law_267 rfl ?_
    refine g_iconst (pc := 269) (v := 1) dc_L_law_269 rfl ?_
    refine g_iadd (pc := 270) (v := 1) dc_L_law_270 (by decide) ?_
    refine g_scriptLoadV (pc := 271) dc_L_law_271 (by rw [hL]; exact am_vin rfl) e1 ?_
    refine g_v1 (pc := 272) (M' := mt_M_end) dc_L_law_272 mo_M_end im_M_end se_M_end ln_L_38 rfl rfl rfl (Nat.le_of_ble_eq_true rfl) (Nat.le_of_ble_eq_true rfl) ?_
    refine g_aload_n (pc := 0) dc_M_end_0 rfl ?_
    refine g_iload_n (pc := 1) dc_M_end_1 rfl ?_
    refine g_if_lt (pc := 2) (tgt := 13) dc_M_end_2 rfl (fun _ => ?_) (fun hc => (hc (Int32.lt_iff_toInt_lt.mpr (show p1.toInt < 0 by omega))).elim)
    refine g_iconst (pc := 13) (v := 1) dc_M_end_13 rfl ?_
    refine g_goto (pc := 14) (tgt := 18) dc_M_end_14 rfl ?_
    refine g_putfield (pc := 18) dc_M_end_18 fp_M_end_1 rfl (Nat.le_of_ble_eq_true rfl) rfl rfl ?_
    refine g_aload_n (pc := 21) dc_M_end_21 rfl ?_
    refine g_getfield (pc := 22) dc_M_end_22 fl_M_1 rfl rfl ?_
    refine g_if_le (pc := 25) (tgt := 30) dc_M_end_25 rfl (fun hc => absurd hc (by decide)) (fun _ => ?_)
    refine g_iconst (pc := 28) (v := 0) dc_M_end_28 rfl ?_
    refine g_iretC (pc := 29) dc_M_end_29 rfl ?_
    refine g_istore (pc := 275) dc_L_law_275 (by decide) ?_
    refine g_aload_n (pc := 277) dc_L_law_277 rfl ?_
    refine g_v0 (pc := 278) (M' := mt_M_thrown) dc_L_law_278 mo_M_thrown im_M_thrown se_M_thrown ln_L_31 rfl rfl rfl (Nat.le_of_ble_eq_true rfl) (Nat.le_of_ble_eq_true rfl) ?_
    refine g_aload_n (pc := 0) dc_M_thrown_0 rfl ?_
    refine g_getfield (pc := 1) dc_M_thrown_1 fl_M_1 rfl rfl ?_
    refine g_iretC (pc := 4) dc_M_thrown_4 rfl ?_
    refine g_iload (pc := 281) dc_L_law_281 rfl ?_
    refine g_icmp_eq (pc := 283) (tgt := 288) dc_L_law_283 rfl (fun _ => ?_) (fun hc => absurd hc (by decide))
    refine g_iload (pc := 288) dc_L_law_288 rfl ?_
    refine g_if_ne (pc := 290) (tgt := 305) dc_L_law_290 rfl (fun _ => ?_) (fun hc => absurd hc (by decide))
    refine g_goto (pc := 305) (tgt := 873) dc_L_law_305 rfl ?_
    refine g_iinc (pc := 873) (v := 6) dc_L_law_873 rfl (by decide) (by decide) ?_
    refine g_goto (pc := 876) (tgt := 23) dc_L_law_876 rfl ?_
    refine g_iload (pc := 23) dc_L_law_23 rfl ?_
    refine g_xload_n (pc := 25) dc_L_law_25 rfl ?_
    refine g_scriptLenV (pc := 26) (n := 6) dc_L_law_26 hL rfl ?_
    refine g_bipush (pc := 27) (v := 6) dc_L_law_27 rfl ?_
    refine g_isub (pc := 29) (v := 0) dc_L_law_29 (by decide) ?_
    refine g_icmp_gt (pc := 30) (tgt := 879) dc_L_law_30 rfl (fun _ => ?_) (fun hc => absurd hc (by decide))
    refine g_iconst (pc := 879) (v := 1) dc_L_law_879 rfl ?_
    exact g_zreturn dc_L_law_880 rfl rfl ⟨rfl, (Nat.le_of_ble_eq_true rfl), am_bz (by (repeat (first | refine am_bw rfl ?_ | refine am_bA rfl ?_ | refine am_bB rfl ?_ | refine am_bC rfl ?_)); exact am_b0 (Nat.le_of_ble_eq_true rfl))⟩
  · have hi0 : ¬ (p1.toInt < 0) := fun h9 => hc0 (Int32.lt_iff_toInt_lt.mpr h9)
    refine g_iload_n (pc := 4) dc_W_end_4 rfl ?_
    refine g_aload_n (pc := 5) dc_W_end_5 rfl ?_
    refine g_getfield (pc := 6) dc_W_end_6 fl_W_12 rfl rfl ?_
    refine g_getfield (pc := 9) dc_W_end_9 fl_W_85 rfl rfl ?_
    refine g_icmp_le (pc := 12) (tgt := 23) dc_W_end_12 rfl (fun hc2 => ?_) (fun hc2 => ?_)
    · have hi2 : p1.toInt ≤ 0 := Int32.le_iff_toInt_le.mp hc2
      refine g_aload_n (pc := 23) dc_W_end_23 rfl ?_
      refine g_getfield (pc := 24) dc_W_end_24 fl_W_12 rfl rfl ?_
      refine g_getfield (pc := 27) dc_W_end_27 fl_W_85 rfl rfl ?_
      refine g_istore_n (pc := 30) dc_W_end_30 (by decide) ?_
      refine g_aload_n (pc := 31) dc_W_end_31 rfl ?_
      refine g_getfield (pc := 32) dc_W_end_32 fl_W_12 rfl rfl ?_
      refine g_iload_n (pc := 35) dc_W_end_35 rfl ?_
      refine g_putfield (pc := 36) dc_W_end_36 fp_W_end_85 rfl (Nat.le_of_ble_eq_true rfl) rfl rfl ?_
      refine g_iload_n (pc := 39) dc_W_end_39 rfl ?_
      refine g_ireturn (pc := 40) dc_W_end_40 rfl (Or.inl ⟨am_nti _, ?_⟩)
      refine g_i2l (pc := 7) (v := 0) dc_L_end_7 (by decide) ?_
      refine g_lastore (pc := 8) dc_L_end_8 rfl (am_vin rfl) ?_
      refine g_goto (pc := 9) (tgt := 15) dc_L_end_9 rfl ?_
      refine g_iconst (pc := 15) (v := 0) dc_L_end_15 rfl ?_
      refine g_iretC (pc := 16) dc_L_end_16 rfl ?_
      refine g_istore (pc := 263) dc_L_law_263 (by decide) ?_
      refine g_aload_n (pc := 265) dc_L_law_265 rfl ?_
      refine g_xload_n (pc := 266) dc_L_law_266 rfl ?_
      refine g_iload (pc := 267) dc_L_law_267 rfl ?_
      refine g_iconst (pc := 269) (v := 1) dc_L_law_269 rfl ?_
      refine g_iadd (pc := 270) (v := 1) dc_L_law_270 (by decide) ?_
      refine g_scriptLoadV (pc := 271) dc_L_law_271 (by rw [hL]; exact am_vin rfl) e1 ?_
      refine g_v1 (pc := 272) (M' := mt_M_end) dc_L_law_272 mo_M_end im_M_end se_M_end ln_L_38 rfl rfl rfl (Nat.le_of_ble_eq_true rfl) (Nat.le_of_ble_eq_true rfl) ?_
      refine g_aload_n (pc := 0) dc_M_end_0 rfl ?_
      refine g_iload_n (pc := 1) dc_M_end_1 rfl ?_
      refine g_if_lt (pc := 2) (tgt := 13) dc_M_end_2 rfl (fun hc => absurd (Int32.lt_iff_toInt_lt.mp hc) (show ¬ (p1.toInt < 0) by omega)) (fun _ => ?_)
      refine g_iload_n (pc := 5) dc_M_end_5 rfl ?_
      refine g_aload_n (pc := 6) dc_M_end_6 rfl ?_
      refine g_getfield (pc := 7) dc_M_end_7 fl_M_493 rfl rfl ?_
      refine g_icmp_le (pc := 10) (tgt := 17) dc_M_end_10 rfl (fun _ => ?_) (fun hc => (hc (Int32.le_iff_toInt_le.mpr (show p1.toInt ≤ 0 by omega))).elim)
      refine g_iconst (pc := 17) (v := 0) dc_M_end_17 rfl ?_
      refine g_putfield (pc := 18) dc_M_end_18 fp_M_end_1 rfl (Nat.le_of_ble_eq_true rfl) rfl rfl ?_
      refine g_aload_n (pc := 21) dc_M_end_21 rfl ?_
      refine g_getfield (pc := 22) dc_M_end_22 fl_M_1 rfl rfl ?_
      refine g_if_le (pc := 25) (tgt := 30) dc_M_end_25 rfl (fun _ => ?_) (fun hc => absurd hc (by decide))
      refine g_aload_n (pc := 30) dc_M_end_30 rfl ?_
      refine g_getfield (pc := 31) dc_M_end_31 fl_M_493 rfl rfl ?_
      refine g_istore_n (pc := 34) dc_M_end_34 (by decide) ?_
      refine g_aload_n (pc := 35) dc_M_end_35 rfl ?_
      refine g_iload_n (pc := 36) dc_M_end_36 rfl ?_
      refine g_putfield (pc := 37) dc_M_end_37 fp_M_end_493 rfl (Nat.le_of_ble_eq_true rfl) rfl rfl ?_
      refine g_iload_n (pc := 40) dc_M_end_40 rfl ?_
      refine g_iretC (pc := 41) dc_M_end_41 rfl ?_
      refine g_istore (pc := 275) dc_L_law_275 (by decide) ?_
      refine g_aload_n (pc := 277) dc_L_law_277 rfl ?_
      refine g_v0 (pc := 278) (M' := mt_M_thrown) dc_L_law_278 mo_M_thrown im_M_thrown se_M_thrown ln_L_31 rfl rfl rfl (Nat.le_of_ble_eq_true rfl) (Nat.le_of_ble_eq_true rfl) ?_
      refine g_aload_n (pc := 0) dc_M_thrown_0 rfl ?_
      refine g_getfield (pc := 1) dc_M_thrown_1 fl_M_1 rfl rfl ?_
      refine g_iretC (pc := 4) dc_M_thrown_4 rfl ?_
      refine g_iload (pc := 281) dc_L_law_281 rfl ?_
      refine g_icmp_eq (pc := 283) (tgt := 288) dc_L_law_283 rfl (fun _ => ?_) (fun hc => absurd hc (by decide))
      refine g_iload (pc := 288) dc_L_law_288 rfl ?_
      refine g_if_ne (pc := 290) (tgt := 305) dc_L_law_290 rfl (fun hc => absurd hc (by decide)) (fun _ => ?_)
      refine g_aload_n (pc := 293) dc_L_law_293 rfl ?_
      refine g_iconst (pc := 294) (v := 0) dc_L_law_294 rfl ?_
      refine g_laload (pc := 295) dc_L_law_295 rfl (am_vin rfl) ?_
      refine g_iload (pc := 296) dc_L_law_296 rfl ?_
      refine g_i2l (pc := 298) (v := 0) dc_L_law_298 (by decide) ?_
      refine g_lcmp (pc := 299) (v := 0) dc_L_law_299 (by decide) ?_
      refine g_if_eq (pc := 300) (tgt := 305) dc_L_law_300 rfl (fun _ => ?_) (fun hc => absurd hc (by decide))
      refine g_goto (pc := 305) (tgt := 873) dc_L_law_305 rfl ?_
      refine g_iinc (pc := 873) (v := 6) dc_L_law_873 rfl (by decide) (by decide) ?_
      refine g_goto (pc := 876) (tgt := 23) dc_L_law_876 rfl ?_
      refine g_iload (pc := 23) dc_L_law_23 rfl ?_
      refine g_xload_n (pc := 25) dc_L_law_25 rfl ?_
      refine g_scriptLenV (pc := 26) (n := 6) dc_L_law_26 hL rfl ?_
      refine g_bipush (pc := 27) (v := 6) dc_L_law_27 rfl ?_
      refine g_isub (pc := 29) (v := 0) dc_L_law_29 (by decide) ?_
      refine g_icmp_gt (pc := 30) (tgt := 879) dc_L_law_30 rfl (fun _ => ?_) (fun hc => absurd hc (by decide))
      refine g_iconst (pc := 879) (v := 1) dc_L_law_879 rfl ?_
      exact g_zreturn dc_L_law_880 rfl rfl ⟨rfl, (Nat.le_of_ble_eq_true rfl), am_bz (by (repeat (first | refine am_bw rfl ?_ | refine am_bA rfl ?_ | refine am_bB rfl ?_ | refine am_bC rfl ?_)); exact am_b0 (Nat.le_of_ble_eq_true rfl))⟩
    · have hi2 : ¬ (p1.toInt ≤ 0) := fun h9 => hc2 (Int32.le_iff_toInt_le.mpr h9)
      refine th_end hl9 (Nat.le_of_ble_eq_true rfl) (Or.inr ⟨rfl, (Nat.le_of_ble_eq_true rfl), ?_⟩)
      refine g_astore_n (pc := 12) dc_L_end_12 (by decide) ?_
      refine g_iconst (pc := 13) (v := 1) dc_L_end_13 rfl ?_
      refine g_iretC (pc := 14) dc_L_end_14 rfl ?_
      refine g_istore (pc := 263) dc_L_law_263 (by decide) ?_
      refine g_aload_n (pc := 265) dc_L_law_265 rfl ?_
      refine g_xload_n (pc := 266) dc_L_law_266 rfl ?_
      refine g_iload (pc := 267) dc_L_law_267 rfl ?_
      refine g_iconst (pc := 269) (v := 1) dc_L_law_269 rfl ?_
      refine g_iadd (pc := 270) (v := 1) dc_L_law_270 (by decide) ?_
      refine g_scriptLoadV (pc := 271) dc_L_law_271 (by rw [hL]; exact am_vin rfl) e1 ?_
      refine g_v1 (pc := 272) (M' := mt_M_end) dc_L_law_272 mo_M_end im_M_end se_M_end ln_L_38 rfl rfl rfl (Nat.le_of_ble_eq_true rfl) (Nat.le_of_ble_eq_true rfl) ?_
      refine g_aload_n (pc := 0) dc_M_end_0 rfl ?_
      refine g_iload_n (pc := 1) dc_M_end_1 rfl ?_
      refine g_if_lt (pc := 2) (tgt := 13) dc_M_end_2 rfl (fun hc => absurd (Int32.lt_iff_toInt_lt.mp hc) (show ¬ (p1.toInt < 0) by omega)) (fun _ => ?_)
      refine g_iload_n (pc := 5) dc_M_end_5 rfl ?_
      refine g_aload_n (pc := 6) dc_M_end_6 rfl ?_
      refine g_getfield (pc := 7) dc_M_end_7 fl_M_493 rfl rfl ?_
      refine g_icmp_le (pc := 10) (tgt := 17) dc_M_end_10 rfl (fun hc => absurd (Int32.le_iff_toInt_le.mp hc) (show ¬ (p1.toInt ≤ 0) by omega)) (fun _ => ?_)
      refine g_iconst (pc := 13) (v := 1) dc_M_end_13 rfl ?_
      refine g_goto (pc := 14) (tgt := 18) dc_M_end_14 rfl ?_
      refine g_putfield (pc := 18) dc_M_end_18 fp_M_end_1 rfl (Nat.le_of_ble_eq_true rfl) rfl rfl ?_
      refine g_aload_n (pc := 21) dc_M_end_21 rfl ?_
      refine g_getfield (pc := 22) dc_M_end_22 fl_M_1 rfl rfl ?_
      refine g_if_le (pc := 25) (tgt := 30) dc_M_end_25 rfl (fun hc => absurd hc (by decide)) (fun _ => ?_)
      refine g_iconst (pc := 28) (v := 0) dc_M_end_28 rfl ?_
      refine g_iretC (pc := 29) dc_M_end_29 rfl ?_
      refine g_istore (pc := 275) dc_L_law_275 (by decide) ?_
      refine g_aload_n (pc := 277) dc_L_law_277 rfl ?_
      refine g_v0 (pc := 278) (M' := mt_M_thrown) dc_L_law_278 mo_M_thrown im_M_thrown se_M_thrown ln_L_31 rfl rfl rfl (Nat.le_of_ble_eq_true rfl) (Nat.le_of_ble_eq_true rfl) ?_
      refine g_aload_n (pc := 0) dc_M_thrown_0 rfl ?_
      refine g_getfield (pc := 1) dc_M_thrown_1 fl_M_1 rfl rfl ?_
      refine g_iretC (pc := 4) dc_M_thrown_4 rfl ?_
      refine g_iload (pc := 281) dc_L_law_281 rfl ?_
      refine g_icmp_eq (pc := 283) (tgt := 288) dc_L_law_283 rfl (fun _ => ?_) (fun hc => absurd hc (by decide))
      refine g_iload (pc := 288) dc_L_law_288 rfl ?_
      refine g_if_ne (pc := 290) (tgt := 305) dc_L_law_290 rfl (fun _ => ?_) (fun hc => absurd hc (by decide))
      refine g_goto (pc := 305) (tgt := 873) dc_L_law_305 rfl ?_
      refine g_iinc (pc := 873) (v := 6) dc_L_law_873 rfl (by decide) (by decide) ?_
      refine g_goto (pc := 876) (tgt := 23) dc_L_law_876 rfl ?_
      refine g_iload (pc := 23) dc_L_law_23 rfl ?_
      refine g_xload_n (pc := 25) dc_L_law_25 rfl ?_
      refine g_scriptLenV (pc := 26) (n := 6) dc_L_law_26 hL rfl ?_
      refine g_bipush (pc := 27) (v := 6) dc_L_law_27 rfl ?_
      refine g_isub (pc := 29) (v := 0) dc_L_law_29 (by decide) ?_
      refine g_icmp_gt (pc := 30) (tgt := 879) dc_L_law_30 rfl (fun _ => ?_) (fun hc => absurd hc (by decide))
      refine g_iconst (pc := 879) (v := 1) dc_L_law_879 rfl ?_
      exact g_zreturn dc_L_law_880 rfl rfl ⟨rfl, (Nat.le_of_ble_eq_true rfl), am_bz (by (repeat (first | refine am_bw rfl ?_ | refine am_bA rfl ?_ | refine am_bB rfl ?_ | refine am_bC rfl ?_)); exact am_b0 (Nat.le_of_ble_eq_true rfl))⟩
set_option maxRecDepth 20000 in
set_option maxHeartbeats 1000000 in
theorem p1_2 {X : am_X} {p0 p1 p2 p3 p4 p5 : Int32} (hl9 : X.1.stackTraces = false) (hL : X.2.2.2.2.2.1 = 6) (e0 : X.2.2.2.2.2.2 (Int32.toNatClampNeg 0) = p0) (e1 : X.2.2.2.2.2.2 (Int32.toNatClampNeg 1) = p1) (e2 : X.2.2.2.2.2.2 (Int32.toNatClampNeg 2) = p2) (e3 : X.2.2.2.2.2.2 (Int32.toNatClampNeg 3) = p3) (e4 : X.2.2.2.2.2.2 (Int32.toNatClampNeg 4) = p4) (e5 : X.2.2.2.2.2.2 (Int32.toNatClampNeg 5) = p5) : am_G X mt_L_law 60 308 lo_0 [] hp_0 (fun r h => r = some (.int 1) ∧ h.length ≤ 600002 ∧ am_sl h ≤ 7302232) := by
  refine g_aload_n (pc := 308) dc_L_law_308 rfl ?_
  refine g_v0 (pc := 309) (M' := mt_W_read) dc_L_law_309 mo_W_read im_W_read se_W_read ln_L_39 rfl rfl rfl (Nat.le_of_ble_eq_true rfl) (Nat.le_of_ble_eq_true rfl) ?_
  refine g_aload_n (pc := 0) dc_W_read_0 rfl ?_
  refine g_v0 (pc := 1) (M' := mt_W_resolveLine) dc_W_read_1 mo_W_resolveLine im_W_resolveLine se_W_resolveLine ln_W_98 rfl rfl rfl (Nat.le_of_ble_eq_true rfl) (Nat.le_of_ble_eq_true rfl) ?_
  refine g_aload_n (pc := 0) dc_W_resolveLine_0 rfl ?_
  refine g_getfield (pc := 1) dc_W_resolveLine_1 fl_W_27 rfl rfl ?_
  refine g_aload_n (pc := 4) dc_W_resolveLine_4 rfl ?_
  refine g_getfield (pc := 5) dc_W_resolveLine_5 fl_W_12 rfl rfl ?_
  refine g_getfield (pc := 8) dc_W_resolveLine_8 fl_W_109 rfl rfl ?_
  refine g_iconst (pc := 11) (v := 0) dc_W_resolveLine_11 rfl ?_
  refine g_aload_n (pc := 12) dc_W_resolveLine_12 rfl ?_
  refine g_v0 (pc := 13) (M' := mt_W_lineTo) dc_W_resolveLine_13 mo_W_lineTo im_W_lineTo se_W_lineTo ln_W_286 rfl rfl rfl (Nat.le_of_ble_eq_true rfl) (Nat.le_of_ble_eq_true rfl) ?_
  refine g_aload_n (pc := 0) dc_W_lineTo_0 rfl ?_
  refine g_getfield (pc := 1) dc_W_lineTo_1 fl_W_12 rfl rfl ?_
  refine g_getfield (pc := 4) dc_W_lineTo_4 fl_W_109 rfl rfl ?_
  refine g_bipush (pc := 7) (v := 10) dc_W_lineTo_7 rfl ?_
  refine g_iconst (pc := 9) (v := 0) dc_W_lineTo_9 rfl ?_
  refine g_aload_n (pc := 10) dc_W_lineTo_10 rfl ?_
  refine g_getfield (pc := 11) dc_W_lineTo_11 fl_W_12 rfl rfl ?_
  refine g_getfield (pc := 14) dc_W_lineTo_14 fl_W_85 rfl rfl ?_
  refine g_s4 (pc := 17) (M' := mt_W_indexOf) dc_W_lineTo_17 mo_W_indexOf st_W_indexOf ln_W_282 (Nat.le_of_ble_eq_true rfl) (Nat.le_of_ble_eq_true rfl) ?_
  refine g_iload_n (pc := 0) dc_W_indexOf_0 rfl ?_
  refine g_istore (pc := 1) dc_W_indexOf_1 (by decide) ?_
  refine g_iload (pc := 3) dc_W_indexOf_3 rfl ?_
  refine g_iload_n (pc := 5) dc_W_indexOf_5 rfl ?_
  refine g_icmp_ge (pc := 6) (tgt := 23) dc_W_indexOf_6 rfl (fun _ => ?_) (fun hc => absurd hc (by decide))
  refine g_iload (pc := 23) dc_W_indexOf_23 rfl ?_
  refine g_iretC (pc := 25) dc_W_indexOf_25 rfl ?_
  refine g_iretC (pc := 20) dc_W_lineTo_20 rfl ?_
  refine g_null (pc := 16) dc_W_resolveLine_16 ?_
  refine g_v4 (pc := 17) (M' := mt_A_resolve) dc_W_resolveLine_17 mo_A_resolve im_A_resolve se_A_resolve ln_W_117 rfl rfl rfl (Nat.le_of_ble_eq_true rfl) (Nat.le_of_ble_eq_true rfl) ?_
  refine g_aload_n (pc := 0) dc_A_resolve_0 rfl ?_
  refine g_getfield (pc := 1) dc_A_resolve_1 fl_A_14 rfl rfl ?_
  refine g_v0 (pc := 4) (M' := mt_B_clear) dc_A_resolve_4 mo_B_clear im_B_clear se_B_clear ln_A_23 rfl rfl rfl (Nat.le_of_ble_eq_true rfl) (Nat.le_of_ble_eq_true rfl) ?_
  refine g_aload_n (pc := 0) dc_B_clear_0 rfl ?_
  refine g_iconst (pc := 1) (v := 0) dc_B_clear_1 rfl ?_
  refine g_putfield (pc := 2) dc_B_clear_2 fp_B_clear_15 rfl (Nat.le_of_ble_eq_true rfl) rfl rfl ?_
  refine g_vretC (pc := 5) dc_B_clear_5 rfl ?_
  refine g_aload_n (pc := 7) dc_A_resolve_7 rfl ?_
  refine g_getfield (pc := 8) dc_A_resolve_8 fl_A_20 rfl rfl ?_
  refine g_v0 (pc := 11) (M' := mt_B_clear) dc_A_resolve_11 mo_B_clear im_B_clear se_B_clear ln_A_23 rfl rfl rfl (Nat.le_of_ble_eq_true rfl) (Nat.le_of_ble_eq_true rfl) ?_
  refine g_aload_n (pc := 0) dc_B_clear_0 rfl ?_
  refine g_iconst (pc := 1) (v := 0) dc_B_clear_1 rfl ?_
  refine g_putfield (pc := 2) dc_B_clear_2 fp_B_clear_15 rfl (Nat.le_of_ble_eq_true rfl) rfl rfl ?_
  refine g_vretC (pc := 5) dc_B_clear_5 rfl ?_
  refine g_aload_n (pc := 14) dc_A_resolve_14 rfl ?_
  refine g_iload_n (pc := 15) dc_A_resolve_15 rfl ?_
  refine g_iload_n (pc := 16) dc_A_resolve_16 rfl ?_
  refine g_s3 (pc := 17) (M' := mt_W_trimmedFrom) dc_A_resolve_17 mo_W_trimmedFrom st_W_trimmedFrom ln_A_26 (Nat.le_of_ble_eq_true rfl) (Nat.le_of_ble_eq_true rfl) ?_
  refine g_iload_n (pc := 0) dc_W_trimmedFrom_0 rfl ?_
  refine g_istore_n (pc := 1) dc_W_trimmedFrom_1 (by decide) ?_
  refine g_iload_n (pc := 2) dc_W_trimmedFrom_2 rfl ?_
  refine g_iload_n (pc := 3) dc_W_trimmedFrom_3 rfl ?_
  refine g_icmp_ge (pc := 4) (tgt := 22) dc_W_trimmedFrom_4 rfl (fun _ => ?_) (fun hc => absurd hc (by decide))
  refine g_iload_n (pc := 22) dc_W_trimmedFrom_22 rfl ?_
  refine g_iretC (pc := 23) dc_W_trimmedFrom_23 rfl ?_
  refine g_istore (pc := 20) dc_A_resolve_20 (by decide) ?_
  refine g_aload_n (pc := 22) dc_A_resolve_22 rfl ?_
  refine g_bipush (pc := 23) (v := 35) dc_A_resolve_23 rfl ?_
  refine g_iload (pc := 25) dc_A_resolve_25 rfl ?_
  refine g_aload_n (pc := 27) dc_A_resolve_27 rfl ?_
  refine g_iload (pc := 28) dc_A_resolve_28 rfl ?_
  refine g_iload_n (pc := 30) dc_A_resolve_30 rfl ?_
  refine g_s3 (pc := 31) (M' := mt_W_trimmedTo) dc_A_resolve_31 mo_W_trimmedTo st_W_trimmedTo ln_A_30 (Nat.le_of_ble_eq_true rfl) (Nat.le_of_ble_eq_true rfl) ?_
  refine g_iload_n (pc := 0) dc_W_trimmedTo_0 rfl ?_
  refine g_istore_n (pc := 1) dc_W_trimmedTo_1 (by decide) ?_
  refine g_iload_n (pc := 2) dc_W_trimmedTo_2 rfl ?_
  refine g_iload_n (pc := 3) dc_W_trimmedTo_3 rfl ?_
  refine g_icmp_le (pc := 4) (tgt := 24) dc_W_trimmedTo_4 rfl (fun _ => ?_) (fun hc => absurd hc (by decide))
  refine g_iload_n (pc := 24) dc_W_trimmedTo_24 rfl ?_
  refine g_iretC (pc := 25) dc_W_trimmedTo_25 rfl ?_
  refine g_s4 (pc := 34) (M' := mt_W_indexOf) dc_A_resolve_34 mo_W_indexOf st_W_indexOf ln_A_33 (Nat.le_of_ble_eq_true rfl) (Nat.le_of_ble_eq_true rfl) ?_
  refine g_iload_n (pc := 0) dc_W_indexOf_0 rfl ?_
  refine g_istore (pc := 1) dc_W_indexOf_1 (by decide) ?_
  refine g_iload (pc := 3) dc_W_indexOf_3 rfl ?_
  refine g_iload_n (pc := 5) dc_W_indexOf_5 rfl ?_
  refine g_icmp_ge (pc := 6) (tgt := 23) dc_W_indexOf_6 rfl (fun _ => ?_) (fun hc => absurd hc (by decide))
  refine g_iload (pc := 23) dc_W_indexOf_23 rfl ?_
  refine g_iretC (pc := 25) dc_W_indexOf_25 rfl ?_
  refine g_istore (pc := 37) dc_A_resolve_37 (by decide) ?_
  refine g_aload_n (pc := 39) dc_A_resolve_39 rfl ?_
  refine g_iload (pc := 40) dc_A_resolve_40 rfl ?_
  refine g_iload (pc := 42) dc_A_resolve_42 rfl ?_
  refine g_s3 (pc := 44) (M' := mt_A_isClean) dc_A_resolve_44 mo_A_isClean st_A_isClean ln_A_37 (Nat.le_of_ble_eq_true rfl) (Nat.le_of_ble_eq_true rfl) ?_
  refine g_iload_n (pc := 0) dc_A_isClean_0 rfl ?_
  refine g_istore_n (pc := 1) dc_A_isClean_1 (by decide) ?_
  refine g_iload_n (pc := 2) dc_A_isClean_2 rfl ?_
  refine g_iload_n (pc := 3) dc_A_isClean_3 rfl ?_
  refine g_icmp_ge (pc := 4) (tgt := 64) dc_A_isClean_4 rfl (fun _ => ?_) (fun hc => absurd hc (by decide))
  refine g_iconst (pc := 64) (v := 1) dc_A_isClean_64 rfl ?_
  refine g_zretC (pc := 65) dc_A_isClean_65 rfl rfl ?_
  refine g_if_ne (pc := 47) (tgt := 52) dc_A_resolve_47 rfl (fun _ => ?_) (fun hc => absurd hc (by decide))
  refine g_aload_n (pc := 52) dc_A_resolve_52 rfl ?_
  refine g_bipush (pc := 53) (v := 58) dc_A_resolve_53 rfl ?_
  refine g_iload (pc := 55) dc_A_resolve_55 rfl ?_
  refine g_iload (pc := 57) dc_A_resolve_57 rfl ?_
  refine g_s4 (pc := 59) (M' := mt_W_indexOf) dc_A_resolve_59 mo_W_indexOf st_W_indexOf ln_A_33 (Nat.le_of_ble_eq_true rfl) (Nat.le_of_ble_eq_true rfl) ?_
  refine g_iload_n (pc := 0) dc_W_indexOf_0 rfl ?_
  refine g_istore (pc := 1) dc_W_indexOf_1 (by decide) ?_
  refine g_iload (pc := 3) dc_W_indexOf_3 rfl ?_
  refine g_iload_n (pc := 5) dc_W_indexOf_5 rfl ?_
  refine g_icmp_ge (pc := 6) (tgt := 23) dc_W_indexOf_6 rfl (fun _ => ?_) (fun hc => absurd hc (by decide))
  refine g_iload (pc := 23) dc_W_indexOf_23 rfl ?_
  refine g_iretC (pc := 25) dc_W_indexOf_25 rfl ?_
  refine g_istore (pc := 62) dc_A_resolve_62 (by decide) ?_
  refine g_iload (pc := 64) dc_A_resolve_64 rfl ?_
  refine g_aload_n (pc := 66) dc_A_resolve_66 rfl ?_
  refine g_bipush (pc := 67) (v := 47) dc_A_resolve_67 rfl ?_
  refine g_iload (pc := 69) dc_A_resolve_69 rfl ?_
  refine g_iload (pc := 71) dc_A_resolve_71 rfl ?_
  refine g_s4 (pc := 73) (M' := mt_W_indexOf) dc_A_resolve_73 mo_W_indexOf st_W_indexOf ln_A_33 (Nat.le_of_ble_eq_true rfl) (Nat.le_of_ble_eq_true rfl) ?_
  refine g_iload_n (pc := 0) dc_W_indexOf_0 rfl ?_
  refine g_istore (pc := 1) dc_W_indexOf_1 (by decide) ?_
  refine g_iload (pc := 3) dc_W_indexOf_3 rfl ?_
  refine g_iload_n (pc := 5) dc_W_indexOf_5 rfl ?_
  refine g_icmp_ge (pc := 6) (tgt := 23) dc_W_indexOf_6 rfl (fun _ => ?_) (fun hc => absurd hc (by decide))
  refine g_iload (pc := 23) dc_W_indexOf_23 rfl ?_
  refine g_iretC (pc := 25) dc_W_indexOf_25 rfl ?_
  refine g_aload_n (pc := 76) dc_A_resolve_76 rfl ?_
  refine g_bipush (pc := 77) (v := 63) dc_A_resolve_77 rfl ?_
  refine g_iload (pc := 79) dc_A_resolve_79 rfl ?_
  refine g_iload (pc := 81) dc_A_resolve_81 rfl ?_
  refine g_s4 (pc := 83) (M' := mt_W_indexOf) dc_A_resolve_83 mo_W_indexOf st_W_indexOf ln_A_33 (Nat.le_of_ble_eq_true rfl) (Nat.le_of_ble_eq_true rfl) ?_
  refine g_iload_n (pc := 0) dc_W_indexOf_0 rfl ?_
  refine g_istore (pc := 1) dc_W_indexOf_1 (by decide) ?_
  refine g_iload (pc := 3) dc_W_indexOf_3 rfl ?_
  refine g_iload_n (pc := 5) dc_W_indexOf_5 rfl ?_
  refine g_icmp_ge (pc := 6) (tgt := 23) dc_W_indexOf_6 rfl (fun _ => ?_) (fun hc => absurd hc (by decide))
  refine g_iload (pc := 23) dc_W_indexOf_23 rfl ?_
  refine g_iretC (pc := 25) dc_W_indexOf_25 rfl ?_
  refine g_s2 (pc := 86) (M' := mt_JMath_min) dc_A_resolve_86 mo_JMath_min st_JMath_min ln_A_41 (Nat.le_of_ble_eq_true rfl) (Nat.le_of_ble_eq_true rfl) ?_
  refine g_iload_n (pc := 0) dc_JMath_min_0 rfl ?_
  refine g_iload_n (pc := 1) dc_JMath_min_1 rfl ?_
  refine g_icmp_gt (pc := 2) (tgt := 9) dc_JMath_min_2 rfl (fun hc => absurd hc (by decide)) (fun _ => ?_)
  refine g_iload_n (pc := 5) dc_JMath_min_5 rfl ?_
  refine g_goto (pc := 6) (tgt := 10) dc_JMath_min_6 rfl ?_
  refine g_iretC (pc := 10) dc_JMath_min_10 rfl ?_
  refine g_icmp_ge (pc := 89) (tgt := 128) dc_A_resolve_89 rfl (fun _ => ?_) (fun hc => absurd hc (by decide))
  refine g_aload_n (pc := 128) dc_A_resolve_128 rfl ?_
  refine g_iload (pc := 129) dc_A_resolve_129 rfl ?_
  refine g_iload (pc := 131) dc_A_resolve_131 rfl ?_
  refine g_ldcS (pc := 133) 2 dc_A_resolve_133 (by decide) rfl rfl ?_
  refine g_s4 (pc := 135) (M' := mt_W_beginsWith) dc_A_resolve_135 mo_W_beginsWith st_W_beginsWith ln_A_55 (Nat.le_of_ble_eq_true rfl) (Nat.le_of_ble_eq_true rfl) ?_
  refine g_iload_n (pc := 0) dc_W_beginsWith_0 rfl ?_
  refine g_xload_n (pc := 1) dc_W_beginsWith_1 rfl ?_
  refine g_x0 (pc := 2) (M' := mt_JString_length) dc_W_beginsWith_2 mo_JString_length im_JString_length se_JString_length (am_t3 75 rfl rfl) (by decide) (Nat.le_of_ble_eq_true rfl) (Nat.le_of_ble_eq_true rfl) ?_
  refine g_xload_n (pc := 0) dc_JString_length_0 rfl ?_
  refine g_sValue (pc := 1) dc_JString_length_1 (by decide) (am_t4 204 rfl rfl) ?_
  refine g_sLen (pc := 4) (n := 2) dc_JString_length_4 (by decide) rfl ?_
  refine g_xload_n (pc := 5) dc_JString_length_5 rfl ?_
  refine g_x0 (pc := 6) (M' := mt_JString_coder) dc_JString_length_6 mo_JString_coder im_JString_coder se_JString_coder (am_t2 236 rfl rfl) (by decide) (Nat.le_of_ble_eq_true rfl) (Nat.le_of_ble_eq_true rfl) ?_
  refine g_gsCompact (pc := 0) dc_JString_coder_0 (am_t2 230 rfl rfl) ?_
  refine g_if_eq (pc := 3) (tgt := 13) dc_JString_coder_3 rfl (fun hc => absurd hc (by decide)) (fun _ => ?_)
  refine g_xload_n (pc := 6) dc_JString_coder_6 rfl ?_
  refine g_sCoder (pc := 7) dc_JString_coder_7 (by decide) (am_t4 205 rfl rfl) ?_
  refine g_goto (pc := 10) (tgt := 14) dc_JString_coder_10 rfl ?_
  refine g_bretC (pc := 14) dc_JString_coder_14 rfl rfl ?_
  refine g_ishr (pc := 9) (v := 2) dc_JString_length_9 (by decide) ?_
  refine g_iretC (pc := 10) dc_JString_length_10 rfl ?_
  refine g_iadd (pc := 5) (v := 2) dc_W_beginsWith_5 (by decide) ?_
  refine g_istore (pc := 6) dc_W_beginsWith_6 (by decide) ?_
  refine g_iload (pc := 8) dc_W_beginsWith_8 rfl ?_
  refine g_iload_n (pc := 10) dc_W_beginsWith_10 rfl ?_
  refine g_icmp_gt (pc := 11) (tgt := 29) dc_W_beginsWith_11 rfl (fun _ => ?_) (fun hc => absurd hc (by decide))
  refine g_iconst (pc := 29) (v := 0) dc_W_beginsWith_29 rfl ?_
  refine g_zretC (pc := 30) dc_W_beginsWith_30 rfl rfl ?_
  refine g_if_eq (pc := 138) (tgt := 155) dc_A_resolve_138 rfl (fun _ => ?_) (fun hc => absurd hc (by decide))
  refine g_aload_n (pc := 155) dc_A_resolve_155 rfl ?_
  refine g_aload_n (pc := 156) dc_A_resolve_156 rfl ?_
  refine g_iload (pc := 157) dc_A_resolve_157 rfl ?_
  refine g_iload (pc := 159) dc_A_resolve_159 rfl ?_
  refine g_aloadN (pc := 161) dc_A_resolve_161 rfl ?_
  refine g_v4 (pc := 163) (M' := mt_A_joinBase) dc_A_resolve_163 mo_A_joinBase im_A_joinBase se_A_joinBase ln_A_61 rfl rfl rfl (Nat.le_of_ble_eq_true rfl) (Nat.le_of_ble_eq_true rfl) ?_
  refine g_aloadN (pc := 0) dc_A_joinBase_0 rfl ?_
  refine g_ifnullN (pc := 2) (tgt := 13) dc_A_joinBase_2 rfl ?_
  refine g_iconst (pc := 13) (v := (-1)) dc_A_joinBase_13 rfl ?_
  refine g_iretC (pc := 14) dc_A_joinBase_14 rfl ?_
  refine g_istore (pc := 166) dc_A_resolve_166 (by decide) ?_
  refine g_iload (pc := 168) dc_A_resolve_168 rfl ?_
  refine g_iconst (pc := 170) (v := (-1)) dc_A_resolve_170 rfl ?_
  refine g_icmp_ne (pc := 171) (tgt := 176) dc_A_resolve_171 rfl (fun hc => absurd hc (by decide)) (fun _ => ?_)
  refine g_iconst (pc := 174) (v := 0) dc_A_resolve_174 rfl ?_
  refine g_zretC (pc := 175) dc_A_resolve_175 rfl rfl ?_
  refine g_zretC (pc := 20) dc_W_resolveLine_20 rfl rfl ?_
  refine g_pop (pc := 4) dc_W_read_4 rfl ?_
  refine g_aload_n (pc := 5) dc_W_read_5 rfl ?_
  refine g_getfield (pc := 6) dc_W_read_6 fl_W_21 rfl rfl ?_
  refine g_aload_n (pc := 9) dc_W_read_9 rfl ?_
  refine g_getfield (pc := 10) dc_W_read_10 fl_W_27 rfl rfl ?_
  refine g_getfield (pc := 13) dc_W_read_13 fl_W_102 rfl rfl ?_
  refine g_v1 (pc := 16) (M' := mt_B_become) dc_W_read_16 mo_B_become im_B_become se_B_become ln_W_105 rfl rfl rfl (Nat.le_of_ble_eq_true rfl) (Nat.le_of_ble_eq_true rfl) ?_
  refine g_aload_n (pc := 0) dc_B_become_0 rfl ?_
  refine g_iconst (pc := 1) (v := 0) dc_B_become_1 rfl ?_
  refine g_putfield (pc := 2) dc_B_become_2 fp_B_become_15 rfl (Nat.le_of_ble_eq_true rfl) rfl rfl ?_
  refine g_aload_n (pc := 5) dc_B_become_5 rfl ?_
  refine g_aload_n (pc := 6) dc_B_become_6 rfl ?_
  refine g_getfield (pc := 7) dc_B_become_7 fl_B_9 rfl rfl ?_
  refine g_iconst (pc := 10) (v := 0) dc_B_become_10 rfl ?_
  refine g_aload_n (pc := 11) dc_B_become_11 rfl ?_
  refine g_getfield (pc := 12) dc_B_become_12 fl_B_15 rfl rfl ?_
  refine g_v3 (pc := 15) (M' := mt_B_putAll) dc_B_become_15 mo_B_putAll im_B_putAll se_B_putAll ln_B_19 rfl rfl rfl (Nat.le_of_ble_eq_true rfl) (Nat.le_of_ble_eq_true rfl) ?_
  refine g_iload_n (pc := 0) dc_B_putAll_0 rfl ?_
  refine g_iload_n (pc := 1) dc_B_putAll_1 rfl ?_
  refine g_isub (pc := 2) (v := 0) dc_B_putAll_2 (by decide) ?_
  refine g_istore (pc := 3) dc_B_putAll_3 (by decide) ?_
  refine g_aload_n (pc := 5) dc_B_putAll_5 rfl ?_
  refine g_getfield (pc := 6) dc_B_putAll_6 fl_B_15 rfl rfl ?_
  refine g_iload (pc := 9) dc_B_putAll_9 rfl ?_
  refine g_iadd (pc := 11) (v := 0) dc_B_putAll_11 (by decide) ?_
  refine g_aload_n (pc := 12) dc_B_putAll_12 rfl ?_
  refine g_getfield (pc := 13) dc_B_putAll_13 fl_B_9 rfl rfl ?_
  refine g_alen (pc := 16) dc_B_putAll_16 rfl (by decide) ?_
  refine g_icmp_le (pc := 17) (tgt := 48) dc_B_putAll_17 rfl (fun _ => ?_) (fun hc => absurd hc (by decide))
  refine g_aload_n (pc := 48) dc_B_putAll_48 rfl ?_
  refine g_iload_n (pc := 49) dc_B_putAll_49 rfl ?_
  refine g_aload_n (pc := 50) dc_B_putAll_50 rfl ?_
  refine g_getfield (pc := 51) dc_B_putAll_51 fl_B_9 rfl rfl ?_
  refine g_aload_n (pc := 54) dc_B_putAll_54 rfl ?_
  refine g_getfield (pc := 55) dc_B_putAll_55 fl_B_15 rfl rfl ?_
  refine g_iload (pc := 58) dc_B_putAll_58 rfl ?_
  refine g_arraycopy (pc := 60) (t := 0) (sp := 0) (dp := 0) (n := 0) dc_B_putAll_60 (am_t3 157 rfl rfl) rfl rfl rfl rfl (by decide) (by decide) (by decide) (fun i hi => absurd hi (by omega)) (Nat.le_of_ble_eq_true rfl) ?_
  refine g_aload_n (pc := 63) dc_B_putAll_63 rfl ?_
  refine g_dup (pc := 64) dc_B_putAll_64 rfl ?_
  refine g_getfield (pc := 65) dc_B_putAll_65 fl_B_15 rfl rfl ?_
  refine g_iload (pc := 68) dc_B_putAll_68 rfl ?_
  refine g_iadd (pc := 70) (v := 0) dc_B_putAll_70 (by decide) ?_
  refine g_putfield (pc := 71) dc_B_putAll_71 fp_B_putAll_15 rfl (Nat.le_of_ble_eq_true rfl) rfl rfl ?_
  refine g_vretC (pc := 74) dc_B_putAll_74 rfl ?_
  refine g_vretC (pc := 18) dc_B_become_18 rfl ?_
  refine g_aload_n (pc := 19) dc_W_read_19 rfl ?_
  refine g_getfield (pc := 20) dc_W_read_20 fl_W_27 rfl rfl ?_
  refine g_aload_n (pc := 23) dc_W_read_23 rfl ?_
  refine g_getfield (pc := 24) dc_W_read_24 fl_W_12 rfl rfl ?_
  refine g_getfield (pc := 27) dc_W_read_27 fl_W_109 rfl rfl ?_
  refine g_aload_n (pc := 30) dc_W_read_30 rfl ?_
  refine g_v0 (pc := 31) (M' := mt_W_restFrom) dc_W_read_31 mo_W_restFrom im_W_restFrom se_W_restFrom ln_W_113 rfl rfl rfl (Nat.le_of_ble_eq_true rfl) (Nat.le_of_ble_eq_true rfl) ?_
  refine g_aload_n (pc := 0) dc_W_restFrom_0 rfl ?_
  refine g_v0 (pc := 1) (M' := mt_W_lineTo) dc_W_restFrom_1 mo_W_lineTo im_W_lineTo se_W_lineTo ln_W_286 rfl rfl rfl (Nat.le_of_ble_eq_true rfl) (Nat.le_of_ble_eq_true rfl) ?_
  refine g_aload_n (pc := 0) dc_W_lineTo_0 rfl ?_
  refine g_getfield (pc := 1) dc_W_lineTo_1 fl_W_12 rfl rfl ?_
  refine g_getfield (pc := 4) dc_W_lineTo_4 fl_W_109 rfl rfl ?_
  refine g_bipush (pc := 7) (v := 10) dc_W_lineTo_7 rfl ?_
  refine g_iconst (pc := 9) (v := 0) dc_W_lineTo_9 rfl ?_
  refine g_aload_n (pc := 10) dc_W_lineTo_10 rfl ?_
  refine g_getfield (pc := 11) dc_W_lineTo_11 fl_W_12 rfl rfl ?_
  refine g_getfield (pc := 14) dc_W_lineTo_14 fl_W_85 rfl rfl ?_
  refine g_s4 (pc := 17) (M' := mt_W_indexOf) dc_W_lineTo_17 mo_W_indexOf st_W_indexOf ln_W_282 (Nat.le_of_ble_eq_true rfl) (Nat.le_of_ble_eq_true rfl) ?_
  refine g_iload_n (pc := 0) dc_W_indexOf_0 rfl ?_
  refine g_istore (pc := 1) dc_W_indexOf_1 (by decide) ?_
  refine g_iload (pc := 3) dc_W_indexOf_3 rfl ?_
  refine g_iload_n (pc := 5) dc_W_indexOf_5 rfl ?_
  refine g_icmp_ge (pc := 6) (tgt := 23) dc_W_indexOf_6 rfl (fun _ => ?_) (fun hc => absurd hc (by decide))
  refine g_iload (pc := 23) dc_W_indexOf_23 rfl ?_
  refine g_iretC (pc := 25) dc_W_indexOf_25 rfl ?_
  refine g_iretC (pc := 20) dc_W_lineTo_20 rfl ?_
  refine g_iconst (pc := 4) (v := 1) dc_W_restFrom_4 rfl ?_
  refine g_iadd (pc := 5) (v := 1) dc_W_restFrom_5 (by decide) ?_
  refine g_aload_n (pc := 6) dc_W_restFrom_6 rfl ?_
  refine g_getfield (pc := 7) dc_W_restFrom_7 fl_W_12 rfl rfl ?_
  refine g_getfield (pc := 10) dc_W_restFrom_10 fl_W_85 rfl rfl ?_
  refine g_s2 (pc := 13) (M' := mt_JMath_min) dc_W_restFrom_13 mo_JMath_min st_JMath_min ln_W_187 (Nat.le_of_ble_eq_true rfl) (Nat.le_of_ble_eq_true rfl) ?_
  refine g_iload_n (pc := 0) dc_JMath_min_0 rfl ?_
  refine g_iload_n (pc := 1) dc_JMath_min_1 rfl ?_
  refine g_icmp_gt (pc := 2) (tgt := 9) dc_JMath_min_2 rfl (fun _ => ?_) (fun hc => absurd hc (by decide))
  refine g_iload_n (pc := 9) dc_JMath_min_9 rfl ?_
  refine g_iretC (pc := 10) dc_JMath_min_10 rfl ?_
  refine g_iretC (pc := 16) dc_W_restFrom_16 rfl ?_
  refine g_aload_n (pc := 34) dc_W_read_34 rfl ?_
  refine g_getfield (pc := 35) dc_W_read_35 fl_W_12 rfl rfl ?_
  refine g_getfield (pc := 38) dc_W_read_38 fl_W_85 rfl rfl ?_
  refine g_aload_n (pc := 41) dc_W_read_41 rfl ?_
  refine g_getfield (pc := 42) dc_W_read_42 fl_W_21 rfl rfl ?_
  refine g_v4 (pc := 45) (M' := mt_A_resolve) dc_W_read_45 mo_A_resolve im_A_resolve se_A_resolve ln_W_117 rfl rfl rfl (Nat.le_of_ble_eq_true rfl) (Nat.le_of_ble_eq_true rfl) ?_
  refine g_aload_n (pc := 0) dc_A_resolve_0 rfl ?_
  refine g_getfield (pc := 1) dc_A_resolve_1 fl_A_14 rfl rfl ?_
  refine g_v0 (pc := 4) (M' := mt_B_clear) dc_A_resolve_4 mo_B_clear im_B_clear se_B_clear ln_A_23 rfl rfl rfl (Nat.le_of_ble_eq_true rfl) (Nat.le_of_ble_eq_true rfl) ?_
  refine g_aload_n (pc := 0) dc_B_clear_0 rfl ?_
  refine g_iconst (pc := 1) (v := 0) dc_B_clear_1 rfl ?_
  refine g_putfield (pc := 2) dc_B_clear_2 fp_B_clear_15 rfl (Nat.le_of_ble_eq_true rfl) rfl rfl ?_
  refine g_vretC (pc := 5) dc_B_clear_5 rfl ?_
  refine g_aload_n (pc := 7) dc_A_resolve_7 rfl ?_
  refine g_getfield (pc := 8) dc_A_resolve_8 fl_A_20 rfl rfl ?_
  refine g_v0 (pc := 11) (M' := mt_B_clear) dc_A_resolve_11 mo_B_clear im_B_clear se_B_clear ln_A_23 rfl rfl rfl (Nat.le_of_ble_eq_true rfl) (Nat.le_of_ble_eq_true rfl) ?_
  refine g_aload_n (pc := 0) dc_B_clear_0 rfl ?_
  refine g_iconst (pc := 1) (v := 0) dc_B_clear_1 rfl ?_
  refine g_putfield (pc := 2) dc_B_clear_2 fp_B_clear_15 rfl (Nat.le_of_ble_eq_true rfl) rfl rfl ?_
  refine g_vretC (pc := 5) dc_B_clear_5 rfl ?_
  refine g_aload_n (pc := 14) dc_A_resolve_14 rfl ?_
  refine g_iload_n (pc := 15) dc_A_resolve_15 rfl ?_
  refine g_iload_n (pc := 16) dc_A_resolve_16 rfl ?_
  refine g_s3 (pc := 17) (M' := mt_W_trimmedFrom) dc_A_resolve_17 mo_W_trimmedFrom st_W_trimmedFrom ln_A_26 (Nat.le_of_ble_eq_true rfl) (Nat.le_of_ble_eq_true rfl) ?_
  refine g_iload_n (pc := 0) dc_W_trimmedFrom_0 rfl ?_
  refine g_istore_n (pc := 1) dc_W_trimmedFrom_1 (by decide) ?_
  refine g_iload_n (pc := 2) dc_W_trimmedFrom_2 rfl ?_
  refine g_iload_n (pc := 3) dc_W_trimmedFrom_3 rfl ?_
  refine g_icmp_ge (pc := 4) (tgt := 22) dc_W_trimmedFrom_4 rfl (fun _ => ?_) (fun hc => absurd hc (by decide))
  refine g_iload_n (pc := 22) dc_W_trimmedFrom_22 rfl ?_
  refine g_iretC (pc := 23) dc_W_trimmedFrom_23 rfl ?_
  refine g_istore (pc := 20) dc_A_resolve_20 (by decide) ?_
  refine g_aload_n (pc := 22) dc_A_resolve_22 rfl ?_
  refine g_bipush (pc := 23) (v := 35) dc_A_resolve_23 rfl ?_
  refine g_iload (pc := 25) dc_A_resolve_25 rfl ?_
  refine g_aload_n (pc := 27) dc_A_resolve_27 rfl ?_
  refine g_iload (pc := 28) dc_A_resolve_28 rfl ?_
  refine g_iload_n (pc := 30) dc_A_resolve_30 rfl ?_
  refine g_s3 (pc := 31) (M' := mt_W_trimmedTo) dc_A_resolve_31 mo_W_trimmedTo st_W_trimmedTo ln_A_30 (Nat.le_of_ble_eq_true rfl) (Nat.le_of_ble_eq_true rfl) ?_
  refine g_iload_n (pc := 0) dc_W_trimmedTo_0 rfl ?_
  refine g_istore_n (pc := 1) dc_W_trimmedTo_1 (by decide) ?_
  refine g_iload_n (pc := 2) dc_W_trimmedTo_2 rfl ?_
  refine g_iload_n (pc := 3) dc_W_trimmedTo_3 rfl ?_
  refine g_icmp_le (pc := 4) (tgt := 24) dc_W_trimmedTo_4 rfl (fun _ => ?_) (fun hc => absurd hc (by decide))
  refine g_iload_n (pc := 24) dc_W_trimmedTo_24 rfl ?_
  refine g_iretC (pc := 25) dc_W_trimmedTo_25 rfl ?_
  refine g_s4 (pc := 34) (M' := mt_W_indexOf) dc_A_resolve_34 mo_W_indexOf st_W_indexOf ln_A_33 (Nat.le_of_ble_eq_true rfl) (Nat.le_of_ble_eq_true rfl) ?_
  refine g_iload_n (pc := 0) dc_W_indexOf_0 rfl ?_
  refine g_istore (pc := 1) dc_W_indexOf_1 (by decide) ?_
  refine g_iload (pc := 3) dc_W_indexOf_3 rfl ?_
  refine g_iload_n (pc := 5) dc_W_indexOf_5 rfl ?_
  refine g_icmp_ge (pc := 6) (tgt := 23) dc_W_indexOf_6 rfl (fun _ => ?_) (fun hc => absurd hc (by decide))
  refine g_iload (pc := 23) dc_W_indexOf_23 rfl ?_
  refine g_iretC (pc := 25) dc_W_indexOf_25 rfl ?_
  refine g_istore (pc := 37) dc_A_resolve_37 (by decide) ?_
  refine g_aload_n (pc := 39) dc_A_resolve_39 rfl ?_
  refine g_iload (pc := 40) dc_A_resolve_40 rfl ?_
  refine g_iload (pc := 42) dc_A_resolve_42 rfl ?_
  refine g_s3 (pc := 44) (M' := mt_A_isClean) dc_A_resolve_44 mo_A_isClean st_A_isClean ln_A_37 (Nat.le_of_ble_eq_true rfl) (Nat.le_of_ble_eq_true rfl) ?_
  refine g_iload_n (pc := 0) dc_A_isClean_0 rfl ?_
  refine g_istore_n (pc := 1) dc_A_isClean_1 (by decide) ?_
  refine g_iload_n (pc := 2) dc_A_isClean_2 rfl ?_
  refine g_iload_n (pc := 3) dc_A_isClean_3 rfl ?_
  refine g_icmp_ge (pc := 4) (tgt := 64) dc_A_isClean_4 rfl (fun _ => ?_) (fun hc => absurd hc (by decide))
  refine g_iconst (pc := 64) (v := 1) dc_A_isClean_64 rfl ?_
  refine g_zretC (pc := 65) dc_A_isClean_65 rfl rfl ?_
  refine g_if_ne (pc := 47) (tgt := 52) dc_A_resolve_47 rfl (fun _ => ?_) (fun hc => absurd hc (by decide))
  refine g_aload_n (pc := 52) dc_A_resolve_52 rfl ?_
  refine g_bipush (pc := 53) (v := 58) dc_A_resolve_53 rfl ?_
  refine g_iload (pc := 55) dc_A_resolve_55 rfl ?_
  refine g_iload (pc := 57) dc_A_resolve_57 rfl ?_
  refine g_s4 (pc := 59) (M' := mt_W_indexOf) dc_A_resolve_59 mo_W_indexOf st_W_indexOf ln_A_33 (Nat.le_of_ble_eq_true rfl) (Nat.le_of_ble_eq_true rfl) ?_
  refine g_iload_n (pc := 0) dc_W_indexOf_0 rfl ?_
  refine g_istore (pc := 1) dc_W_indexOf_1 (by decide) ?_
  refine g_iload (pc := 3) dc_W_indexOf_3 rfl ?_
  refine g_iload_n (pc := 5) dc_W_indexOf_5 rfl ?_
  refine g_icmp_ge (pc := 6) (tgt := 23) dc_W_indexOf_6 rfl (fun _ => ?_) (fun hc => absurd hc (by decide))
  refine g_iload (pc := 23) dc_W_indexOf_23 rfl ?_
  refine g_iretC (pc := 25) dc_W_indexOf_25 rfl ?_
  refine g_istore (pc := 62) dc_A_resolve_62 (by decide) ?_
  refine g_iload (pc := 64) dc_A_resolve_64 rfl ?_
  refine g_aload_n (pc := 66) dc_A_resolve_66 rfl ?_
  refine g_bipush (pc := 67) (v := 47) dc_A_resolve_67 rfl ?_
  refine g_iload (pc := 69) dc_A_resolve_69 rfl ?_
  refine g_iload (pc := 71) dc_A_resolve_71 rfl ?_
  refine g_s4 (pc := 73) (M' := mt_W_indexOf) dc_A_resolve_73 mo_W_indexOf st_W_indexOf ln_A_33 (Nat.le_of_ble_eq_true rfl) (Nat.le_of_ble_eq_true rfl) ?_
  refine g_iload_n (pc := 0) dc_W_indexOf_0 rfl ?_
  refine g_istore (pc := 1) dc_W_indexOf_1 (by decide) ?_
  refine g_iload (pc := 3) dc_W_indexOf_3 rfl ?_
  refine g_iload_n (pc := 5) dc_W_indexOf_5 rfl ?_
  refine g_icmp_ge (pc := 6) (tgt := 23) dc_W_indexOf_6 rfl (fun _ => ?_) (fun hc => absurd hc (by decide))
  refine g_iload (pc := 23) dc_W_indexOf_23 rfl ?_
  refine g_iretC (pc := 25) dc_W_indexOf_25 rfl ?_
  refine g_aload_n (pc := 76) dc_A_resolve_76 rfl ?_
  refine g_bipush (pc := 77) (v := 63) dc_A_resolve_77 rfl ?_
  refine g_iload (pc := 79) dc_A_resolve_79 rfl ?_
  refine g_iload (pc := 81) dc_A_resolve_81 rfl ?_
  refine g_s4 (pc := 83) (M' := mt_W_indexOf) dc_A_resolve_83 mo_W_indexOf st_W_indexOf ln_A_33 (Nat.le_of_ble_eq_true rfl) (Nat.le_of_ble_eq_true rfl) ?_
  refine g_iload_n (pc := 0) dc_W_indexOf_0 rfl ?_
  refine g_istore (pc := 1) dc_W_indexOf_1 (by decide) ?_
  refine g_iload (pc := 3) dc_W_indexOf_3 rfl ?_
  refine g_iload_n (pc := 5) dc_W_indexOf_5 rfl ?_
  refine g_icmp_ge (pc := 6) (tgt := 23) dc_W_indexOf_6 rfl (fun _ => ?_) (fun hc => absurd hc (by decide))
  refine g_iload (pc := 23) dc_W_indexOf_23 rfl ?_
  refine g_iretC (pc := 25) dc_W_indexOf_25 rfl ?_
  refine g_s2 (pc := 86) (M' := mt_JMath_min) dc_A_resolve_86 mo_JMath_min st_JMath_min ln_A_41 (Nat.le_of_ble_eq_true rfl) (Nat.le_of_ble_eq_true rfl) ?_
  refine g_iload_n (pc := 0) dc_JMath_min_0 rfl ?_
  refine g_iload_n (pc := 1) dc_JMath_min_1 rfl ?_
  refine g_icmp_gt (pc := 2) (tgt := 9) dc_JMath_min_2 rfl (fun hc => absurd hc (by decide)) (fun _ => ?_)
  refine g_iload_n (pc := 5) dc_JMath_min_5 rfl ?_
  refine g_goto (pc := 6) (tgt := 10) dc_JMath_min_6 rfl ?_
  refine g_iretC (pc := 10) dc_JMath_min_10 rfl ?_
  refine g_icmp_ge (pc := 89) (tgt := 128) dc_A_resolve_89 rfl (fun _ => ?_) (fun hc => absurd hc (by decide))
  refine g_aload_n (pc := 128) dc_A_resolve_128 rfl ?_
  refine g_iload (pc := 129) dc_A_resolve_129 rfl ?_
  refine g_iload (pc := 131) dc_A_resolve_131 rfl ?_
  refine g_ldcS (pc := 133) 2 dc_A_resolve_133 (by decide) rfl rfl ?_
  refine g_s4 (pc := 135) (M' := mt_W_beginsWith) dc_A_resolve_135 mo_W_beginsWith st_W_beginsWith ln_A_55 (Nat.le_of_ble_eq_true rfl) (Nat.le_of_ble_eq_true rfl) ?_
  refine g_iload_n (pc := 0) dc_W_beginsWith_0 rfl ?_
  refine g_xload_n (pc := 1) dc_W_beginsWith_1 rfl ?_
  refine g_x0 (pc := 2) (M' := mt_JString_length) dc_W_beginsWith_2 mo_JString_length im_JString_length se_JString_length (am_t3 75 rfl rfl) (by decide) (Nat.le_of_ble_eq_true rfl) (Nat.le_of_ble_eq_true rfl) ?_
  refine g_xload_n (pc := 0) dc_JString_length_0 rfl ?_
  refine g_sValue (pc := 1) dc_JString_length_1 (by decide) (am_t4 204 rfl rfl) ?_
  refine g_sLen (pc := 4) (n := 2) dc_JString_length_4 (by decide) rfl ?_
  refine g_xload_n (pc := 5) dc_JString_length_5 rfl ?_
  refine g_x0 (pc := 6) (M' := mt_JString_coder) dc_JString_length_6 mo_JString_coder im_JString_coder se_JString_coder (am_t2 236 rfl rfl) (by decide) (Nat.le_of_ble_eq_true rfl) (Nat.le_of_ble_eq_true rfl) ?_
  refine g_gsCompact (pc := 0) dc_JString_coder_0 (am_t2 230 rfl rfl) ?_
  refine g_if_eq (pc := 3) (tgt := 13) dc_JString_coder_3 rfl (fun hc => absurd hc (by decide)) (fun _ => ?_)
  refine g_xload_n (pc := 6) dc_JString_coder_6 rfl ?_
  refine g_sCoder (pc := 7) dc_JString_coder_7 (by decide) (am_t4 205 rfl rfl) ?_
  refine g_goto (pc := 10) (tgt := 14) dc_JString_coder_10 rfl ?_
  refine g_bretC (pc := 14) dc_JString_coder_14 rfl rfl ?_
  refine g_ishr (pc := 9) (v := 2) dc_JString_length_9 (by decide) ?_
  refine g_iretC (pc := 10) dc_JString_length_10 rfl ?_
  refine g_iadd (pc := 5) (v := 2) dc_W_beginsWith_5 (by decide) ?_
  refine g_istore (pc := 6) dc_W_beginsWith_6 (by decide) ?_
  refine g_iload (pc := 8) dc_W_beginsWith_8 rfl ?_
  refine g_iload_n (pc := 10) dc_W_beginsWith_10 rfl ?_
  refine g_icmp_gt (pc := 11) (tgt := 29) dc_W_beginsWith_11 rfl (fun _ => ?_) (fun hc => absurd hc (by decide))
  refine g_iconst (pc := 29) (v := 0) dc_W_beginsWith_29 rfl ?_
  refine g_zretC (pc := 30) dc_W_beginsWith_30 rfl rfl ?_
  refine g_if_eq (pc := 138) (tgt := 155) dc_A_resolve_138 rfl (fun _ => ?_) (fun hc => absurd hc (by decide))
  refine g_aload_n (pc := 155) dc_A_resolve_155 rfl ?_
  refine g_aload_n (pc := 156) dc_A_resolve_156 rfl ?_
  refine g_iload (pc := 157) dc_A_resolve_157 rfl ?_
  refine g_iload (pc := 159) dc_A_resolve_159 rfl ?_
  refine g_aload (pc := 161) dc_A_resolve_161 rfl ?_
  refine g_v4 (pc := 163) (M' := mt_A_joinBase) dc_A_resolve_163 mo_A_joinBase im_A_joinBase se_A_joinBase ln_A_61 rfl rfl rfl (Nat.le_of_ble_eq_true rfl) (Nat.le_of_ble_eq_true rfl) ?_
  refine g_aload (pc := 0) dc_A_joinBase_0 rfl ?_
  refine g_ifnull (pc := 2) dc_A_joinBase_2 ?_
  refine g_aload (pc := 5) dc_A_joinBase_5 rfl ?_
  refine g_getfield (pc := 7) dc_A_joinBase_7 fl_A_72 rfl rfl ?_
  refine g_if_ne (pc := 10) (tgt := 15) dc_A_joinBase_10 rfl (fun hc => absurd hc (by decide)) (fun _ => ?_)
  refine g_iconst (pc := 13) (v := (-1)) dc_A_joinBase_13 rfl ?_
  refine g_iretC (pc := 14) dc_A_joinBase_14 rfl ?_
  refine g_istore (pc := 166) dc_A_resolve_166 (by decide) ?_
  refine g_iload (pc := 168) dc_A_resolve_168 rfl ?_
  refine g_iconst (pc := 170) (v := (-1)) dc_A_resolve_170 rfl ?_
  refine g_icmp_ne (pc := 171) (tgt := 176) dc_A_resolve_171 rfl (fun hc => absurd hc (by decide)) (fun _ => ?_)
  refine g_iconst (pc := 174) (v := 0) dc_A_resolve_174 rfl ?_
  refine g_zretC (pc := 175) dc_A_resolve_175 rfl rfl ?_
  refine g_pop (pc := 48) dc_W_read_48 rfl ?_
  refine g_aload_n (pc := 49) dc_W_read_49 rfl ?_
  refine g_getfield (pc := 50) dc_W_read_50 fl_W_12 rfl rfl ?_
  refine g_v0 (pc := 53) (M' := mt_B_clear) dc_W_read_53 mo_B_clear im_B_clear se_B_clear ln_W_121 rfl rfl rfl (Nat.le_of_ble_eq_true rfl) (Nat.le_of_ble_eq_true rfl) ?_
  refine g_aload_n (pc := 0) dc_B_clear_0 rfl ?_
  refine g_iconst (pc := 1) (v := 0) dc_B_clear_1 rfl ?_
  refine g_putfield (pc := 2) dc_B_clear_2 fp_B_clear_15 rfl (Nat.le_of_ble_eq_true rfl) rfl rfl ?_
  refine g_vretC (pc := 5) dc_B_clear_5 rfl ?_
  refine g_aload_n (pc := 56) dc_W_read_56 rfl ?_
  refine g_getfield (pc := 57) dc_W_read_57 fl_W_18 rfl rfl ?_
  refine g_aload_n (pc := 60) dc_W_read_60 rfl ?_
  refine g_getfield (pc := 61) dc_W_read_61 fl_W_27 rfl rfl ?_
  refine g_getfield (pc := 64) dc_W_read_64 fl_W_102 rfl rfl ?_
  refine g_v1 (pc := 67) (M' := mt_B_become) dc_W_read_67 mo_B_become im_B_become se_B_become ln_W_105 rfl rfl rfl (Nat.le_of_ble_eq_true rfl) (Nat.le_of_ble_eq_true rfl) ?_
  refine g_aload_n (pc := 0) dc_B_become_0 rfl ?_
  refine g_iconst (pc := 1) (v := 0) dc_B_become_1 rfl ?_
  refine g_putfield (pc := 2) dc_B_become_2 fp_B_become_15 rfl (Nat.le_of_ble_eq_true rfl) rfl rfl ?_
  refine g_aload_n (pc := 5) dc_B_become_5 rfl ?_
  refine g_aload_n (pc := 6) dc_B_become_6 rfl ?_
  refine g_getfield (pc := 7) dc_B_become_7 fl_B_9 rfl rfl ?_
  refine g_iconst (pc := 10) (v := 0) dc_B_become_10 rfl ?_
  refine g_aload_n (pc := 11) dc_B_become_11 rfl ?_
  refine g_getfield (pc := 12) dc_B_become_12 fl_B_15 rfl rfl ?_
  refine g_v3 (pc := 15) (M' := mt_B_putAll) dc_B_become_15 mo_B_putAll im_B_putAll se_B_putAll ln_B_19 rfl rfl rfl (Nat.le_of_ble_eq_true rfl) (Nat.le_of_ble_eq_true rfl) ?_
  refine g_iload_n (pc := 0) dc_B_putAll_0 rfl ?_
  refine g_iload_n (pc := 1) dc_B_putAll_1 rfl ?_
  refine g_isub (pc := 2) (v := 0) dc_B_putAll_2 (by decide) ?_
  refine g_istore (pc := 3) dc_B_putAll_3 (by decide) ?_
  refine g_aload_n (pc := 5) dc_B_putAll_5 rfl ?_
  refine g_getfield (pc := 6) dc_B_putAll_6 fl_B_15 rfl rfl ?_
  refine g_iload (pc := 9) dc_B_putAll_9 rfl ?_
  refine g_iadd (pc := 11) (v := 0) dc_B_putAll_11 (by decide) ?_
  refine g_aload_n (pc := 12) dc_B_putAll_12 rfl ?_
  refine g_getfield (pc := 13) dc_B_putAll_13 fl_B_9 rfl rfl ?_
  refine g_alen (pc := 16) dc_B_putAll_16 rfl (by decide) ?_
  refine g_icmp_le (pc := 17) (tgt := 48) dc_B_putAll_17 rfl (fun _ => ?_) (fun hc => absurd hc (by decide))
  refine g_aload_n (pc := 48) dc_B_putAll_48 rfl ?_
  refine g_iload_n (pc := 49) dc_B_putAll_49 rfl ?_
  refine g_aload_n (pc := 50) dc_B_putAll_50 rfl ?_
  refine g_getfield (pc := 51) dc_B_putAll_51 fl_B_9 rfl rfl ?_
  refine g_aload_n (pc := 54) dc_B_putAll_54 rfl ?_
  refine g_getfield (pc := 55) dc_B_putAll_55 fl_B_15 rfl rfl ?_
  refine g_iload (pc := 58) dc_B_putAll_58 rfl ?_
  refine g_arraycopy (pc := 60) (t := 0) (sp := 0) (dp := 0) (n := 0) dc_B_putAll_60 (am_t3 157 rfl rfl) rfl rfl rfl rfl (by decide) (by decide) (by decide) (fun i hi => absurd hi (by omega)) (Nat.le_of_ble_eq_true rfl) ?_
  refine g_aload_n (pc := 63) dc_B_putAll_63 rfl ?_
  refine g_dup (pc := 64) dc_B_putAll_64 rfl ?_
  refine g_getfield (pc := 65) dc_B_putAll_65 fl_B_15 rfl rfl ?_
  refine g_iload (pc := 68) dc_B_putAll_68 rfl ?_
  refine g_iadd (pc := 70) (v := 0) dc_B_putAll_70 (by decide) ?_
  refine g_putfield (pc := 71) dc_B_putAll_71 fp_B_putAll_15 rfl (Nat.le_of_ble_eq_true rfl) rfl rfl ?_
  refine g_vretC (pc := 74) dc_B_putAll_74 rfl ?_
  refine g_vretC (pc := 18) dc_B_become_18 rfl ?_
  refine g_aload_n (pc := 70) dc_W_read_70 rfl ?_
  refine g_getfield (pc := 71) dc_W_read_71 fl_W_18 rfl rfl ?_
  refine g_getfield (pc := 74) dc_W_read_74 fl_W_85 rfl rfl ?_
  refine g_iretC (pc := 77) dc_W_read_77 rfl ?_
  refine g_aload_n (pc := 312) dc_L_law_312 rfl ?_
  refine g_v0 (pc := 313) (M' := mt_M_read) dc_L_law_313 mo_M_read im_M_read se_M_read ln_L_42 rfl rfl rfl (Nat.le_of_ble_eq_true rfl) (Nat.le_of_ble_eq_true rfl) ?_
  refine g_aload_n (pc := 0) dc_M_read_0 rfl ?_
  refine g_v0 (pc := 1) (M' := mt_M_use) dc_M_read_1 mo_M_use im_M_use se_M_use ln_M_505 rfl rfl rfl (Nat.le_of_ble_eq_true rfl) (Nat.le_of_ble_eq_true rfl) ?_
  refine g_aload_n (pc := 0) dc_M_use_0 rfl ?_
  refine g_iconst (pc := 1) (v := 0) dc_M_use_1 rfl ?_
  refine g_putfield (pc := 2) dc_M_use_2 fp_M_use_1 rfl (Nat.le_of_ble_eq_true rfl) rfl rfl ?_
  refine g_aload_n (pc := 5) dc_M_use_5 rfl ?_
  refine g_getfield (pc := 6) dc_M_use_6 fl_M_493 rfl rfl ?_
  refine g_istore_n (pc := 9) dc_M_use_9 (by decide) ?_
  refine g_aload_n (pc := 10) dc_M_use_10 rfl ?_
  refine g_iconst (pc := 11) (v := 0) dc_M_use_11 rfl ?_
  refine g_putfield (pc := 12) dc_M_use_12 fp_M_use_493 rfl (Nat.le_of_ble_eq_true rfl) rfl rfl ?_
  refine g_iload_n (pc := 15) dc_M_use_15 rfl ?_
  refine g_iretC (pc := 16) dc_M_use_16 rfl ?_
  refine g_istore_n (pc := 4) dc_M_read_4 (by decide) ?_
  refine g_aload_n (pc := 5) dc_M_read_5 rfl ?_
  refine g_iload_n (pc := 6) dc_M_read_6 rfl ?_
  refine g_v1 (pc := 7) (M' := mt_M_readFirst) dc_M_read_7 mo_M_readFirst im_M_readFirst se_M_readFirst ln_M_508 rfl rfl rfl (Nat.le_of_ble_eq_true rfl) (Nat.le_of_ble_eq_true rfl) ?_
  refine g_aload_n (pc := 0) dc_M_readFirst_0 rfl ?_
  refine g_aload_n (pc := 1) dc_M_readFirst_1 rfl ?_
  refine g_getfield (pc := 2) dc_M_readFirst_2 fl_M_143 rfl rfl ?_
  refine g_iconst (pc := 5) (v := 0) dc_M_readFirst_5 rfl ?_
  refine g_aload_n (pc := 6) dc_M_readFirst_6 rfl ?_
  refine g_getfield (pc := 7) dc_M_readFirst_7 fl_M_143 rfl rfl ?_
  refine g_iconst (pc := 10) (v := 0) dc_M_readFirst_10 rfl ?_
  refine g_iload_n (pc := 11) dc_M_readFirst_11 rfl ?_
  refine g_s3 (pc := 12) (M' := mt_M_lineEnd) dc_M_readFirst_12 mo_M_lineEnd st_M_lineEnd ln_M_455 (Nat.le_of_ble_eq_true rfl) (Nat.le_of_ble_eq_true rfl) ?_
  refine g_aload_n (pc := 0) dc_M_lineEnd_0 rfl ?_
  refine g_iload_n (pc := 1) dc_M_lineEnd_1 rfl ?_
  refine g_iload_n (pc := 2) dc_M_lineEnd_2 rfl ?_
  refine g_bipush (pc := 3) (v := 10) dc_M_lineEnd_3 rfl ?_
  refine g_s4 (pc := 5) (M' := mt_M_seek) dc_M_lineEnd_5 mo_M_seek st_M_seek ln_M_48 (Nat.le_of_ble_eq_true rfl) (Nat.le_of_ble_eq_true rfl) ?_
  refine g_iload_n (pc := 0) dc_M_seek_0 rfl ?_
  refine g_istore (pc := 1) dc_M_seek_1 (by decide) ?_
  refine g_iload (pc := 3) dc_M_seek_3 rfl ?_
  refine g_iload_n (pc := 5) dc_M_seek_5 rfl ?_
  refine g_icmp_ge (pc := 6) (tgt := 23) dc_M_seek_6 rfl (fun _ => ?_) (fun hc => absurd hc (by decide))
  refine g_iload (pc := 23) dc_M_seek_23 rfl ?_
  refine g_iretC (pc := 25) dc_M_seek_25 rfl ?_
  refine g_istore_n (pc := 8) dc_M_lineEnd_8 (by decide) ?_
  refine g_iload_n (pc := 9) dc_M_lineEnd_9 rfl ?_
  refine g_iload_n (pc := 10) dc_M_lineEnd_10 rfl ?_
  refine g_icmp_ge (pc := 11) (tgt := 35) dc_M_lineEnd_11 rfl (fun _ => ?_) (fun hc => absurd hc (by decide))
  refine g_iload_n (pc := 35) dc_M_lineEnd_35 rfl ?_
  refine g_iretC (pc := 36) dc_M_lineEnd_36 rfl ?_
  refine g_iconst (pc := 15) (v := (-1)) dc_M_readFirst_15 rfl ?_
  refine g_v4 (pc := 16) (M' := mt_M_readReference) dc_M_readFirst_16 mo_M_readReference im_M_readReference se_M_readReference ln_M_297 rfl rfl rfl (Nat.le_of_ble_eq_true rfl) (Nat.le_of_ble_eq_true rfl) ?_
  refine g_iload_n (pc := 0) dc_M_readReference_0 rfl ?_
  refine g_istore (pc := 1) dc_M_readReference_1 (by decide) ?_
  refine g_iload_n (pc := 3) dc_M_readReference_3 rfl ?_
  refine g_istore (pc := 4) dc_M_readReference_4 (by decide) ?_
  refine g_iload (pc := 6) dc_M_readReference_6 rfl ?_
  refine g_iload (pc := 8) dc_M_readReference_8 rfl ?_
  refine g_icmp_ge (pc := 10) (tgt := 29) dc_M_readReference_10 rfl (fun _ => ?_) (fun hc => absurd hc (by decide))
  refine g_iload (pc := 29) dc_M_readReference_29 rfl ?_
  refine g_iload (pc := 31) dc_M_readReference_31 rfl ?_
  refine g_icmp_le (pc := 33) (tgt := 54) dc_M_readReference_33 rfl (fun _ => ?_) (fun hc => absurd hc (by decide))
  refine g_aload_n (pc := 54) dc_M_readReference_54 rfl ?_
  refine g_iload (pc := 55) dc_M_readReference_55 rfl ?_
  refine g_iload (pc := 57) dc_M_readReference_57 rfl ?_
  refine g_bipush (pc := 59) (v := 35) dc_M_readReference_59 rfl ?_
  refine g_s4 (pc := 61) (M' := mt_M_seek) dc_M_readReference_61 mo_M_seek st_M_seek ln_M_48 (Nat.le_of_ble_eq_true rfl) (Nat.le_of_ble_eq_true rfl) ?_
  refine g_iload_n (pc := 0) dc_M_seek_0 rfl ?_
  refine g_istore (pc := 1) dc_M_seek_1 (by decide) ?_
  refine g_iload (pc := 3) dc_M_seek_3 rfl ?_
  refine g_iload_n (pc := 5) dc_M_seek_5 rfl ?_
  refine g_icmp_ge (pc := 6) (tgt := 23) dc_M_seek_6 rfl (fun _ => ?_) (fun hc => absurd hc (by decide))
  refine g_iload (pc := 23) dc_M_seek_23 rfl ?_
  refine g_iretC (pc := 25) dc_M_seek_25 rfl ?_
  refine g_istore (pc := 64) dc_M_readReference_64 (by decide) ?_
  refine g_iload (pc := 66) dc_M_readReference_66 rfl ?_
  refine g_istore (pc := 68) dc_M_readReference_68 (by decide) ?_
  refine g_iload (pc := 70) dc_M_readReference_70 rfl ?_
  refine g_iload (pc := 72) dc_M_readReference_72 rfl ?_
  refine g_icmp_ge (pc := 74) (tgt := 96) dc_M_readReference_74 rfl (fun _ => ?_) (fun hc => absurd hc (by decide))
  refine g_aload_n (pc := 96) dc_M_readReference_96 rfl ?_
  refine g_iload (pc := 97) dc_M_readReference_97 rfl ?_
  refine g_iload (pc := 99) dc_M_readReference_99 rfl ?_
  refine g_bipush (pc := 101) (v := 58) dc_M_readReference_101 rfl ?_
  refine g_s4 (pc := 103) (M' := mt_M_seek) dc_M_readReference_103 mo_M_seek st_M_seek ln_M_48 (Nat.le_of_ble_eq_true rfl) (Nat.le_of_ble_eq_true rfl) ?_
  refine g_iload_n (pc := 0) dc_M_seek_0 rfl ?_
  refine g_istore (pc := 1) dc_M_seek_1 (by decide) ?_
  refine g_iload (pc := 3) dc_M_seek_3 rfl ?_
  refine g_iload_n (pc := 5) dc_M_seek_5 rfl ?_
  refine g_icmp_ge (pc := 6) (tgt := 23) dc_M_seek_6 rfl (fun _ => ?_) (fun hc => absurd hc (by decide))
  refine g_iload (pc := 23) dc_M_seek_23 rfl ?_
  refine g_iretC (pc := 25) dc_M_seek_25 rfl ?_
  refine g_istore (pc := 106) dc_M_readReference_106 (by decide) ?_
  refine g_aload_n (pc := 108) dc_M_readReference_108 rfl ?_
  refine g_iload (pc := 109) dc_M_readReference_109 rfl ?_
  refine g_iload (pc := 111) dc_M_readReference_111 rfl ?_
  refine g_bipush (pc := 113) (v := 47) dc_M_readReference_113 rfl ?_
  refine g_s4 (pc := 115) (M' := mt_M_seek) dc_M_readReference_115 mo_M_seek st_M_seek ln_M_48 (Nat.le_of_ble_eq_true rfl) (Nat.le_of_ble_eq_true rfl) ?_
  refine g_iload_n (pc := 0) dc_M_seek_0 rfl ?_
  refine g_istore (pc := 1) dc_M_seek_1 (by decide) ?_
  refine g_iload (pc := 3) dc_M_seek_3 rfl ?_
  refine g_iload_n (pc := 5) dc_M_seek_5 rfl ?_
  refine g_icmp_ge (pc := 6) (tgt := 23) dc_M_seek_6 rfl (fun _ => ?_) (fun hc => absurd hc (by decide))
  refine g_iload (pc := 23) dc_M_seek_23 rfl ?_
  refine g_iretC (pc := 25) dc_M_seek_25 rfl ?_
  refine g_istore (pc := 118) dc_M_readReference_118 (by decide) ?_
  refine g_aload_n (pc := 120) dc_M_readReference_120 rfl ?_
  refine g_iload (pc := 121) dc_M_readReference_121 rfl ?_
  refine g_iload (pc := 123) dc_M_readReference_123 rfl ?_
  refine g_bipush (pc := 125) (v := 63) dc_M_readReference_125 rfl ?_
  refine g_s4 (pc := 127) (M' := mt_M_seek) dc_M_readReference_127 mo_M_seek st_M_seek ln_M_48 (Nat.le_of_ble_eq_true rfl) (Nat.le_of_ble_eq_true rfl) ?_
  refine g_iload_n (pc := 0) dc_M_seek_0 rfl ?_
  refine g_istore (pc := 1) dc_M_seek_1 (by decide) ?_
  refine g_iload (pc := 3) dc_M_seek_3 rfl ?_
  refine g_iload_n (pc := 5) dc_M_seek_5 rfl ?_
  refine g_icmp_ge (pc := 6) (tgt := 23) dc_M_seek_6 rfl (fun _ => ?_) (fun hc => absurd hc (by decide))
  refine g_iload (pc := 23) dc_M_seek_23 rfl ?_
  refine g_iretC (pc := 25) dc_M_seek_25 rfl ?_
  refine g_istore (pc := 130) dc_M_readReference_130 (by decide) ?_
  refine g_iload (pc := 132) dc_M_readReference_132 rfl ?_
  refine g_iload (pc := 134) dc_M_readReference_134 rfl ?_
  refine g_icmp_ge (pc := 136) (tgt := 198) dc_M_readReference_136 rfl (fun _ => ?_) (fun hc => absurd hc (by decide))
  refine g_iload (pc := 198) dc_M_readReference_198 rfl ?_
  refine g_iconst (pc := 200) (v := 1) dc_M_readReference_200 rfl ?_
  refine g_iadd (pc := 201) (v := 1) dc_M_readReference_201 (by decide) ?_
  refine g_iload (pc := 202) dc_M_readReference_202 rfl ?_
  refine g_icmp_ge (pc := 204) (tgt := 307) dc_M_readReference_204 rfl (fun _ => ?_) (fun hc => absurd hc (by decide))
  refine g_iload (pc := 307) dc_M_readReference_307 rfl ?_
  refine g_if_ge (pc := 309) (tgt := 314) dc_M_readReference_309 rfl (fun hc => absurd hc (by decide)) (fun _ => ?_)
  refine g_iconst (pc := 312) (v := 0) dc_M_readReference_312 rfl ?_
  refine g_zretC (pc := 313) dc_M_readReference_313 rfl rfl ?_
  refine g_zretC (pc := 19) dc_M_readFirst_19 rfl rfl ?_
  refine g_if_eq (pc := 10) (tgt := 20) dc_M_read_10 rfl (fun _ => ?_) (fun hc => absurd hc (by decide))
  refine g_iconst (pc := 20) (v := (-1)) dc_M_read_20 rfl ?_
  refine g_istore_n (pc := 21) dc_M_read_21 (by decide) ?_
  refine g_aload_n (pc := 22) dc_M_read_22 rfl ?_
  refine g_aload_n (pc := 23) dc_M_read_23 rfl ?_
  refine g_getfield (pc := 24) dc_M_read_24 fl_M_143 rfl rfl ?_
  refine g_aload_n (pc := 27) dc_M_read_27 rfl ?_
  refine g_iload_n (pc := 28) dc_M_read_28 rfl ?_
  refine g_v1 (pc := 29) (M' := mt_M_behindFirst) dc_M_read_29 mo_M_behindFirst im_M_behindFirst se_M_behindFirst ln_M_511 rfl rfl rfl (Nat.le_of_ble_eq_true rfl) (Nat.le_of_ble_eq_true rfl) ?_
  refine g_aload_n (pc := 0) dc_M_behindFirst_0 rfl ?_
  refine g_getfield (pc := 1) dc_M_behindFirst_1 fl_M_143 rfl rfl ?_
  refine g_iconst (pc := 4) (v := 0) dc_M_behindFirst_4 rfl ?_
  refine g_iload_n (pc := 5) dc_M_behindFirst_5 rfl ?_
  refine g_bipush (pc := 6) (v := 10) dc_M_behindFirst_6 rfl ?_
  refine g_s4 (pc := 8) (M' := mt_M_seek) dc_M_behindFirst_8 mo_M_seek st_M_seek ln_M_48 (Nat.le_of_ble_eq_true rfl) (Nat.le_of_ble_eq_true rfl) ?_
  refine g_iload_n (pc := 0) dc_M_seek_0 rfl ?_
  refine g_istore (pc := 1) dc_M_seek_1 (by decide) ?_
  refine g_iload (pc := 3) dc_M_seek_3 rfl ?_
  refine g_iload_n (pc := 5) dc_M_seek_5 rfl ?_
  refine g_icmp_ge (pc := 6) (tgt := 23) dc_M_seek_6 rfl (fun _ => ?_) (fun hc => absurd hc (by decide))
  refine g_iload (pc := 23) dc_M_seek_23 rfl ?_
  refine g_iretC (pc := 25) dc_M_seek_25 rfl ?_
  refine g_istore_n (pc := 11) dc_M_behindFirst_11 (by decide) ?_
  refine g_iload_n (pc := 12) dc_M_behindFirst_12 rfl ?_
  refine g_iload_n (pc := 13) dc_M_behindFirst_13 rfl ?_
  refine g_icmp_ge (pc := 14) (tgt := 23) dc_M_behindFirst_14 rfl (fun _ => ?_) (fun hc => absurd hc (by decide))
  refine g_iload_n (pc := 23) dc_M_behindFirst_23 rfl ?_
  refine g_iretC (pc := 24) dc_M_behindFirst_24 rfl ?_
  refine g_iload_n (pc := 32) dc_M_read_32 rfl ?_
  refine g_iload_n (pc := 33) dc_M_read_33 rfl ?_
  refine g_v4 (pc := 34) (M' := mt_M_readReference) dc_M_read_34 mo_M_readReference im_M_readReference se_M_readReference ln_M_297 rfl rfl rfl (Nat.le_of_ble_eq_true rfl) (Nat.le_of_ble_eq_true rfl) ?_
  refine g_iload_n (pc := 0) dc_M_readReference_0 rfl ?_
  refine g_istore (pc := 1) dc_M_readReference_1 (by decide) ?_
  refine g_iload_n (pc := 3) dc_M_readReference_3 rfl ?_
  refine g_istore (pc := 4) dc_M_readReference_4 (by decide) ?_
  refine g_iload (pc := 6) dc_M_readReference_6 rfl ?_
  refine g_iload (pc := 8) dc_M_readReference_8 rfl ?_
  refine g_icmp_ge (pc := 10) (tgt := 29) dc_M_readReference_10 rfl (fun _ => ?_) (fun hc => absurd hc (by decide))
  refine g_iload (pc := 29) dc_M_readReference_29 rfl ?_
  refine g_iload (pc := 31) dc_M_readReference_31 rfl ?_
  refine g_icmp_le (pc := 33) (tgt := 54) dc_M_readReference_33 rfl (fun _ => ?_) (fun hc => absurd hc (by decide))
  refine g_aload_n (pc := 54) dc_M_readReference_54 rfl ?_
  refine g_iload (pc := 55) dc_M_readReference_55 rfl ?_
  refine g_iload (pc := 57) dc_M_readReference_57 rfl ?_
  refine g_bipush (pc := 59) (v := 35) dc_M_readReference_59 rfl ?_
  refine g_s4 (pc := 61) (M' := mt_M_seek) dc_M_readReference_61 mo_M_seek st_M_seek ln_M_48 (Nat.le_of_ble_eq_true rfl) (Nat.le_of_ble_eq_true rfl) ?_
  refine g_iload_n (pc := 0) dc_M_seek_0 rfl ?_
  refine g_istore (pc := 1) dc_M_seek_1 (by decide) ?_
  refine g_iload (pc := 3) dc_M_seek_3 rfl ?_
  refine g_iload_n (pc := 5) dc_M_seek_5 rfl ?_
  refine g_icmp_ge (pc := 6) (tgt := 23) dc_M_seek_6 rfl (fun _ => ?_) (fun hc => absurd hc (by decide))
  refine g_iload (pc := 23) dc_M_seek_23 rfl ?_
  refine g_iretC (pc := 25) dc_M_seek_25 rfl ?_
  refine g_istore (pc := 64) dc_M_readReference_64 (by decide) ?_
  refine g_iload (pc := 66) dc_M_readReference_66 rfl ?_
  refine g_istore (pc := 68) dc_M_readReference_68 (by decide) ?_
  refine g_iload (pc := 70) dc_M_readReference_70 rfl ?_
  refine g_iload (pc := 72) dc_M_readReference_72 rfl ?_
  refine g_icmp_ge (pc := 74) (tgt := 96) dc_M_readReference_74 rfl (fun _ => ?_) (fun hc => absurd hc (by decide))
  refine g_aload_n (pc := 96) dc_M_readReference_96 rfl ?_
  refine g_iload (pc := 97) dc_M_readReference_97 rfl ?_
  refine g_iload (pc := 99) dc_M_readReference_99 rfl ?_
  refine g_bipush (pc := 101) (v := 58) dc_M_readReference_101 rfl ?_
  refine g_s4 (pc := 103) (M' := mt_M_seek) dc_M_readReference_103 mo_M_seek st_M_seek ln_M_48 (Nat.le_of_ble_eq_true rfl) (Nat.le_of_ble_eq_true rfl) ?_
  refine g_iload_n (pc := 0) dc_M_seek_0 rfl ?_
  refine g_istore (pc := 1) dc_M_seek_1 (by decide) ?_
  refine g_iload (pc := 3) dc_M_seek_3 rfl ?_
  refine g_iload_n (pc := 5) dc_M_seek_5 rfl ?_
  refine g_icmp_ge (pc := 6) (tgt := 23) dc_M_seek_6 rfl (fun _ => ?_) (fun hc => absurd hc (by decide))
  refine g_iload (pc := 23) dc_M_seek_23 rfl ?_
  refine g_iretC (pc := 25) dc_M_seek_25 rfl ?_
  refine g_istore (pc := 106) dc_M_readReference_106 (by decide) ?_
  refine g_aload_n (pc := 108) dc_M_readReference_108 rfl ?_
  refine g_iload (pc := 109) dc_M_readReference_109 rfl ?_
  refine g_iload (pc := 111) dc_M_readReference_111 rfl ?_
  refine g_bipush (pc := 113) (v := 47) dc_M_readReference_113 rfl ?_
  refine g_s4 (pc := 115) (M' := mt_M_seek) dc_M_readReference_115 mo_M_seek st_M_seek ln_M_48 (Nat.le_of_ble_eq_true rfl) (Nat.le_of_ble_eq_true rfl) ?_
  refine g_iload_n (pc := 0) dc_M_seek_0 rfl ?_
  refine g_istore (pc := 1) dc_M_seek_1 (by decide) ?_
  refine g_iload (pc := 3) dc_M_seek_3 rfl ?_
  refine g_iload_n (pc := 5) dc_M_seek_5 rfl ?_
  refine g_icmp_ge (pc := 6) (tgt := 23) dc_M_seek_6 rfl (fun _ => ?_) (fun hc => absurd hc (by decide))
  refine g_iload (pc := 23) dc_M_seek_23 rfl ?_
  refine g_iretC (pc := 25) dc_M_seek_25 rfl ?_
  refine g_istore (pc := 118) dc_M_readReference_118 (by decide) ?_
  refine g_aload_n (pc := 120) dc_M_readReference_120 rfl ?_
  refine g_iload (pc := 121) dc_M_readReference_121 rfl ?_
  refine g_iload (pc := 123) dc_M_readReference_123 rfl ?_
  refine g_bipush (pc := 125) (v := 63) dc_M_readReference_125 rfl ?_
  refine g_s4 (pc := 127) (M' := mt_M_seek) dc_M_readReference_127 mo_M_seek st_M_seek ln_M_48 (Nat.le_of_ble_eq_true rfl) (Nat.le_of_ble_eq_true rfl) ?_
  refine g_iload_n (pc := 0) dc_M_seek_0 rfl ?_
  refine g_istore (pc := 1) dc_M_seek_1 (by decide) ?_
  refine g_iload (pc := 3) dc_M_seek_3 rfl ?_
  refine g_iload_n (pc := 5) dc_M_seek_5 rfl ?_
  refine g_icmp_ge (pc := 6) (tgt := 23) dc_M_seek_6 rfl (fun _ => ?_) (fun hc => absurd hc (by decide))
  refine g_iload (pc := 23) dc_M_seek_23 rfl ?_
  refine g_iretC (pc := 25) dc_M_seek_25 rfl ?_
  refine g_istore (pc := 130) dc_M_readReference_130 (by decide) ?_
  refine g_iload (pc := 132) dc_M_readReference_132 rfl ?_
  refine g_iload (pc := 134) dc_M_readReference_134 rfl ?_
  refine g_icmp_ge (pc := 136) (tgt := 198) dc_M_readReference_136 rfl (fun _ => ?_) (fun hc => absurd hc (by decide))
  refine g_iload (pc := 198) dc_M_readReference_198 rfl ?_
  refine g_iconst (pc := 200) (v := 1) dc_M_readReference_200 rfl ?_
  refine g_iadd (pc := 201) (v := 1) dc_M_readReference_201 (by decide) ?_
  refine g_iload (pc := 202) dc_M_readReference_202 rfl ?_
  refine g_icmp_ge (pc := 204) (tgt := 307) dc_M_readReference_204 rfl (fun _ => ?_) (fun hc => absurd hc (by decide))
  refine g_iload (pc := 307) dc_M_readReference_307 rfl ?_
  refine g_if_ge (pc := 309) (tgt := 314) dc_M_readReference_309 rfl (fun hc => absurd hc (by decide)) (fun _ => ?_)
  refine g_iconst (pc := 312) (v := 0) dc_M_readReference_312 rfl ?_
  refine g_zretC (pc := 313) dc_M_readReference_313 rfl rfl ?_
  refine g_if_eq (pc := 37) (tgt := 56) dc_M_read_37 rfl (fun _ => ?_) (fun hc => absurd hc (by decide))
  refine g_aload_n (pc := 56) dc_M_read_56 rfl ?_
  refine g_aload_n (pc := 57) dc_M_read_57 rfl ?_
  refine g_getfield (pc := 58) dc_M_read_58 fl_M_45 rfl rfl ?_
  refine g_iconst (pc := 61) (v := 0) dc_M_read_61 rfl ?_
  refine g_iconst (pc := 62) (v := 0) dc_M_read_62 rfl ?_
  refine g_v3 (pc := 63) (M' := mt_M_show) dc_M_read_63 mo_M_show im_M_show se_M_show ln_M_502 rfl rfl rfl (Nat.le_of_ble_eq_true rfl) (Nat.le_of_ble_eq_true rfl) ?_
  refine g_aload_n (pc := 0) dc_M_show_0 rfl ?_
  refine g_iload_n (pc := 1) dc_M_show_1 rfl ?_
  refine g_putfield (pc := 2) dc_M_show_2 fp_M_show_499 rfl (Nat.le_of_ble_eq_true rfl) rfl rfl ?_
  refine g_iconst (pc := 5) (v := 0) dc_M_show_5 rfl ?_
  refine g_istore (pc := 6) dc_M_show_6 (by decide) ?_
  refine g_iload (pc := 8) dc_M_show_8 rfl ?_
  refine g_iload_n (pc := 10) dc_M_show_10 rfl ?_
  refine g_icmp_ge (pc := 11) (tgt := 33) dc_M_show_11 rfl (fun _ => ?_) (fun hc => absurd hc (by decide))
  refine g_iload_n (pc := 33) dc_M_show_33 rfl ?_
  refine g_iretC (pc := 34) dc_M_show_34 rfl ?_
  refine g_iretC (pc := 66) dc_M_read_66 rfl ?_
  refine g_icmp_eq (pc := 316) (tgt := 873) dc_L_law_316 rfl (fun _ => ?_) (fun hc => absurd hc (by decide))
  refine g_iinc (pc := 873) (v := 6) dc_L_law_873 rfl (by decide) (by decide) ?_
  refine g_goto (pc := 876) (tgt := 23) dc_L_law_876 rfl ?_
  refine g_iload (pc := 23) dc_L_law_23 rfl ?_
  refine g_xload_n (pc := 25) dc_L_law_25 rfl ?_
  refine g_scriptLenV (pc := 26) (n := 6) dc_L_law_26 hL rfl ?_
  refine g_bipush (pc := 27) (v := 6) dc_L_law_27 rfl ?_
  refine g_isub (pc := 29) (v := 0) dc_L_law_29 (by decide) ?_
  refine g_icmp_gt (pc := 30) (tgt := 879) dc_L_law_30 rfl (fun _ => ?_) (fun hc => absurd hc (by decide))
  refine g_iconst (pc := 879) (v := 1) dc_L_law_879 rfl ?_
  exact g_zreturn dc_L_law_880 rfl rfl ⟨rfl, (Nat.le_of_ble_eq_true rfl), am_bz (by (repeat (first | refine am_bw rfl ?_ | refine am_bA rfl ?_ | refine am_bB rfl ?_ | refine am_bC rfl ?_)); exact am_b0 (Nat.le_of_ble_eq_true rfl))⟩
set_option maxRecDepth 20000 in
set_option maxHeartbeats 1000000 in
theorem p1_3 {X : am_X} {p0 p1 p2 p3 p4 p5 : Int32} (hl9 : X.1.stackTraces = false) (hL : X.2.2.2.2.2.1 = 6) (e0 : X.2.2.2.2.2.2 (Int32.toNatClampNeg 0) = p0) (e1 : X.2.2.2.2.2.2 (Int32.toNatClampNeg 1) = p1) (e2 : X.2.2.2.2.2.2 (Int32.toNatClampNeg 2) = p2) (e3 : X.2.2.2.2.2.2 (Int32.toNatClampNeg 3) = p3) (e4 : X.2.2.2.2.2.2 (Int32.toNatClampNeg 4) = p4) (e5 : X.2.2.2.2.2.2 (Int32.toNatClampNeg 5) = p5) : am_G X mt_L_law 60 321 lo_0 [] hp_0 (fun r h => r = some (.int 1) ∧ h.length ≤ 600002 ∧ am_sl h ≤ 7302232) := by
  refine g_aload_n (pc := 321) dc_L_law_321 rfl ?_
  refine g_xload_n (pc := 322) dc_L_law_322 rfl ?_
  refine g_iload (pc := 323) dc_L_law_323 rfl ?_
  refine g_iconst (pc := 325) (v := 1) dc_L_law_325 rfl ?_
  refine g_iadd (pc := 326) (v := 1) dc_L_law_326 (by decide) ?_
  refine g_scriptLoadV (pc := 327) dc_L_law_327 (by rw [hL]; exact am_vin rfl) e1 ?_
  refine g_v1 (pc := 328) (M' := mt_W_page) dc_L_law_328 mo_W_page im_W_page se_W_page ln_L_43 rfl rfl rfl (Nat.le_of_ble_eq_true rfl) (Nat.le_of_ble_eq_true rfl) ?_
  refine g_aload_n (pc := 0) dc_W_page_0 rfl ?_
  refine g_v0 (pc := 1) (M' := mt_W_resolveLine) dc_W_page_1 mo_W_resolveLine im_W_resolveLine se_W_resolveLine ln_W_98 rfl rfl rfl (Nat.le_of_ble_eq_true rfl) (Nat.le_of_ble_eq_true rfl) ?_
  refine g_aload_n (pc := 0) dc_W_resolveLine_0 rfl ?_
  refine g_getfield (pc := 1) dc_W_resolveLine_1 fl_W_27 rfl rfl ?_
  refine g_aload_n (pc := 4) dc_W_resolveLine_4 rfl ?_
  refine g_getfield (pc := 5) dc_W_resolveLine_5 fl_W_12 rfl rfl ?_
  refine g_getfield (pc := 8) dc_W_resolveLine_8 fl_W_109 rfl rfl ?_
  refine g_iconst (pc := 11) (v := 0) dc_W_resolveLine_11 rfl ?_
  refine g_aload_n (pc := 12) dc_W_resolveLine_12 rfl ?_
  refine g_v0 (pc := 13) (M' := mt_W_lineTo) dc_W_resolveLine_13 mo_W_lineTo im_W_lineTo se_W_lineTo ln_W_286 rfl rfl rfl (Nat.le_of_ble_eq_true rfl) (Nat.le_of_ble_eq_true rfl) ?_
  refine g_aload_n (pc := 0) dc_W_lineTo_0 rfl ?_
  refine g_getfield (pc := 1) dc_W_lineTo_1 fl_W_12 rfl rfl ?_
  refine g_getfield (pc := 4) dc_W_lineTo_4 fl_W_109 rfl rfl ?_
  refine g_bipush (pc := 7) (v := 10) dc_W_lineTo_7 rfl ?_
  refine g_iconst (pc := 9) (v := 0) dc_W_lineTo_9 rfl ?_
  refine g_aload_n (pc := 10) dc_W_lineTo_10 rfl ?_
  refine g_getfield (pc := 11) dc_W_lineTo_11 fl_W_12 rfl rfl ?_
  refine g_getfield (pc := 14) dc_W_lineTo_14 fl_W_85 rfl rfl ?_
  refine g_s4 (pc := 17) (M' := mt_W_indexOf) dc_W_lineTo_17 mo_W_indexOf st_W_indexOf ln_W_282 (Nat.le_of_ble_eq_true rfl) (Nat.le_of_ble_eq_true rfl) ?_
  refine g_iload_n (pc := 0) dc_W_indexOf_0 rfl ?_
  refine g_istore (pc := 1) dc_W_indexOf_1 (by decide) ?_
  refine g_iload (pc := 3) dc_W_indexOf_3 rfl ?_
  refine g_iload_n (pc := 5) dc_W_indexOf_5 rfl ?_
  refine g_icmp_ge (pc := 6) (tgt := 23) dc_W_indexOf_6 rfl (fun _ => ?_) (fun hc => absurd hc (by decide))
  refine g_iload (pc := 23) dc_W_indexOf_23 rfl ?_
  refine g_iretC (pc := 25) dc_W_indexOf_25 rfl ?_
  refine g_iretC (pc := 20) dc_W_lineTo_20 rfl ?_
  refine g_null (pc := 16) dc_W_resolveLine_16 ?_
  refine g_v4 (pc := 17) (M' := mt_A_resolve) dc_W_resolveLine_17 mo_A_resolve im_A_resolve se_A_resolve ln_W_117 rfl rfl rfl (Nat.le_of_ble_eq_true rfl) (Nat.le_of_ble_eq_true rfl) ?_
  refine g_aload_n (pc := 0) dc_A_resolve_0 rfl ?_
  refine g_getfield (pc := 1) dc_A_resolve_1 fl_A_14 rfl rfl ?_
  refine g_v0 (pc := 4) (M' := mt_B_clear) dc_A_resolve_4 mo_B_clear im_B_clear se_B_clear ln_A_23 rfl rfl rfl (Nat.le_of_ble_eq_true rfl) (Nat.le_of_ble_eq_true rfl) ?_
  refine g_aload_n (pc := 0) dc_B_clear_0 rfl ?_
  refine g_iconst (pc := 1) (v := 0) dc_B_clear_1 rfl ?_
  refine g_putfield (pc := 2) dc_B_clear_2 fp_B_clear_15 rfl (Nat.le_of_ble_eq_true rfl) rfl rfl ?_
  refine g_vretC (pc := 5) dc_B_clear_5 rfl ?_
  refine g_aload_n (pc := 7) dc_A_resolve_7 rfl ?_
  refine g_getfield (pc := 8) dc_A_resolve_8 fl_A_20 rfl rfl ?_
  refine g_v0 (pc := 11) (M' := mt_B_clear) dc_A_resolve_11 mo_B_clear im_B_clear se_B_clear ln_A_23 rfl rfl rfl (Nat.le_of_ble_eq_true rfl) (Nat.le_of_ble_eq_true rfl) ?_
  refine g_aload_n (pc := 0) dc_B_clear_0 rfl ?_
  refine g_iconst (pc := 1) (v := 0) dc_B_clear_1 rfl ?_
  refine g_putfield (pc := 2) dc_B_clear_2 fp_B_clear_15 rfl (Nat.le_of_ble_eq_true rfl) rfl rfl ?_
  refine g_vretC (pc := 5) dc_B_clear_5 rfl ?_
  refine g_aload_n (pc := 14) dc_A_resolve_14 rfl ?_
  refine g_iload_n (pc := 15) dc_A_resolve_15 rfl ?_
  refine g_iload_n (pc := 16) dc_A_resolve_16 rfl ?_
  refine g_s3 (pc := 17) (M' := mt_W_trimmedFrom) dc_A_resolve_17 mo_W_trimmedFrom st_W_trimmedFrom ln_A_26 (Nat.le_of_ble_eq_true rfl) (Nat.le_of_ble_eq_true rfl) ?_
  refine g_iload_n (pc := 0) dc_W_trimmedFrom_0 rfl ?_
  refine g_istore_n (pc := 1) dc_W_trimmedFrom_1 (by decide) ?_
  refine g_iload_n (pc := 2) dc_W_trimmedFrom_2 rfl ?_
  refine g_iload_n (pc := 3) dc_W_trimmedFrom_3 rfl ?_
  refine g_icmp_ge (pc := 4) (tgt := 22) dc_W_trimmedFrom_4 rfl (fun _ => ?_) (fun hc => absurd hc (by decide))
  refine g_iload_n (pc := 22) dc_W_trimmedFrom_22 rfl ?_
  refine g_iretC (pc := 23) dc_W_trimmedFrom_23 rfl ?_
  refine g_istore (pc := 20) dc_A_resolve_20 (by decide) ?_
  refine g_aload_n (pc := 22) dc_A_resolve_22 rfl ?_
  refine g_bipush (pc := 23) (v := 35) dc_A_resolve_23 rfl ?_
  refine g_iload (pc := 25) dc_A_resolve_25 rfl ?_
  refine g_aload_n (pc := 27) dc_A_resolve_27 rfl ?_
  refine g_iload (pc := 28) dc_A_resolve_28 rfl ?_
  refine g_iload_n (pc := 30) dc_A_resolve_30 rfl ?_
  refine g_s3 (pc := 31) (M' := mt_W_trimmedTo) dc_A_resolve_31 mo_W_trimmedTo st_W_trimmedTo ln_A_30 (Nat.le_of_ble_eq_true rfl) (Nat.le_of_ble_eq_true rfl) ?_
  refine g_iload_n (pc := 0) dc_W_trimmedTo_0 rfl ?_
  refine g_istore_n (pc := 1) dc_W_trimmedTo_1 (by decide) ?_
  refine g_iload_n (pc := 2) dc_W_trimmedTo_2 rfl ?_
  refine g_iload_n (pc := 3) dc_W_trimmedTo_3 rfl ?_
  refine g_icmp_le (pc := 4) (tgt := 24) dc_W_trimmedTo_4 rfl (fun _ => ?_) (fun hc => absurd hc (by decide))
  refine g_iload_n (pc := 24) dc_W_trimmedTo_24 rfl ?_
  refine g_iretC (pc := 25) dc_W_trimmedTo_25 rfl ?_
  refine g_s4 (pc := 34) (M' := mt_W_indexOf) dc_A_resolve_34 mo_W_indexOf st_W_indexOf ln_A_33 (Nat.le_of_ble_eq_true rfl) (Nat.le_of_ble_eq_true rfl) ?_
  refine g_iload_n (pc := 0) dc_W_indexOf_0 rfl ?_
  refine g_istore (pc := 1) dc_W_indexOf_1 (by decide) ?_
  refine g_iload (pc := 3) dc_W_indexOf_3 rfl ?_
  refine g_iload_n (pc := 5) dc_W_indexOf_5 rfl ?_
  refine g_icmp_ge (pc := 6) (tgt := 23) dc_W_indexOf_6 rfl (fun _ => ?_) (fun hc => absurd hc (by decide))
  refine g_iload (pc := 23) dc_W_indexOf_23 rfl ?_
  refine g_iretC (pc := 25) dc_W_indexOf_25 rfl ?_
  refine g_istore (pc := 37) dc_A_resolve_37 (by decide) ?_
  refine g_aload_n (pc := 39) dc_A_resolve_39 rfl ?_
  refine g_iload (pc := 40) dc_A_resolve_40 rfl ?_
  refine g_iload (pc := 42) dc_A_resolve_42 rfl ?_
  refine g_s3 (pc := 44) (M' := mt_A_isClean) dc_A_resolve_44 mo_A_isClean st_A_isClean ln_A_37 (Nat.le_of_ble_eq_true rfl) (Nat.le_of_ble_eq_true rfl) ?_
  refine g_iload_n (pc := 0) dc_A_isClean_0 rfl ?_
  refine g_istore_n (pc := 1) dc_A_isClean_1 (by decide) ?_
  refine g_iload_n (pc := 2) dc_A_isClean_2 rfl ?_
  refine g_iload_n (pc := 3) dc_A_isClean_3 rfl ?_
  refine g_icmp_ge (pc := 4) (tgt := 64) dc_A_isClean_4 rfl (fun _ => ?_) (fun hc => absurd hc (by decide))
  refine g_iconst (pc := 64) (v := 1) dc_A_isClean_64 rfl ?_
  refine g_zretC (pc := 65) dc_A_isClean_65 rfl rfl ?_
  refine g_if_ne (pc := 47) (tgt := 52) dc_A_resolve_47 rfl (fun _ => ?_) (fun hc => absurd hc (by decide))
  refine g_aload_n (pc := 52) dc_A_resolve_52 rfl ?_
  refine g_bipush (pc := 53) (v := 58) dc_A_resolve_53 rfl ?_
  refine g_iload (pc := 55) dc_A_resolve_55 rfl ?_
  refine g_iload (pc := 57) dc_A_resolve_57 rfl ?_
  refine g_s4 (pc := 59) (M' := mt_W_indexOf) dc_A_resolve_59 mo_W_indexOf st_W_indexOf ln_A_33 (Nat.le_of_ble_eq_true rfl) (Nat.le_of_ble_eq_true rfl) ?_
  refine g_iload_n (pc := 0) dc_W_indexOf_0 rfl ?_
  refine g_istore (pc := 1) dc_W_indexOf_1 (by decide) ?_
  refine g_iload (pc := 3) dc_W_indexOf_3 rfl ?_
  refine g_iload_n (pc := 5) dc_W_indexOf_5 rfl ?_
  refine g_icmp_ge (pc := 6) (tgt := 23) dc_W_indexOf_6 rfl (fun _ => ?_) (fun hc => absurd hc (by decide))
  refine g_iload (pc := 23) dc_W_indexOf_23 rfl ?_
  refine g_iretC (pc := 25) dc_W_indexOf_25 rfl ?_
  refine g_istore (pc := 62) dc_A_resolve_62 (by decide) ?_
  refine g_iload (pc := 64) dc_A_resolve_64 rfl ?_
  refine g_aload_n (pc := 66) dc_A_resolve_66 rfl ?_
  refine g_bipush (pc := 67) (v := 47) dc_A_resolve_67 rfl ?_
  refine g_iload (pc := 69) dc_A_resolve_69 rfl ?_
  refine g_iload (pc := 71) dc_A_resolve_71 rfl ?_
  refine g_s4 (pc := 73) (M' := mt_W_indexOf) dc_A_resolve_73 mo_W_indexOf st_W_indexOf ln_A_33 (Nat.le_of_ble_eq_true rfl) (Nat.le_of_ble_eq_true rfl) ?_
  refine g_iload_n (pc := 0) dc_W_indexOf_0 rfl ?_
  refine g_istore (pc := 1) dc_W_indexOf_1 (by decide) ?_
  refine g_iload (pc := 3) dc_W_indexOf_3 rfl ?_
  refine g_iload_n (pc := 5) dc_W_indexOf_5 rfl ?_
  refine g_icmp_ge (pc := 6) (tgt := 23) dc_W_indexOf_6 rfl (fun _ => ?_) (fun hc => absurd hc (by decide))
  refine g_iload (pc := 23) dc_W_indexOf_23 rfl ?_
  refine g_iretC (pc := 25) dc_W_indexOf_25 rfl ?_
  refine g_aload_n (pc := 76) dc_A_resolve_76 rfl ?_
  refine g_bipush (pc := 77) (v := 63) dc_A_resolve_77 rfl ?_
  refine g_iload (pc := 79) dc_A_resolve_79 rfl ?_
  refine g_iload (pc := 81) dc_A_resolve_81 rfl ?_
  refine g_s4 (pc := 83) (M' := mt_W_indexOf) dc_A_resolve_83 mo_W_indexOf st_W_indexOf ln_A_33 (Nat.le_of_ble_eq_true rfl) (Nat.le_of_ble_eq_true rfl) ?_
  refine g_iload_n (pc := 0) dc_W_indexOf_0 rfl ?_
  refine g_istore (pc := 1) dc_W_indexOf_1 (by decide) ?_
  refine g_iload (pc := 3) dc_W_indexOf_3 rfl ?_
  refine g_iload_n (pc := 5) dc_W_indexOf_5 rfl ?_
  refine g_icmp_ge (pc := 6) (tgt := 23) dc_W_indexOf_6 rfl (fun _ => ?_) (fun hc => absurd hc (by decide))
  refine g_iload (pc := 23) dc_W_indexOf_23 rfl ?_
  refine g_iretC (pc := 25) dc_W_indexOf_25 rfl ?_
  refine g_s2 (pc := 86) (M' := mt_JMath_min) dc_A_resolve_86 mo_JMath_min st_JMath_min ln_A_41 (Nat.le_of_ble_eq_true rfl) (Nat.le_of_ble_eq_true rfl) ?_
  refine g_iload_n (pc := 0) dc_JMath_min_0 rfl ?_
  refine g_iload_n (pc := 1) dc_JMath_min_1 rfl ?_
  refine g_icmp_gt (pc := 2) (tgt := 9) dc_JMath_min_2 rfl (fun hc => absurd hc (by decide)) (fun _ => ?_)
  refine g_iload_n (pc := 5) dc_JMath_min_5 rfl ?_
  refine g_goto (pc := 6) (tgt := 10) dc_JMath_min_6 rfl ?_
  refine g_iretC (pc := 10) dc_JMath_min_10 rfl ?_
  refine g_icmp_ge (pc := 89) (tgt := 128) dc_A_resolve_89 rfl (fun _ => ?_) (fun hc => absurd hc (by decide))
  refine g_aload_n (pc := 128) dc_A_resolve_128 rfl ?_
  refine g_iload (pc := 129) dc_A_resolve_129 rfl ?_
  refine g_iload (pc := 131) dc_A_resolve_131 rfl ?_
  refine g_ldcS (pc := 133) 2 dc_A_resolve_133 (by decide) rfl rfl ?_
  refine g_s4 (pc := 135) (M' := mt_W_beginsWith) dc_A_resolve_135 mo_W_beginsWith st_W_beginsWith ln_A_55 (Nat.le_of_ble_eq_true rfl) (Nat.le_of_ble_eq_true rfl) ?_
  refine g_iload_n (pc := 0) dc_W_beginsWith_0 rfl ?_
  refine g_xload_n (pc := 1) dc_W_beginsWith_1 rfl ?_
  refine g_x0 (pc := 2) (M' := mt_JString_length) dc_W_beginsWith_2 mo_JString_length im_JString_length se_JString_length (am_t3 75 rfl rfl) (by decide) (Nat.le_of_ble_eq_true rfl) (Nat.le_of_ble_eq_true rfl) ?_
  refine g_xload_n (pc := 0) dc_JString_length_0 rfl ?_
  refine g_sValue (pc := 1) dc_JString_length_1 (by decide) (am_t4 204 rfl rfl) ?_
  refine g_sLen (pc := 4) (n := 2) dc_JString_length_4 (by decide) rfl ?_
  refine g_xload_n (pc := 5) dc_JString_length_5 rfl ?_
  refine g_x0 (pc := 6) (M' := mt_JString_coder) dc_JString_length_6 mo_JString_coder im_JString_coder se_JString_coder (am_t2 236 rfl rfl) (by decide) (Nat.le_of_ble_eq_true rfl) (Nat.le_of_ble_eq_true rfl) ?_
  refine g_gsCompact (pc := 0) dc_JString_coder_0 (am_t2 230 rfl rfl) ?_
  refine g_if_eq (pc := 3) (tgt := 13) dc_JString_coder_3 rfl (fun hc => absurd hc (by decide)) (fun _ => ?_)
  refine g_xload_n (pc := 6) dc_JString_coder_6 rfl ?_
  refine g_sCoder (pc := 7) dc_JString_coder_7 (by decide) (am_t4 205 rfl rfl) ?_
  refine g_goto (pc := 10) (tgt := 14) dc_JString_coder_10 rfl ?_
  refine g_bretC (pc := 14) dc_JString_coder_14 rfl rfl ?_
  refine g_ishr (pc := 9) (v := 2) dc_JString_length_9 (by decide) ?_
  refine g_iretC (pc := 10) dc_JString_length_10 rfl ?_
  refine g_iadd (pc := 5) (v := 2) dc_W_beginsWith_5 (by decide) ?_
  refine g_istore (pc := 6) dc_W_beginsWith_6 (by decide) ?_
  refine g_iload (pc := 8) dc_W_beginsWith_8 rfl ?_
  refine g_iload_n (pc := 10) dc_W_beginsWith_10 rfl ?_
  refine g_icmp_gt (pc := 11) (tgt := 29) dc_W_beginsWith_11 rfl (fun _ => ?_) (fun hc => absurd hc (by decide))
  refine g_iconst (pc := 29) (v := 0) dc_W_beginsWith_29 rfl ?_
  refine g_zretC (pc := 30) dc_W_beginsWith_30 rfl rfl ?_
  refine g_if_eq (pc := 138) (tgt := 155) dc_A_resolve_138 rfl (fun _ => ?_) (fun hc => absurd hc (by decide))
  refine g_aload_n (pc := 155) dc_A_resolve_155 rfl ?_
  refine g_aload_n (pc := 156) dc_A_resolve_156 rfl ?_
  refine g_iload (pc := 157) dc_A_resolve_157 rfl ?_
  refine g_iload (pc := 159) dc_A_resolve_159 rfl ?_
  refine g_aloadN (pc := 161) dc_A_resolve_161 rfl ?_
  refine g_v4 (pc := 163) (M' := mt_A_joinBase) dc_A_resolve_163 mo_A_joinBase im_A_joinBase se_A_joinBase ln_A_61 rfl rfl rfl (Nat.le_of_ble_eq_true rfl) (Nat.le_of_ble_eq_true rfl) ?_
  refine g_aloadN (pc := 0) dc_A_joinBase_0 rfl ?_
  refine g_ifnullN (pc := 2) (tgt := 13) dc_A_joinBase_2 rfl ?_
  refine g_iconst (pc := 13) (v := (-1)) dc_A_joinBase_13 rfl ?_
  refine g_iretC (pc := 14) dc_A_joinBase_14 rfl ?_
  refine g_istore (pc := 166) dc_A_resolve_166 (by decide) ?_
  refine g_iload (pc := 168) dc_A_resolve_168 rfl ?_
  refine g_iconst (pc := 170) (v := (-1)) dc_A_resolve_170 rfl ?_
  refine g_icmp_ne (pc := 171) (tgt := 176) dc_A_resolve_171 rfl (fun hc => absurd hc (by decide)) (fun _ => ?_)
  refine g_iconst (pc := 174) (v := 0) dc_A_resolve_174 rfl ?_
  refine g_zretC (pc := 175) dc_A_resolve_175 rfl rfl ?_
  refine g_zretC (pc := 20) dc_W_resolveLine_20 rfl rfl ?_
  refine g_istore_n (pc := 4) dc_W_page_4 (by decide) ?_
  refine g_iconst (pc := 5) (v := (-1)) dc_W_page_5 rfl ?_
  refine g_istore_n (pc := 6) dc_W_page_6 (by decide) ?_
  refine g_iload_n (pc := 7) dc_W_page_7 rfl ?_
  refine g_if_eq (pc := 8) (tgt := 48) dc_W_page_8 rfl (fun _ => ?_) (fun hc => absurd hc (by decide))
  refine g_aload_n (pc := 48) dc_W_page_48 rfl ?_
  refine g_getfield (pc := 49) dc_W_page_49 fl_W_12 rfl rfl ?_
  refine g_v0 (pc := 52) (M' := mt_B_clear) dc_W_page_52 mo_B_clear im_B_clear se_B_clear ln_W_121 rfl rfl rfl (Nat.le_of_ble_eq_true rfl) (Nat.le_of_ble_eq_true rfl) ?_
  refine g_aload_n (pc := 0) dc_B_clear_0 rfl ?_
  refine g_iconst (pc := 1) (v := 0) dc_B_clear_1 rfl ?_
  refine g_putfield (pc := 2) dc_B_clear_2 fp_B_clear_15 rfl (Nat.le_of_ble_eq_true rfl) rfl rfl ?_
  refine g_vretC (pc := 5) dc_B_clear_5 rfl ?_
  refine g_iload_n (pc := 55) dc_W_page_55 rfl ?_
  refine g_iretC (pc := 56) dc_W_page_56 rfl ?_
  refine g_aload_n (pc := 331) dc_L_law_331 rfl ?_
  refine g_xload_n (pc := 332) dc_L_law_332 rfl ?_
  refine g_iload (pc := 333) dc_L_law_333 rfl ?_
  refine g_iconst (pc := 335) (v := 1) dc_L_law_335 rfl ?_
  refine g_iadd (pc := 336) (v := 1) dc_L_law_336 (by decide) ?_
  refine g_scriptLoadV (pc := 337) dc_L_law_337 (by rw [hL]; exact am_vin rfl) e1 ?_
  refine g_v1 (pc := 338) (M' := mt_M_page) dc_L_law_338 mo_M_page im_M_page se_M_page ln_L_46 rfl rfl rfl (Nat.le_of_ble_eq_true rfl) (Nat.le_of_ble_eq_true rfl) ?_
  refine g_aload_n (pc := 0) dc_M_page_0 rfl ?_
  refine g_v0 (pc := 1) (M' := mt_M_use) dc_M_page_1 mo_M_use im_M_use se_M_use ln_M_505 rfl rfl rfl (Nat.le_of_ble_eq_true rfl) (Nat.le_of_ble_eq_true rfl) ?_
  refine g_aload_n (pc := 0) dc_M_use_0 rfl ?_
  refine g_iconst (pc := 1) (v := 0) dc_M_use_1 rfl ?_
  refine g_putfield (pc := 2) dc_M_use_2 fp_M_use_1 rfl (Nat.le_of_ble_eq_true rfl) rfl rfl ?_
  refine g_aload_n (pc := 5) dc_M_use_5 rfl ?_
  refine g_getfield (pc := 6) dc_M_use_6 fl_M_493 rfl rfl ?_
  refine g_istore_n (pc := 9) dc_M_use_9 (by decide) ?_
  refine g_aload_n (pc := 10) dc_M_use_10 rfl ?_
  refine g_iconst (pc := 11) (v := 0) dc_M_use_11 rfl ?_
  refine g_putfield (pc := 12) dc_M_use_12 fp_M_use_493 rfl (Nat.le_of_ble_eq_true rfl) rfl rfl ?_
  refine g_iload_n (pc := 15) dc_M_use_15 rfl ?_
  refine g_iretC (pc := 16) dc_M_use_16 rfl ?_
  refine g_istore_n (pc := 4) dc_M_page_4 (by decide) ?_
  refine g_iload_n (pc := 5) dc_M_page_5 rfl ?_
  refine g_bipush (pc := 6) (v := 100) dc_M_page_6 rfl ?_
  refine g_icmp_lt (pc := 8) (tgt := 26) dc_M_page_8 rfl (fun hc0 => ?_) (fun hc0 => ?_)
  · have hi0 : p1.toInt < 100 := Int32.lt_iff_toInt_lt.mp hc0
    refine g_iconst (pc := 26) (v := (-1)) dc_M_page_26 rfl ?_
    refine g_iretC (pc := 27) dc_M_page_27 rfl ?_
    refine g_icmp_eq (pc := 341) (tgt := 873) dc_L_law_341 rfl (fun _ => ?_) (fun hc => absurd hc (by decide))
    refine g_iinc (pc := 873) (v := 6) dc_L_law_873 rfl (by decide) (by decide) ?_
    refine g_goto (pc := 876) (tgt := 23) dc_L_law_876 rfl ?_
    refine g_iload (pc := 23) dc_L_law_23 rfl ?_
    refine g_xload_n (pc := 25) dc_L_law_25 rfl ?_
    refine g_scriptLenV (pc := 26) (n := 6) dc_L_law_26 hL rfl ?_
    refine g_bipush (pc := 27) (v := 6) dc_L_law_27 rfl ?_
    refine g_isub (pc := 29) (v := 0) dc_L_law_29 (by decide) ?_
    refine g_icmp_gt (pc := 30) (tgt := 879) dc_L_law_30 rfl (fun _ => ?_) (fun hc => absurd hc (by decide))
    refine g_iconst (pc := 879) (v := 1) dc_L_law_879 rfl ?_
    exact g_zreturn dc_L_law_880 rfl rfl ⟨rfl, (Nat.le_of_ble_eq_true rfl), am_bz (by (repeat (first | refine am_bw rfl ?_ | refine am_bA rfl ?_ | refine am_bB rfl ?_ | refine am_bC rfl ?_)); exact am_b0 (Nat.le_of_ble_eq_true rfl))⟩
  · have hi0 : ¬ (p1.toInt < 100) := fun h9 => hc0 (Int32.lt_iff_toInt_lt.mpr h9)
    refine g_iload_n (pc := 11) dc_M_page_11 rfl ?_
    refine g_sipush (pc := 12) (v := 599) dc_M_page_12 rfl ?_
    refine g_icmp_gt (pc := 15) (tgt := 26) dc_M_page_15 rfl (fun hc1 => ?_) (fun hc1 => ?_)
    · have hi1 : 599 < p1.toInt := Int32.lt_iff_toInt_lt.mp hc1
      refine g_iconst (pc := 26) (v := (-1)) dc_M_page_26 rfl ?_
      refine g_iretC (pc := 27) dc_M_page_27 rfl ?_
      refine g_icmp_eq (pc := 341) (tgt := 873) dc_L_law_341 rfl (fun _ => ?_) (fun hc => absurd hc (by decide))
      refine g_iinc (pc := 873) (v := 6) dc_L_law_873 rfl (by decide) (by decide) ?_
      refine g_goto (pc := 876) (tgt := 23) dc_L_law_876 rfl ?_
      refine g_iload (pc := 23) dc_L_law_23 rfl ?_
      refine g_xload_n (pc := 25) dc_L_law_25 rfl ?_
      refine g_scriptLenV (pc := 26) (n := 6) dc_L_law_26 hL rfl ?_
      refine g_bipush (pc := 27) (v := 6) dc_L_law_27 rfl ?_
      refine g_isub (pc := 29) (v := 0) dc_L_law_29 (by decide) ?_
      refine g_icmp_gt (pc := 30) (tgt := 879) dc_L_law_30 rfl (fun _ => ?_) (fun hc => absurd hc (by decide))
      refine g_iconst (pc := 879) (v := 1) dc_L_law_879 rfl ?_
      exact g_zreturn dc_L_law_880 rfl rfl ⟨rfl, (Nat.le_of_ble_eq_true rfl), am_bz (by (repeat (first | refine am_bw rfl ?_ | refine am_bA rfl ?_ | refine am_bB rfl ?_ | refine am_bC rfl ?_)); exact am_b0 (Nat.le_of_ble_eq_true rfl))⟩
    · have hi1 : ¬ (599 < p1.toInt) := fun h9 => hc1 (Int32.lt_iff_toInt_lt.mpr h9)
      refine g_aload_n (pc := 18) dc_M_page_18 rfl ?_
      refine g_iload_n (pc := 19) dc_M_page_19 rfl ?_
      refine g_v1 (pc := 20) (M' := mt_M_readFirst) dc_M_page_20 mo_M_readFirst im_M_readFirst se_M_readFirst ln_M_508 rfl rfl rfl (Nat.le_of_ble_eq_true rfl) (Nat.le_of_ble_eq_true rfl) ?_
      refine g_aload_n (pc := 0) dc_M_readFirst_0 rfl ?_
      refine g_aload_n (pc := 1) dc_M_readFirst_1 rfl ?_
      refine g_getfield (pc := 2) dc_M_readFirst_2 fl_M_143 rfl rfl ?_
      refine g_iconst (pc := 5) (v := 0) dc_M_readFirst_5 rfl ?_
      refine g_aload_n (pc := 6) dc_M_readFirst_6 rfl ?_
      refine g_getfield (pc := 7) dc_M_readFirst_7 fl_M_143 rfl rfl ?_
      refine g_iconst (pc := 10) (v := 0) dc_M_readFirst_10 rfl ?_
      refine g_iload_n (pc := 11) dc_M_readFirst_11 rfl ?_
      refine g_s3 (pc := 12) (M' := mt_M_lineEnd) dc_M_readFirst_12 mo_M_lineEnd st_M_lineEnd ln_M_455 (Nat.le_of_ble_eq_true rfl) (Nat.le_of_ble_eq_true rfl) ?_
      refine g_aload_n (pc := 0) dc_M_lineEnd_0 rfl ?_
      refine g_iload_n (pc := 1) dc_M_lineEnd_1 rfl ?_
      refine g_iload_n (pc := 2) dc_M_lineEnd_2 rfl ?_
      refine g_bipush (pc := 3) (v := 10) dc_M_lineEnd_3 rfl ?_
      refine g_s4 (pc := 5) (M' := mt_M_seek) dc_M_lineEnd_5 mo_M_seek st_M_seek ln_M_48 (Nat.le_of_ble_eq_true rfl) (Nat.le_of_ble_eq_true rfl) ?_
      refine g_iload_n (pc := 0) dc_M_seek_0 rfl ?_
      refine g_istore (pc := 1) dc_M_seek_1 (by decide) ?_
      refine g_iload (pc := 3) dc_M_seek_3 rfl ?_
      refine g_iload_n (pc := 5) dc_M_seek_5 rfl ?_
      refine g_icmp_ge (pc := 6) (tgt := 23) dc_M_seek_6 rfl (fun _ => ?_) (fun hc => absurd hc (by decide))
      refine g_iload (pc := 23) dc_M_seek_23 rfl ?_
      refine g_iretC (pc := 25) dc_M_seek_25 rfl ?_
      refine g_istore_n (pc := 8) dc_M_lineEnd_8 (by decide) ?_
      refine g_iload_n (pc := 9) dc_M_lineEnd_9 rfl ?_
      refine g_iload_n (pc := 10) dc_M_lineEnd_10 rfl ?_
      refine g_icmp_ge (pc := 11) (tgt := 35) dc_M_lineEnd_11 rfl (fun _ => ?_) (fun hc => absurd hc (by decide))
      refine g_iload_n (pc := 35) dc_M_lineEnd_35 rfl ?_
      refine g_iretC (pc := 36) dc_M_lineEnd_36 rfl ?_
      refine g_iconst (pc := 15) (v := (-1)) dc_M_readFirst_15 rfl ?_
      refine g_v4 (pc := 16) (M' := mt_M_readReference) dc_M_readFirst_16 mo_M_readReference im_M_readReference se_M_readReference ln_M_297 rfl rfl rfl (Nat.le_of_ble_eq_true rfl) (Nat.le_of_ble_eq_true rfl) ?_
      refine g_iload_n (pc := 0) dc_M_readReference_0 rfl ?_
      refine g_istore (pc := 1) dc_M_readReference_1 (by decide) ?_
      refine g_iload_n (pc := 3) dc_M_readReference_3 rfl ?_
      refine g_istore (pc := 4) dc_M_readReference_4 (by decide) ?_
      refine g_iload (pc := 6) dc_M_readReference_6 rfl ?_
      refine g_iload (pc := 8) dc_M_readReference_8 rfl ?_
      refine g_icmp_ge (pc := 10) (tgt := 29) dc_M_readReference_10 rfl (fun _ => ?_) (fun hc => absurd hc (by decide))
      refine g_iload (pc := 29) dc_M_readReference_29 rfl ?_
      refine g_iload (pc := 31) dc_M_readReference_31 rfl ?_
      refine g_icmp_le (pc := 33) (tgt := 54) dc_M_readReference_33 rfl (fun _ => ?_) (fun hc => absurd hc (by decide))
      refine g_aload_n (pc := 54) dc_M_readReference_54 rfl ?_
      refine g_iload (pc := 55) dc_M_readReference_55 rfl ?_
      refine g_iload (pc := 57) dc_M_readReference_57 rfl ?_
      refine g_bipush (pc := 59) (v := 35) dc_M_readReference_59 rfl ?_
      refine g_s4 (pc := 61) (M' := mt_M_seek) dc_M_readReference_61 mo_M_seek st_M_seek ln_M_48 (Nat.le_of_ble_eq_true rfl) (Nat.le_of_ble_eq_true rfl) ?_
      refine g_iload_n (pc := 0) dc_M_seek_0 rfl ?_
      refine g_istore (pc := 1) dc_M_seek_1 (by decide) ?_
      refine g_iload (pc := 3) dc_M_seek_3 rfl ?_
      refine g_iload_n (pc := 5) dc_M_seek_5 rfl ?_
      refine g_icmp_ge (pc := 6) (tgt := 23) dc_M_seek_6 rfl (fun _ => ?_) (fun hc => absurd hc (by decide))
      refine g_iload (pc := 23) dc_M_seek_23 rfl ?_
      refine g_iretC (pc := 25) dc_M_seek_25 rfl ?_
      refine g_istore (pc := 64) dc_M_readReference_64 (by decide) ?_
      refine g_iload (pc := 66) dc_M_readReference_66 rfl ?_
      refine g_istore (pc := 68) dc_M_readReference_68 (by decide) ?_
      refine g_iload (pc := 70) dc_M_readReference_70 rfl ?_
      refine g_iload (pc := 72) dc_M_readReference_72 rfl ?_
      refine g_icmp_ge (pc := 74) (tgt := 96) dc_M_readReference_74 rfl (fun _ => ?_) (fun hc => absurd hc (by decide))
      refine g_aload_n (pc := 96) dc_M_readReference_96 rfl ?_
      refine g_iload (pc := 97) dc_M_readReference_97 rfl ?_
      refine g_iload (pc := 99) dc_M_readReference_99 rfl ?_
      refine g_bipush (pc := 101) (v := 58) dc_M_readReference_101 rfl ?_
      refine g_s4 (pc := 103) (M' := mt_M_seek) dc_M_readReference_103 mo_M_seek st_M_seek ln_M_48 (Nat.le_of_ble_eq_true rfl) (Nat.le_of_ble_eq_true rfl) ?_
      refine g_iload_n (pc := 0) dc_M_seek_0 rfl ?_
      refine g_istore (pc := 1) dc_M_seek_1 (by decide) ?_
      refine g_iload (pc := 3) dc_M_seek_3 rfl ?_
      refine g_iload_n (pc := 5) dc_M_seek_5 rfl ?_
      refine g_icmp_ge (pc := 6) (tgt := 23) dc_M_seek_6 rfl (fun _ => ?_) (fun hc => absurd hc (by decide))
      refine g_iload (pc := 23) dc_M_seek_23 rfl ?_
      refine g_iretC (pc := 25) dc_M_seek_25 rfl ?_
      refine g_istore (pc := 106) dc_M_readReference_106 (by decide) ?_
      refine g_aload_n (pc := 108) dc_M_readReference_108 rfl ?_
      refine g_iload (pc := 109) dc_M_readReference_109 rfl ?_
      refine g_iload (pc := 111) dc_M_readReference_111 rfl ?_
      refine g_bipush (pc := 113) (v := 47) dc_M_readReference_113 rfl ?_
      refine g_s4 (pc := 115) (M' := mt_M_seek) dc_M_readReference_115 mo_M_seek st_M_seek ln_M_48 (Nat.le_of_ble_eq_true rfl) (Nat.le_of_ble_eq_true rfl) ?_
      refine g_iload_n (pc := 0) dc_M_seek_0 rfl ?_
      refine g_istore (pc := 1) dc_M_seek_1 (by decide) ?_
      refine g_iload (pc := 3) dc_M_seek_3 rfl ?_
      refine g_iload_n (pc := 5) dc_M_seek_5 rfl ?_
      refine g_icmp_ge (pc := 6) (tgt := 23) dc_M_seek_6 rfl (fun _ => ?_) (fun hc => absurd hc (by decide))
      refine g_iload (pc := 23) dc_M_seek_23 rfl ?_
      refine g_iretC (pc := 25) dc_M_seek_25 rfl ?_
      refine g_istore (pc := 118) dc_M_readReference_118 (by decide) ?_
      refine g_aload_n (pc := 120) dc_M_readReference_120 rfl ?_
      refine g_iload (pc := 121) dc_M_readReference_121 rfl ?_
      refine g_iload (pc := 123) dc_M_readReference_123 rfl ?_
      refine g_bipush (pc := 125) (v := 63) dc_M_readReference_125 rfl ?_
      refine g_s4 (pc := 127) (M' := mt_M_seek) dc_M_readReference_127 mo_M_seek st_M_seek ln_M_48 (Nat.le_of_ble_eq_true rfl) (Nat.le_of_ble_eq_true rfl) ?_
      refine g_iload_n (pc := 0) dc_M_seek_0 rfl ?_
      refine g_istore (pc := 1) dc_M_seek_1 (by decide) ?_
      refine g_iload (pc := 3) dc_M_seek_3 rfl ?_
      refine g_iload_n (pc := 5) dc_M_seek_5 rfl ?_
      refine g_icmp_ge (pc := 6) (tgt := 23) dc_M_seek_6 rfl (fun _ => ?_) (fun hc => absurd hc (by decide))
      refine g_iload (pc := 23) dc_M_seek_23 rfl ?_
      refine g_iretC (pc := 25) dc_M_seek_25 rfl ?_
      refine g_istore (pc := 130) dc_M_readReference_130 (by decide) ?_
      refine g_iload (pc := 132) dc_M_readReference_132 rfl ?_
      refine g_iload (pc := 134) dc_M_readReference_134 rfl ?_
      refine g_icmp_ge (pc := 136) (tgt := 198) dc_M_readReference_136 rfl (fun _ => ?_) (fun hc => absurd hc (by decide))
      refine g_iload (pc := 198) dc_M_readReference_198 rfl ?_
      refine g_iconst (pc := 200) (v := 1) dc_M_readReference_200 rfl ?_
      refine g_iadd (pc := 201) (v := 1) dc_M_readReference_201 (by decide) ?_
      refine g_iload (pc := 202) dc_M_readReference_202 rfl ?_
      refine g_icmp_ge (pc := 204) (tgt := 307) dc_M_readReference_204 rfl (fun _ => ?_) (fun hc => absurd hc (by decide))
      refine g_iload (pc := 307) dc_M_readReference_307 rfl ?_
      refine g_if_ge (pc := 309) (tgt := 314) dc_M_readReference_309 rfl (fun hc => absurd hc (by decide)) (fun _ => ?_)
      refine g_iconst (pc := 312) (v := 0) dc_M_readReference_312 rfl ?_
      refine g_zretC (pc := 313) dc_M_readReference_313 rfl rfl ?_
      refine g_zretC (pc := 19) dc_M_readFirst_19 rfl rfl ?_
      refine g_if_ne (pc := 23) (tgt := 28) dc_M_page_23 rfl (fun hc => absurd hc (by decide)) (fun _ => ?_)
      refine g_iconst (pc := 26) (v := (-1)) dc_M_page_26 rfl ?_
      refine g_iretC (pc := 27) dc_M_page_27 rfl ?_
      refine g_icmp_eq (pc := 341) (tgt := 873) dc_L_law_341 rfl (fun _ => ?_) (fun hc => absurd hc (by decide))
      refine g_iinc (pc := 873) (v := 6) dc_L_law_873 rfl (by decide) (by decide) ?_
      refine g_goto (pc := 876) (tgt := 23) dc_L_law_876 rfl ?_
      refine g_iload (pc := 23) dc_L_law_23 rfl ?_
      refine g_xload_n (pc := 25) dc_L_law_25 rfl ?_
      refine g_scriptLenV (pc := 26) (n := 6) dc_L_law_26 hL rfl ?_
      refine g_bipush (pc := 27) (v := 6) dc_L_law_27 rfl ?_
      refine g_isub (pc := 29) (v := 0) dc_L_law_29 (by decide) ?_
      refine g_icmp_gt (pc := 30) (tgt := 879) dc_L_law_30 rfl (fun _ => ?_) (fun hc => absurd hc (by decide))
      refine g_iconst (pc := 879) (v := 1) dc_L_law_879 rfl ?_
      exact g_zreturn dc_L_law_880 rfl rfl ⟨rfl, (Nat.le_of_ble_eq_true rfl), am_bz (by (repeat (first | refine am_bw rfl ?_ | refine am_bA rfl ?_ | refine am_bB rfl ?_ | refine am_bC rfl ?_)); exact am_b0 (Nat.le_of_ble_eq_true rfl))⟩
set_option maxRecDepth 20000 in
set_option maxHeartbeats 1000000 in
theorem p1_4 {X : am_X} {p0 p1 p2 p3 p4 p5 : Int32} (hl9 : X.1.stackTraces = false) (hL : X.2.2.2.2.2.1 = 6) (e0 : X.2.2.2.2.2.2 (Int32.toNatClampNeg 0) = p0) (e1 : X.2.2.2.2.2.2 (Int32.toNatClampNeg 1) = p1) (e2 : X.2.2.2.2.2.2 (Int32.toNatClampNeg 2) = p2) (e3 : X.2.2.2.2.2.2 (Int32.toNatClampNeg 3) = p3) (e4 : X.2.2.2.2.2.2 (Int32.toNatClampNeg 4) = p4) (e5 : X.2.2.2.2.2.2 (Int32.toNatClampNeg 5) = p5) : am_G X mt_L_law 60 346 lo_0 [] hp_0 (fun r h => r = some (.int 1) ∧ h.length ≤ 600002 ∧ am_sl h ≤ 7302232) := by
  refine g_aload_n (pc := 346) dc_L_law_346 rfl ?_
  refine g_v0 (pc := 347) (M' := mt_W_drop) dc_L_law_347 mo_W_drop im_W_drop se_W_drop ln_L_47 rfl rfl rfl (Nat.le_of_ble_eq_true rfl) (Nat.le_of_ble_eq_true rfl) ?_
  refine g_aload_n (pc := 0) dc_W_drop_0 rfl ?_
  refine g_v0 (pc := 1) (M' := mt_W_resolveTape) dc_W_drop_1 mo_W_resolveTape im_W_resolveTape se_W_resolveTape ln_W_128 rfl rfl rfl (Nat.le_of_ble_eq_true rfl) (Nat.le_of_ble_eq_true rfl) ?_
  refine g_aload_n (pc := 0) dc_W_resolveTape_0 rfl ?_
  refine g_getfield (pc := 1) dc_W_resolveTape_1 fl_W_27 rfl rfl ?_
  refine g_aload_n (pc := 4) dc_W_resolveTape_4 rfl ?_
  refine g_getfield (pc := 5) dc_W_resolveTape_5 fl_W_12 rfl rfl ?_
  refine g_getfield (pc := 8) dc_W_resolveTape_8 fl_W_109 rfl rfl ?_
  refine g_iconst (pc := 11) (v := 0) dc_W_resolveTape_11 rfl ?_
  refine g_aload_n (pc := 12) dc_W_resolveTape_12 rfl ?_
  refine g_getfield (pc := 13) dc_W_resolveTape_13 fl_W_12 rfl rfl ?_
  refine g_getfield (pc := 16) dc_W_resolveTape_16 fl_W_85 rfl rfl ?_
  refine g_null (pc := 19) dc_W_resolveTape_19 ?_
  refine g_v4 (pc := 20) (M' := mt_A_resolve) dc_W_resolveTape_20 mo_A_resolve im_A_resolve se_A_resolve ln_W_117 rfl rfl rfl (Nat.le_of_ble_eq_true rfl) (Nat.le_of_ble_eq_true rfl) ?_
  refine g_aload_n (pc := 0) dc_A_resolve_0 rfl ?_
  refine g_getfield (pc := 1) dc_A_resolve_1 fl_A_14 rfl rfl ?_
  refine g_v0 (pc := 4) (M' := mt_B_clear) dc_A_resolve_4 mo_B_clear im_B_clear se_B_clear ln_A_23 rfl rfl rfl (Nat.le_of_ble_eq_true rfl) (Nat.le_of_ble_eq_true rfl) ?_
  refine g_aload_n (pc := 0) dc_B_clear_0 rfl ?_
  refine g_iconst (pc := 1) (v := 0) dc_B_clear_1 rfl ?_
  refine g_putfield (pc := 2) dc_B_clear_2 fp_B_clear_15 rfl (Nat.le_of_ble_eq_true rfl) rfl rfl ?_
  refine g_vretC (pc := 5) dc_B_clear_5 rfl ?_
  refine g_aload_n (pc := 7) dc_A_resolve_7 rfl ?_
  refine g_getfield (pc := 8) dc_A_resolve_8 fl_A_20 rfl rfl ?_
  refine g_v0 (pc := 11) (M' := mt_B_clear) dc_A_resolve_11 mo_B_clear im_B_clear se_B_clear ln_A_23 rfl rfl rfl (Nat.le_of_ble_eq_true rfl) (Nat.le_of_ble_eq_true rfl) ?_
  refine g_aload_n (pc := 0) dc_B_clear_0 rfl ?_
  refine g_iconst (pc := 1) (v := 0) dc_B_clear_1 rfl ?_
  refine g_putfield (pc := 2) dc_B_clear_2 fp_B_clear_15 rfl (Nat.le_of_ble_eq_true rfl) rfl rfl ?_
  refine g_vretC (pc := 5) dc_B_clear_5 rfl ?_
  refine g_aload_n (pc := 14) dc_A_resolve_14 rfl ?_
  refine g_iload_n (pc := 15) dc_A_resolve_15 rfl ?_
  refine g_iload_n (pc := 16) dc_A_resolve_16 rfl ?_
  refine g_s3 (pc := 17) (M' := mt_W_trimmedFrom) dc_A_resolve_17 mo_W_trimmedFrom st_W_trimmedFrom ln_A_26 (Nat.le_of_ble_eq_true rfl) (Nat.le_of_ble_eq_true rfl) ?_
  refine g_iload_n (pc := 0) dc_W_trimmedFrom_0 rfl ?_
  refine g_istore_n (pc := 1) dc_W_trimmedFrom_1 (by decide) ?_
  refine g_iload_n (pc := 2) dc_W_trimmedFrom_2 rfl ?_
  refine g_iload_n (pc := 3) dc_W_trimmedFrom_3 rfl ?_
  refine g_icmp_ge (pc := 4) (tgt := 22) dc_W_trimmedFrom_4 rfl (fun _ => ?_) (fun hc => absurd hc (by decide))
  refine g_iload_n (pc := 22) dc_W_trimmedFrom_22 rfl ?_
  refine g_iretC (pc := 23) dc_W_trimmedFrom_23 rfl ?_
  refine g_istore (pc := 20) dc_A_resolve_20 (by decide) ?_
  refine g_aload_n (pc := 22) dc_A_resolve_22 rfl ?_
  refine g_bipush (pc := 23) (v := 35) dc_A_resolve_23 rfl ?_
  refine g_iload (pc := 25) dc_A_resolve_25 rfl ?_
  refine g_aload_n (pc := 27) dc_A_resolve_27 rfl ?_
  refine g_iload (pc := 28) dc_A_resolve_28 rfl ?_
  refine g_iload_n (pc := 30) dc_A_resolve_30 rfl ?_
  refine g_s3 (pc := 31) (M' := mt_W_trimmedTo) dc_A_resolve_31 mo_W_trimmedTo st_W_trimmedTo ln_A_30 (Nat.le_of_ble_eq_true rfl) (Nat.le_of_ble_eq_true rfl) ?_
  refine g_iload_n (pc := 0) dc_W_trimmedTo_0 rfl ?_
  refine g_istore_n (pc := 1) dc_W_trimmedTo_1 (by decide) ?_
  refine g_iload_n (pc := 2) dc_W_trimmedTo_2 rfl ?_
  refine g_iload_n (pc := 3) dc_W_trimmedTo_3 rfl ?_
  refine g_icmp_le (pc := 4) (tgt := 24) dc_W_trimmedTo_4 rfl (fun _ => ?_) (fun hc => absurd hc (by decide))
  refine g_iload_n (pc := 24) dc_W_trimmedTo_24 rfl ?_
  refine g_iretC (pc := 25) dc_W_trimmedTo_25 rfl ?_
  refine g_s4 (pc := 34) (M' := mt_W_indexOf) dc_A_resolve_34 mo_W_indexOf st_W_indexOf ln_A_33 (Nat.le_of_ble_eq_true rfl) (Nat.le_of_ble_eq_true rfl) ?_
  refine g_iload_n (pc := 0) dc_W_indexOf_0 rfl ?_
  refine g_istore (pc := 1) dc_W_indexOf_1 (by decide) ?_
  refine g_iload (pc := 3) dc_W_indexOf_3 rfl ?_
  refine g_iload_n (pc := 5) dc_W_indexOf_5 rfl ?_
  refine g_icmp_ge (pc := 6) (tgt := 23) dc_W_indexOf_6 rfl (fun _ => ?_) (fun hc => absurd hc (by decide))
  refine g_iload (pc := 23) dc_W_indexOf_23 rfl ?_
  refine g_iretC (pc := 25) dc_W_indexOf_25 rfl ?_
  refine g_istore (pc := 37) dc_A_resolve_37 (by decide) ?_
  refine g_aload_n (pc := 39) dc_A_resolve_39 rfl ?_
  refine g_iload (pc := 40) dc_A_resolve_40 rfl ?_
  refine g_iload (pc := 42) dc_A_resolve_42 rfl ?_
  refine g_s3 (pc := 44) (M' := mt_A_isClean) dc_A_resolve_44 mo_A_isClean st_A_isClean ln_A_37 (Nat.le_of_ble_eq_true rfl) (Nat.le_of_ble_eq_true rfl) ?_
  refine g_iload_n (pc := 0) dc_A_isClean_0 rfl ?_
  refine g_istore_n (pc := 1) dc_A_isClean_1 (by decide) ?_
  refine g_iload_n (pc := 2) dc_A_isClean_2 rfl ?_
  refine g_iload_n (pc := 3) dc_A_isClean_3 rfl ?_
  refine g_icmp_ge (pc := 4) (tgt := 64) dc_A_isClean_4 rfl (fun _ => ?_) (fun hc => absurd hc (by decide))
  refine g_iconst (pc := 64) (v := 1) dc_A_isClean_64 rfl ?_
  refine g_zretC (pc := 65) dc_A_isClean_65 rfl rfl ?_
  refine g_if_ne (pc := 47) (tgt := 52) dc_A_resolve_47 rfl (fun _ => ?_) (fun hc => absurd hc (by decide))
  refine g_aload_n (pc := 52) dc_A_resolve_52 rfl ?_
  refine g_bipush (pc := 53) (v := 58) dc_A_resolve_53 rfl ?_
  refine g_iload (pc := 55) dc_A_resolve_55 rfl ?_
  refine g_iload (pc := 57) dc_A_resolve_57 rfl ?_
  refine g_s4 (pc := 59) (M' := mt_W_indexOf) dc_A_resolve_59 mo_W_indexOf st_W_indexOf ln_A_33 (Nat.le_of_ble_eq_true rfl) (Nat.le_of_ble_eq_true rfl) ?_
  refine g_iload_n (pc := 0) dc_W_indexOf_0 rfl ?_
  refine g_istore (pc := 1) dc_W_indexOf_1 (by decide) ?_
  refine g_iload (pc := 3) dc_W_indexOf_3 rfl ?_
  refine g_iload_n (pc := 5) dc_W_indexOf_5 rfl ?_
  refine g_icmp_ge (pc := 6) (tgt := 23) dc_W_indexOf_6 rfl (fun _ => ?_) (fun hc => absurd hc (by decide))
  refine g_iload (pc := 23) dc_W_indexOf_23 rfl ?_
  refine g_iretC (pc := 25) dc_W_indexOf_25 rfl ?_
  refine g_istore (pc := 62) dc_A_resolve_62 (by decide) ?_
  refine g_iload (pc := 64) dc_A_resolve_64 rfl ?_
  refine g_aload_n (pc := 66) dc_A_resolve_66 rfl ?_
  refine g_bipush (pc := 67) (v := 47) dc_A_resolve_67 rfl ?_
  refine g_iload (pc := 69) dc_A_resolve_69 rfl ?_
  refine g_iload (pc := 71) dc_A_resolve_71 rfl ?_
  refine g_s4 (pc := 73) (M' := mt_W_indexOf) dc_A_resolve_73 mo_W_indexOf st_W_indexOf ln_A_33 (Nat.le_of_ble_eq_true rfl) (Nat.le_of_ble_eq_true rfl) ?_
  refine g_iload_n (pc := 0) dc_W_indexOf_0 rfl ?_
  refine g_istore (pc := 1) dc_W_indexOf_1 (by decide) ?_
  refine g_iload (pc := 3) dc_W_indexOf_3 rfl ?_
  refine g_iload_n (pc := 5) dc_W_indexOf_5 rfl ?_
  refine g_icmp_ge (pc := 6) (tgt := 23) dc_W_indexOf_6 rfl (fun _ => ?_) (fun hc => absurd hc (by decide))
  refine g_iload (pc := 23) dc_W_indexOf_23 rfl ?_
  refine g_iretC (pc := 25) dc_W_indexOf_25 rfl ?_
  refine g_aload_n (pc := 76) dc_A_resolve_76 rfl ?_
  refine g_bipush (pc := 77) (v := 63) dc_A_resolve_77 rfl ?_
  refine g_iload (pc := 79) dc_A_resolve_79 rfl ?_
  refine g_iload (pc := 81) dc_A_resolve_81 rfl ?_
  refine g_s4 (pc := 83) (M' := mt_W_indexOf) dc_A_resolve_83 mo_W_indexOf st_W_indexOf ln_A_33 (Nat.le_of_ble_eq_true rfl) (Nat.le_of_ble_eq_true rfl) ?_
  refine g_iload_n (pc := 0) dc_W_indexOf_0 rfl ?_
  refine g_istore (pc := 1) dc_W_indexOf_1 (by decide) ?_
  refine g_iload (pc := 3) dc_W_indexOf_3 rfl ?_
  refine g_iload_n (pc := 5) dc_W_indexOf_5 rfl ?_
  refine g_icmp_ge (pc := 6) (tgt := 23) dc_W_indexOf_6 rfl (fun _ => ?_) (fun hc => absurd hc (by decide))
  refine g_iload (pc := 23) dc_W_indexOf_23 rfl ?_
  refine g_iretC (pc := 25) dc_W_indexOf_25 rfl ?_
  refine g_s2 (pc := 86) (M' := mt_JMath_min) dc_A_resolve_86 mo_JMath_min st_JMath_min ln_A_41 (Nat.le_of_ble_eq_true rfl) (Nat.le_of_ble_eq_true rfl) ?_
  refine g_iload_n (pc := 0) dc_JMath_min_0 rfl ?_
  refine g_iload_n (pc := 1) dc_JMath_min_1 rfl ?_
  refine g_icmp_gt (pc := 2) (tgt := 9) dc_JMath_min_2 rfl (fun hc => absurd hc (by decide)) (fun _ => ?_)
  refine g_iload_n (pc := 5) dc_JMath_min_5 rfl ?_
  refine g_goto (pc := 6) (tgt := 10) dc_JMath_min_6 rfl ?_
  refine g_iretC (pc := 10) dc_JMath_min_10 rfl ?_
  refine g_icmp_ge (pc := 89) (tgt := 128) dc_A_resolve_89 rfl (fun _ => ?_) (fun hc => absurd hc (by decide))
  refine g_aload_n (pc := 128) dc_A_resolve_128 rfl ?_
  refine g_iload (pc := 129) dc_A_resolve_129 rfl ?_
  refine g_iload (pc := 131) dc_A_resolve_131 rfl ?_
  refine g_ldcS (pc := 133) 2 dc_A_resolve_133 (by decide) rfl rfl ?_
  refine g_s4 (pc := 135) (M' := mt_W_beginsWith) dc_A_resolve_135 mo_W_beginsWith st_W_beginsWith ln_A_55 (Nat.le_of_ble_eq_true rfl) (Nat.le_of_ble_eq_true rfl) ?_
  refine g_iload_n (pc := 0) dc_W_beginsWith_0 rfl ?_
  refine g_xload_n (pc := 1) dc_W_beginsWith_1 rfl ?_
  refine g_x0 (pc := 2) (M' := mt_JString_length) dc_W_beginsWith_2 mo_JString_length im_JString_length se_JString_length (am_t3 75 rfl rfl) (by decide) (Nat.le_of_ble_eq_true rfl) (Nat.le_of_ble_eq_true rfl) ?_
  refine g_xload_n (pc := 0) dc_JString_length_0 rfl ?_
  refine g_sValue (pc := 1) dc_JString_length_1 (by decide) (am_t4 204 rfl rfl) ?_
  refine g_sLen (pc := 4) (n := 2) dc_JString_length_4 (by decide) rfl ?_
  refine g_xload_n (pc := 5) dc_JString_length_5 rfl ?_
  refine g_x0 (pc := 6) (M' := mt_JString_coder) dc_JString_length_6 mo_JString_coder im_JString_coder se_JString_coder (am_t2 236 rfl rfl) (by decide) (Nat.le_of_ble_eq_true rfl) (Nat.le_of_ble_eq_true rfl) ?_
  refine g_gsCompact (pc := 0) dc_JString_coder_0 (am_t2 230 rfl rfl) ?_
  refine g_if_eq (pc := 3) (tgt := 13) dc_JString_coder_3 rfl (fun hc => absurd hc (by decide)) (fun _ => ?_)
  refine g_xload_n (pc := 6) dc_JString_coder_6 rfl ?_
  refine g_sCoder (pc := 7) dc_JString_coder_7 (by decide) (am_t4 205 rfl rfl) ?_
  refine g_goto (pc := 10) (tgt := 14) dc_JString_coder_10 rfl ?_
  refine g_bretC (pc := 14) dc_JString_coder_14 rfl rfl ?_
  refine g_ishr (pc := 9) (v := 2) dc_JString_length_9 (by decide) ?_
  refine g_iretC (pc := 10) dc_JString_length_10 rfl ?_
  refine g_iadd (pc := 5) (v := 2) dc_W_beginsWith_5 (by decide) ?_
  refine g_istore (pc := 6) dc_W_beginsWith_6 (by decide) ?_
  refine g_iload (pc := 8) dc_W_beginsWith_8 rfl ?_
  refine g_iload_n (pc := 10) dc_W_beginsWith_10 rfl ?_
  refine g_icmp_gt (pc := 11) (tgt := 29) dc_W_beginsWith_11 rfl (fun _ => ?_) (fun hc => absurd hc (by decide))
  refine g_iconst (pc := 29) (v := 0) dc_W_beginsWith_29 rfl ?_
  refine g_zretC (pc := 30) dc_W_beginsWith_30 rfl rfl ?_
  refine g_if_eq (pc := 138) (tgt := 155) dc_A_resolve_138 rfl (fun _ => ?_) (fun hc => absurd hc (by decide))
  refine g_aload_n (pc := 155) dc_A_resolve_155 rfl ?_
  refine g_aload_n (pc := 156) dc_A_resolve_156 rfl ?_
  refine g_iload (pc := 157) dc_A_resolve_157 rfl ?_
  refine g_iload (pc := 159) dc_A_resolve_159 rfl ?_
  refine g_aloadN (pc := 161) dc_A_resolve_161 rfl ?_
  refine g_v4 (pc := 163) (M' := mt_A_joinBase) dc_A_resolve_163 mo_A_joinBase im_A_joinBase se_A_joinBase ln_A_61 rfl rfl rfl (Nat.le_of_ble_eq_true rfl) (Nat.le_of_ble_eq_true rfl) ?_
  refine g_aloadN (pc := 0) dc_A_joinBase_0 rfl ?_
  refine g_ifnullN (pc := 2) (tgt := 13) dc_A_joinBase_2 rfl ?_
  refine g_iconst (pc := 13) (v := (-1)) dc_A_joinBase_13 rfl ?_
  refine g_iretC (pc := 14) dc_A_joinBase_14 rfl ?_
  refine g_istore (pc := 166) dc_A_resolve_166 (by decide) ?_
  refine g_iload (pc := 168) dc_A_resolve_168 rfl ?_
  refine g_iconst (pc := 170) (v := (-1)) dc_A_resolve_170 rfl ?_
  refine g_icmp_ne (pc := 171) (tgt := 176) dc_A_resolve_171 rfl (fun hc => absurd hc (by decide)) (fun _ => ?_)
  refine g_iconst (pc := 174) (v := 0) dc_A_resolve_174 rfl ?_
  refine g_zretC (pc := 175) dc_A_resolve_175 rfl rfl ?_
  refine g_istore_n (pc := 23) dc_W_resolveTape_23 (by decide) ?_
  refine g_aload_n (pc := 24) dc_W_resolveTape_24 rfl ?_
  refine g_getfield (pc := 25) dc_W_resolveTape_25 fl_W_12 rfl rfl ?_
  refine g_v0 (pc := 28) (M' := mt_B_clear) dc_W_resolveTape_28 mo_B_clear im_B_clear se_B_clear ln_W_121 rfl rfl rfl (Nat.le_of_ble_eq_true rfl) (Nat.le_of_ble_eq_true rfl) ?_
  refine g_aload_n (pc := 0) dc_B_clear_0 rfl ?_
  refine g_iconst (pc := 1) (v := 0) dc_B_clear_1 rfl ?_
  refine g_putfield (pc := 2) dc_B_clear_2 fp_B_clear_15 rfl (Nat.le_of_ble_eq_true rfl) rfl rfl ?_
  refine g_vretC (pc := 5) dc_B_clear_5 rfl ?_
  refine g_iload_n (pc := 31) dc_W_resolveTape_31 rfl ?_
  refine g_zretC (pc := 32) dc_W_resolveTape_32 rfl rfl ?_
  refine g_if_eq (pc := 4) (tgt := 28) dc_W_drop_4 rfl (fun _ => ?_) (fun hc => absurd hc (by decide))
  refine g_iconst (pc := 28) (v := 0) dc_W_drop_28 rfl ?_
  refine g_zretC (pc := 29) dc_W_drop_29 rfl rfl ?_
  refine g_aload_n (pc := 350) dc_L_law_350 rfl ?_
  refine g_v0 (pc := 351) (M' := mt_M_drop) dc_L_law_351 mo_M_drop im_M_drop se_M_drop ln_L_51 rfl rfl rfl (Nat.le_of_ble_eq_true rfl) (Nat.le_of_ble_eq_true rfl) ?_
  refine g_aload_n (pc := 0) dc_M_drop_0 rfl ?_
  refine g_v0 (pc := 1) (M' := mt_M_use) dc_M_drop_1 mo_M_use im_M_use se_M_use ln_M_505 rfl rfl rfl (Nat.le_of_ble_eq_true rfl) (Nat.le_of_ble_eq_true rfl) ?_
  refine g_aload_n (pc := 0) dc_M_use_0 rfl ?_
  refine g_iconst (pc := 1) (v := 0) dc_M_use_1 rfl ?_
  refine g_putfield (pc := 2) dc_M_use_2 fp_M_use_1 rfl (Nat.le_of_ble_eq_true rfl) rfl rfl ?_
  refine g_aload_n (pc := 5) dc_M_use_5 rfl ?_
  refine g_getfield (pc := 6) dc_M_use_6 fl_M_493 rfl rfl ?_
  refine g_istore_n (pc := 9) dc_M_use_9 (by decide) ?_
  refine g_aload_n (pc := 10) dc_M_use_10 rfl ?_
  refine g_iconst (pc := 11) (v := 0) dc_M_use_11 rfl ?_
  refine g_putfield (pc := 12) dc_M_use_12 fp_M_use_493 rfl (Nat.le_of_ble_eq_true rfl) rfl rfl ?_
  refine g_iload_n (pc := 15) dc_M_use_15 rfl ?_
  refine g_iretC (pc := 16) dc_M_use_16 rfl ?_
  refine g_istore_n (pc := 4) dc_M_drop_4 (by decide) ?_
  refine g_aload_n (pc := 5) dc_M_drop_5 rfl ?_
  refine g_aload_n (pc := 6) dc_M_drop_6 rfl ?_
  refine g_getfield (pc := 7) dc_M_drop_7 fl_M_143 rfl rfl ?_
  refine g_iconst (pc := 10) (v := 0) dc_M_drop_10 rfl ?_
  refine g_iload_n (pc := 11) dc_M_drop_11 rfl ?_
  refine g_iconst (pc := 12) (v := (-1)) dc_M_drop_12 rfl ?_
  refine g_v4 (pc := 13) (M' := mt_M_readReference) dc_M_drop_13 mo_M_readReference im_M_readReference se_M_readReference ln_M_297 rfl rfl rfl (Nat.le_of_ble_eq_true rfl) (Nat.le_of_ble_eq_true rfl) ?_
  refine g_iload_n (pc := 0) dc_M_readReference_0 rfl ?_
  refine g_istore (pc := 1) dc_M_readReference_1 (by decide) ?_
  refine g_iload_n (pc := 3) dc_M_readReference_3 rfl ?_
  refine g_istore (pc := 4) dc_M_readReference_4 (by decide) ?_
  refine g_iload (pc := 6) dc_M_readReference_6 rfl ?_
  refine g_iload (pc := 8) dc_M_readReference_8 rfl ?_
  refine g_icmp_ge (pc := 10) (tgt := 29) dc_M_readReference_10 rfl (fun _ => ?_) (fun hc => absurd hc (by decide))
  refine g_iload (pc := 29) dc_M_readReference_29 rfl ?_
  refine g_iload (pc := 31) dc_M_readReference_31 rfl ?_
  refine g_icmp_le (pc := 33) (tgt := 54) dc_M_readReference_33 rfl (fun _ => ?_) (fun hc => absurd hc (by decide))
  refine g_aload_n (pc := 54) dc_M_readReference_54 rfl ?_
  refine g_iload (pc := 55) dc_M_readReference_55 rfl ?_
  refine g_iload (pc := 57) dc_M_readReference_57 rfl ?_
  refine g_bipush (pc := 59) (v := 35) dc_M_readReference_59 rfl ?_
  refine g_s4 (pc := 61) (M' := mt_M_seek) dc_M_readReference_61 mo_M_seek st_M_seek ln_M_48 (Nat.le_of_ble_eq_true rfl) (Nat.le_of_ble_eq_true rfl) ?_
  refine g_iload_n (pc := 0) dc_M_seek_0 rfl ?_
  refine g_istore (pc := 1) dc_M_seek_1 (by decide) ?_
  refine g_iload (pc := 3) dc_M_seek_3 rfl ?_
  refine g_iload_n (pc := 5) dc_M_seek_5 rfl ?_
  refine g_icmp_ge (pc := 6) (tgt := 23) dc_M_seek_6 rfl (fun _ => ?_) (fun hc => absurd hc (by decide))
  refine g_iload (pc := 23) dc_M_seek_23 rfl ?_
  refine g_iretC (pc := 25) dc_M_seek_25 rfl ?_
  refine g_istore (pc := 64) dc_M_readReference_64 (by decide) ?_
  refine g_iload (pc := 66) dc_M_readReference_66 rfl ?_
  refine g_istore (pc := 68) dc_M_readReference_68 (by decide) ?_
  refine g_iload (pc := 70) dc_M_readReference_70 rfl ?_
  refine g_iload (pc := 72) dc_M_readReference_72 rfl ?_
  refine g_icmp_ge (pc := 74) (tgt := 96) dc_M_readReference_74 rfl (fun _ => ?_) (fun hc => absurd hc (by decide))
  refine g_aload_n (pc := 96) dc_M_readReference_96 rfl ?_
  refine g_iload (pc := 97) dc_M_readReference_97 rfl ?_
  refine g_iload (pc := 99) dc_M_readReference_99 rfl ?_
  refine g_bipush (pc := 101) (v := 58) dc_M_readReference_101 rfl ?_
  refine g_s4 (pc := 103) (M' := mt_M_seek) dc_M_readReference_103 mo_M_seek st_M_seek ln_M_48 (Nat.le_of_ble_eq_true rfl) (Nat.le_of_ble_eq_true rfl) ?_
  refine g_iload_n (pc := 0) dc_M_seek_0 rfl ?_
  refine g_istore (pc := 1) dc_M_seek_1 (by decide) ?_
  refine g_iload (pc := 3) dc_M_seek_3 rfl ?_
  refine g_iload_n (pc := 5) dc_M_seek_5 rfl ?_
  refine g_icmp_ge (pc := 6) (tgt := 23) dc_M_seek_6 rfl (fun _ => ?_) (fun hc => absurd hc (by decide))
  refine g_iload (pc := 23) dc_M_seek_23 rfl ?_
  refine g_iretC (pc := 25) dc_M_seek_25 rfl ?_
  refine g_istore (pc := 106) dc_M_readReference_106 (by decide) ?_
  refine g_aload_n (pc := 108) dc_M_readReference_108 rfl ?_
  refine g_iload (pc := 109) dc_M_readReference_109 rfl ?_
  refine g_iload (pc := 111) dc_M_readReference_111 rfl ?_
  refine g_bipush (pc := 113) (v := 47) dc_M_readReference_113 rfl ?_
  refine g_s4 (pc := 115) (M' := mt_M_seek) dc_M_readReference_115 mo_M_seek st_M_seek ln_M_48 (Nat.le_of_ble_eq_true rfl) (Nat.le_of_ble_eq_true rfl) ?_
  refine g_iload_n (pc := 0) dc_M_seek_0 rfl ?_
  refine g_istore (pc := 1) dc_M_seek_1 (by decide) ?_
  refine g_iload (pc := 3) dc_M_seek_3 rfl ?_
  refine g_iload_n (pc := 5) dc_M_seek_5 rfl ?_
  refine g_icmp_ge (pc := 6) (tgt := 23) dc_M_seek_6 rfl (fun _ => ?_) (fun hc => absurd hc (by decide))
  refine g_iload (pc := 23) dc_M_seek_23 rfl ?_
  refine g_iretC (pc := 25) dc_M_seek_25 rfl ?_
  refine g_istore (pc := 118) dc_M_readReference_118 (by decide) ?_
  refine g_aload_n (pc := 120) dc_M_readReference_120 rfl ?_
  refine g_iload (pc := 121) dc_M_readReference_121 rfl ?_
  refine g_iload (pc := 123) dc_M_readReference_123 rfl ?_
  refine g_bipush (pc := 125) (v := 63) dc_M_readReference_125 rfl ?_
  refine g_s4 (pc := 127) (M' := mt_M_seek) dc_M_readReference_127 mo_M_seek st_M_seek ln_M_48 (Nat.le_of_ble_eq_true rfl) (Nat.le_of_ble_eq_true rfl) ?_
  refine g_iload_n (pc := 0) dc_M_seek_0 rfl ?_
  refine g_istore (pc := 1) dc_M_seek_1 (by decide) ?_
  refine g_iload (pc := 3) dc_M_seek_3 rfl ?_
  refine g_iload_n (pc := 5) dc_M_seek_5 rfl ?_
  refine g_icmp_ge (pc := 6) (tgt := 23) dc_M_seek_6 rfl (fun _ => ?_) (fun hc => absurd hc (by decide))
  refine g_iload (pc := 23) dc_M_seek_23 rfl ?_
  refine g_iretC (pc := 25) dc_M_seek_25 rfl ?_
  refine g_istore (pc := 130) dc_M_readReference_130 (by decide) ?_
  refine g_iload (pc := 132) dc_M_readReference_132 rfl ?_
  refine g_iload (pc := 134) dc_M_readReference_134 rfl ?_
  refine g_icmp_ge (pc := 136) (tgt := 198) dc_M_readReference_136 rfl (fun _ => ?_) (fun hc => absurd hc (by decide))
  refine g_iload (pc := 198) dc_M_readReference_198 rfl ?_
  refine g_iconst (pc := 200) (v := 1) dc_M_readReference_200 rfl ?_
  refine g_iadd (pc := 201) (v := 1) dc_M_readReference_201 (by decide) ?_
  refine g_iload (pc := 202) dc_M_readReference_202 rfl ?_
  refine g_icmp_ge (pc := 204) (tgt := 307) dc_M_readReference_204 rfl (fun _ => ?_) (fun hc => absurd hc (by decide))
  refine g_iload (pc := 307) dc_M_readReference_307 rfl ?_
  refine g_if_ge (pc := 309) (tgt := 314) dc_M_readReference_309 rfl (fun hc => absurd hc (by decide)) (fun _ => ?_)
  refine g_iconst (pc := 312) (v := 0) dc_M_readReference_312 rfl ?_
  refine g_zretC (pc := 313) dc_M_readReference_313 rfl rfl ?_
  refine g_if_eq (pc := 16) (tgt := 30) dc_M_drop_16 rfl (fun _ => ?_) (fun hc => absurd hc (by decide))
  refine g_iconst (pc := 30) (v := (-1)) dc_M_drop_30 rfl ?_
  refine g_istore_n (pc := 31) dc_M_drop_31 (by decide) ?_
  refine g_iload_n (pc := 32) dc_M_drop_32 rfl ?_
  refine g_if_ge (pc := 33) (tgt := 38) dc_M_drop_33 rfl (fun hc => absurd hc (by decide)) (fun _ => ?_)
  refine g_iconst (pc := 36) (v := 0) dc_M_drop_36 rfl ?_
  refine g_zretC (pc := 37) dc_M_drop_37 rfl rfl ?_
  refine g_icmp_eq (pc := 354) (tgt := 873) dc_L_law_354 rfl (fun _ => ?_) (fun hc => absurd hc (by decide))
  refine g_iinc (pc := 873) (v := 6) dc_L_law_873 rfl (by decide) (by decide) ?_
  refine g_goto (pc := 876) (tgt := 23) dc_L_law_876 rfl ?_
  refine g_iload (pc := 23) dc_L_law_23 rfl ?_
  refine g_xload_n (pc := 25) dc_L_law_25 rfl ?_
  refine g_scriptLenV (pc := 26) (n := 6) dc_L_law_26 hL rfl ?_
  refine g_bipush (pc := 27) (v := 6) dc_L_law_27 rfl ?_
  refine g_isub (pc := 29) (v := 0) dc_L_law_29 (by decide) ?_
  refine g_icmp_gt (pc := 30) (tgt := 879) dc_L_law_30 rfl (fun _ => ?_) (fun hc => absurd hc (by decide))
  refine g_iconst (pc := 879) (v := 1) dc_L_law_879 rfl ?_
  exact g_zreturn dc_L_law_880 rfl rfl ⟨rfl, (Nat.le_of_ble_eq_true rfl), am_bz (by (repeat (first | refine am_bw rfl ?_ | refine am_bA rfl ?_ | refine am_bB rfl ?_ | refine am_bC rfl ?_)); exact am_b0 (Nat.le_of_ble_eq_true rfl))⟩
set_option maxRecDepth 20000 in
set_option maxHeartbeats 1000000 in
theorem p1_5 {X : am_X} {p0 p1 p2 p3 p4 p5 : Int32} (hl9 : X.1.stackTraces = false) (hL : X.2.2.2.2.2.1 = 6) (e0 : X.2.2.2.2.2.2 (Int32.toNatClampNeg 0) = p0) (e1 : X.2.2.2.2.2.2 (Int32.toNatClampNeg 1) = p1) (e2 : X.2.2.2.2.2.2 (Int32.toNatClampNeg 2) = p2) (e3 : X.2.2.2.2.2.2 (Int32.toNatClampNeg 3) = p3) (e4 : X.2.2.2.2.2.2 (Int32.toNatClampNeg 4) = p4) (e5 : X.2.2.2.2.2.2 (Int32.toNatClampNeg 5) = p5) : am_G X mt_L_law 60 359 lo_0 [] hp_0 (fun r h => r = some (.int 1) ∧ h.length ≤ 600002 ∧ am_sl h ≤ 7302232) := by
  refine g_aload_n (pc := 359) dc_L_law_359 rfl ?_
  refine g_v0 (pc := 360) (M' := mt_W_rules) dc_L_law_360 mo_W_rules im_W_rules se_W_rules ln_L_52 rfl rfl rfl (Nat.le_of_ble_eq_true rfl) (Nat.le_of_ble_eq_true rfl) ?_
  refine g_iconst (pc := 0) (v := (-1)) dc_W_rules_0 rfl ?_
  refine g_istore_n (pc := 1) dc_W_rules_1 (by decide) ?_
  refine g_aload_n (pc := 2) dc_W_rules_2 rfl ?_
  refine g_v0 (pc := 3) (M' := mt_W_resolveLine) dc_W_rules_3 mo_W_resolveLine im_W_resolveLine se_W_resolveLine ln_W_98 rfl rfl rfl (Nat.le_of_ble_eq_true rfl) (Nat.le_of_ble_eq_true rfl) ?_
  refine g_aload_n (pc := 0) dc_W_resolveLine_0 rfl ?_
  refine g_getfield (pc := 1) dc_W_resolveLine_1 fl_W_27 rfl rfl ?_
  refine g_aload_n (pc := 4) dc_W_resolveLine_4 rfl ?_
  refine g_getfield (pc := 5) dc_W_resolveLine_5 fl_W_12 rfl rfl ?_
  refine g_getfield (pc := 8) dc_W_resolveLine_8 fl_W_109 rfl rfl ?_
  refine g_iconst (pc := 11) (v := 0) dc_W_resolveLine_11 rfl ?_
  refine g_aload_n (pc := 12) dc_W_resolveLine_12 rfl ?_
  refine g_v0 (pc := 13) (M' := mt_W_lineTo) dc_W_resolveLine_13 mo_W_lineTo im_W_lineTo se_W_lineTo ln_W_286 rfl rfl rfl (Nat.le_of_ble_eq_true rfl) (Nat.le_of_ble_eq_true rfl) ?_
  refine g_aload_n (pc := 0) dc_W_lineTo_0 rfl ?_
  refine g_getfield (pc := 1) dc_W_lineTo_1 fl_W_12 rfl rfl ?_
  refine g_getfield (pc := 4) dc_W_lineTo_4 fl_W_109 rfl rfl ?_
  refine g_bipush (pc := 7) (v := 10) dc_W_lineTo_7 rfl ?_
  refine g_iconst (pc := 9) (v := 0) dc_W_lineTo_9 rfl ?_
  refine g_aload_n (pc := 10) dc_W_lineTo_10 rfl ?_
  refine g_getfield (pc := 11) dc_W_lineTo_11 fl_W_12 rfl rfl ?_
  refine g_getfield (pc := 14) dc_W_lineTo_14 fl_W_85 rfl rfl ?_
  refine g_s4 (pc := 17) (M' := mt_W_indexOf) dc_W_lineTo_17 mo_W_indexOf st_W_indexOf ln_W_282 (Nat.le_of_ble_eq_true rfl) (Nat.le_of_ble_eq_true rfl) ?_
  refine g_iload_n (pc := 0) dc_W_indexOf_0 rfl ?_
  refine g_istore (pc := 1) dc_W_indexOf_1 (by decide) ?_
  refine g_iload (pc := 3) dc_W_indexOf_3 rfl ?_
  refine g_iload_n (pc := 5) dc_W_indexOf_5 rfl ?_
  refine g_icmp_ge (pc := 6) (tgt := 23) dc_W_indexOf_6 rfl (fun _ => ?_) (fun hc => absurd hc (by decide))
  refine g_iload (pc := 23) dc_W_indexOf_23 rfl ?_
  refine g_iretC (pc := 25) dc_W_indexOf_25 rfl ?_
  refine g_iretC (pc := 20) dc_W_lineTo_20 rfl ?_
  refine g_null (pc := 16) dc_W_resolveLine_16 ?_
  refine g_v4 (pc := 17) (M' := mt_A_resolve) dc_W_resolveLine_17 mo_A_resolve im_A_resolve se_A_resolve ln_W_117 rfl rfl rfl (Nat.le_of_ble_eq_true rfl) (Nat.le_of_ble_eq_true rfl) ?_
  refine g_aload_n (pc := 0) dc_A_resolve_0 rfl ?_
  refine g_getfield (pc := 1) dc_A_resolve_1 fl_A_14 rfl rfl ?_
  refine g_v0 (pc := 4) (M' := mt_B_clear) dc_A_resolve_4 mo_B_clear im_B_clear se_B_clear ln_A_23 rfl rfl rfl (Nat.le_of_ble_eq_true rfl) (Nat.le_of_ble_eq_true rfl) ?_
  refine g_aload_n (pc := 0) dc_B_clear_0 rfl ?_
  refine g_iconst (pc := 1) (v := 0) dc_B_clear_1 rfl ?_
  refine g_putfield (pc := 2) dc_B_clear_2 fp_B_clear_15 rfl (Nat.le_of_ble_eq_true rfl) rfl rfl ?_
  refine g_vretC (pc := 5) dc_B_clear_5 rfl ?_
  refine g_aload_n (pc := 7) dc_A_resolve_7 rfl ?_
  refine g_getfield (pc := 8) dc_A_resolve_8 fl_A_20 rfl rfl ?_
  refine g_v0 (pc := 11) (M' := mt_B_clear) dc_A_resolve_11 mo_B_clear im_B_clear se_B_clear ln_A_23 rfl rfl rfl (Nat.le_of_ble_eq_true rfl) (Nat.le_of_ble_eq_true rfl) ?_
  refine g_aload_n (pc := 0) dc_B_clear_0 rfl ?_
  refine g_iconst (pc := 1) (v := 0) dc_B_clear_1 rfl ?_
  refine g_putfield (pc := 2) dc_B_clear_2 fp_B_clear_15 rfl (Nat.le_of_ble_eq_true rfl) rfl rfl ?_
  refine g_vretC (pc := 5) dc_B_clear_5 rfl ?_
  refine g_aload_n (pc := 14) dc_A_resolve_14 rfl ?_
  refine g_iload_n (pc := 15) dc_A_resolve_15 rfl ?_
  refine g_iload_n (pc := 16) dc_A_resolve_16 rfl ?_
  refine g_s3 (pc := 17) (M' := mt_W_trimmedFrom) dc_A_resolve_17 mo_W_trimmedFrom st_W_trimmedFrom ln_A_26 (Nat.le_of_ble_eq_true rfl) (Nat.le_of_ble_eq_true rfl) ?_
  refine g_iload_n (pc := 0) dc_W_trimmedFrom_0 rfl ?_
  refine g_istore_n (pc := 1) dc_W_trimmedFrom_1 (by decide) ?_
  refine g_iload_n (pc := 2) dc_W_trimmedFrom_2 rfl ?_
  refine g_iload_n (pc := 3) dc_W_trimmedFrom_3 rfl ?_
  refine g_icmp_ge (pc := 4) (tgt := 22) dc_W_trimmedFrom_4 rfl (fun _ => ?_) (fun hc => absurd hc (by decide))
  refine g_iload_n (pc := 22) dc_W_trimmedFrom_22 rfl ?_
  refine g_iretC (pc := 23) dc_W_trimmedFrom_23 rfl ?_
  refine g_istore (pc := 20) dc_A_resolve_20 (by decide) ?_
  refine g_aload_n (pc := 22) dc_A_resolve_22 rfl ?_
  refine g_bipush (pc := 23) (v := 35) dc_A_resolve_23 rfl ?_
  refine g_iload (pc := 25) dc_A_resolve_25 rfl ?_
  refine g_aload_n (pc := 27) dc_A_resolve_27 rfl ?_
  refine g_iload (pc := 28) dc_A_resolve_28 rfl ?_
  refine g_iload_n (pc := 30) dc_A_resolve_30 rfl ?_
  refine g_s3 (pc := 31) (M' := mt_W_trimmedTo) dc_A_resolve_31 mo_W_trimmedTo st_W_trimmedTo ln_A_30 (Nat.le_of_ble_eq_true rfl) (Nat.le_of_ble_eq_true rfl) ?_
  refine g_iload_n (pc := 0) dc_W_trimmedTo_0 rfl ?_
  refine g_istore_n (pc := 1) dc_W_trimmedTo_1 (by decide) ?_
  refine g_iload_n (pc := 2) dc_W_trimmedTo_2 rfl ?_
  refine g_iload_n (pc := 3) dc_W_trimmedTo_3 rfl ?_
  refine g_icmp_le (pc := 4) (tgt := 24) dc_W_trimmedTo_4 rfl (fun _ => ?_) (fun hc => absurd hc (by decide))
  refine g_iload_n (pc := 24) dc_W_trimmedTo_24 rfl ?_
  refine g_iretC (pc := 25) dc_W_trimmedTo_25 rfl ?_
  refine g_s4 (pc := 34) (M' := mt_W_indexOf) dc_A_resolve_34 mo_W_indexOf st_W_indexOf ln_A_33 (Nat.le_of_ble_eq_true rfl) (Nat.le_of_ble_eq_true rfl) ?_
  refine g_iload_n (pc := 0) dc_W_indexOf_0 rfl ?_
  refine g_istore (pc := 1) dc_W_indexOf_1 (by decide) ?_
  refine g_iload (pc := 3) dc_W_indexOf_3 rfl ?_
  refine g_iload_n (pc := 5) dc_W_indexOf_5 rfl ?_
  refine g_icmp_ge (pc := 6) (tgt := 23) dc_W_indexOf_6 rfl (fun _ => ?_) (fun hc => absurd hc (by decide))
  refine g_iload (pc := 23) dc_W_indexOf_23 rfl ?_
  refine g_iretC (pc := 25) dc_W_indexOf_25 rfl ?_
  refine g_istore (pc := 37) dc_A_resolve_37 (by decide) ?_
  refine g_aload_n (pc := 39) dc_A_resolve_39 rfl ?_
  refine g_iload (pc := 40) dc_A_resolve_40 rfl ?_
  refine g_iload (pc := 42) dc_A_resolve_42 rfl ?_
  refine g_s3 (pc := 44) (M' := mt_A_isClean) dc_A_resolve_44 mo_A_isClean st_A_isClean ln_A_37 (Nat.le_of_ble_eq_true rfl) (Nat.le_of_ble_eq_true rfl) ?_
  refine g_iload_n (pc := 0) dc_A_isClean_0 rfl ?_
  refine g_istore_n (pc := 1) dc_A_isClean_1 (by decide) ?_
  refine g_iload_n (pc := 2) dc_A_isClean_2 rfl ?_
  refine g_iload_n (pc := 3) dc_A_isClean_3 rfl ?_
  refine g_icmp_ge (pc := 4) (tgt := 64) dc_A_isClean_4 rfl (fun _ => ?_) (fun hc => absurd hc (by decide))
  refine g_iconst (pc := 64) (v := 1) dc_A_isClean_64 rfl ?_
  refine g_zretC (pc := 65) dc_A_isClean_65 rfl rfl ?_
  refine g_if_ne (pc := 47) (tgt := 52) dc_A_resolve_47 rfl (fun _ => ?_) (fun hc => absurd hc (by decide))
  refine g_aload_n (pc := 52) dc_A_resolve_52 rfl ?_
  refine g_bipush (pc := 53) (v := 58) dc_A_resolve_53 rfl ?_
  refine g_iload (pc := 55) dc_A_resolve_55 rfl ?_
  refine g_iload (pc := 57) dc_A_resolve_57 rfl ?_
  refine g_s4 (pc := 59) (M' := mt_W_indexOf) dc_A_resolve_59 mo_W_indexOf st_W_indexOf ln_A_33 (Nat.le_of_ble_eq_true rfl) (Nat.le_of_ble_eq_true rfl) ?_
  refine g_iload_n (pc := 0) dc_W_indexOf_0 rfl ?_
  refine g_istore (pc := 1) dc_W_indexOf_1 (by decide) ?_
  refine g_iload (pc := 3) dc_W_indexOf_3 rfl ?_
  refine g_iload_n (pc := 5) dc_W_indexOf_5 rfl ?_
  refine g_icmp_ge (pc := 6) (tgt := 23) dc_W_indexOf_6 rfl (fun _ => ?_) (fun hc => absurd hc (by decide))
  refine g_iload (pc := 23) dc_W_indexOf_23 rfl ?_
  refine g_iretC (pc := 25) dc_W_indexOf_25 rfl ?_
  refine g_istore (pc := 62) dc_A_resolve_62 (by decide) ?_
  refine g_iload (pc := 64) dc_A_resolve_64 rfl ?_
  refine g_aload_n (pc := 66) dc_A_resolve_66 rfl ?_
  refine g_bipush (pc := 67) (v := 47) dc_A_resolve_67 rfl ?_
  refine g_iload (pc := 69) dc_A_resolve_69 rfl ?_
  refine g_iload (pc := 71) dc_A_resolve_71 rfl ?_
  refine g_s4 (pc := 73) (M' := mt_W_indexOf) dc_A_resolve_73 mo_W_indexOf st_W_indexOf ln_A_33 (Nat.le_of_ble_eq_true rfl) (Nat.le_of_ble_eq_true rfl) ?_
  refine g_iload_n (pc := 0) dc_W_indexOf_0 rfl ?_
  refine g_istore (pc := 1) dc_W_indexOf_1 (by decide) ?_
  refine g_iload (pc := 3) dc_W_indexOf_3 rfl ?_
  refine g_iload_n (pc := 5) dc_W_indexOf_5 rfl ?_
  refine g_icmp_ge (pc := 6) (tgt := 23) dc_W_indexOf_6 rfl (fun _ => ?_) (fun hc => absurd hc (by decide))
  refine g_iload (pc := 23) dc_W_indexOf_23 rfl ?_
  refine g_iretC (pc := 25) dc_W_indexOf_25 rfl ?_
  refine g_aload_n (pc := 76) dc_A_resolve_76 rfl ?_
  refine g_bipush (pc := 77) (v := 63) dc_A_resolve_77 rfl ?_
  refine g_iload (pc := 79) dc_A_resolve_79 rfl ?_
  refine g_iload (pc := 81) dc_A_resolve_81 rfl ?_
  refine g_s4 (pc := 83) (M' := mt_W_indexOf) dc_A_resolve_83 mo_W_indexOf st_W_indexOf ln_A_33 (Nat.le_of_ble_eq_true rfl) (Nat.le_of_ble_eq_true rfl) ?_
  refine g_iload_n (pc := 0) dc_W_indexOf_0 rfl ?_
  refine g_istore (pc := 1) dc_W_indexOf_1 (by decide) ?_
  refine g_iload (pc := 3) dc_W_indexOf_3 rfl ?_
  refine g_iload_n (pc := 5) dc_W_indexOf_5 rfl ?_
  refine g_icmp_ge (pc := 6) (tgt := 23) dc_W_indexOf_6 rfl (fun _ => ?_) (fun hc => absurd hc (by decide))
  refine g_iload (pc := 23) dc_W_indexOf_23 rfl ?_
  refine g_iretC (pc := 25) dc_W_indexOf_25 rfl ?_
  refine g_s2 (pc := 86) (M' := mt_JMath_min) dc_A_resolve_86 mo_JMath_min st_JMath_min ln_A_41 (Nat.le_of_ble_eq_true rfl) (Nat.le_of_ble_eq_true rfl) ?_
  refine g_iload_n (pc := 0) dc_JMath_min_0 rfl ?_
  refine g_iload_n (pc := 1) dc_JMath_min_1 rfl ?_
  refine g_icmp_gt (pc := 2) (tgt := 9) dc_JMath_min_2 rfl (fun hc => absurd hc (by decide)) (fun _ => ?_)
  refine g_iload_n (pc := 5) dc_JMath_min_5 rfl ?_
  refine g_goto (pc := 6) (tgt := 10) dc_JMath_min_6 rfl ?_
  refine g_iretC (pc := 10) dc_JMath_min_10 rfl ?_
  refine g_icmp_ge (pc := 89) (tgt := 128) dc_A_resolve_89 rfl (fun _ => ?_) (fun hc => absurd hc (by decide))
  refine g_aload_n (pc := 128) dc_A_resolve_128 rfl ?_
  refine g_iload (pc := 129) dc_A_resolve_129 rfl ?_
  refine g_iload (pc := 131) dc_A_resolve_131 rfl ?_
  refine g_ldcS (pc := 133) 2 dc_A_resolve_133 (by decide) rfl rfl ?_
  refine g_s4 (pc := 135) (M' := mt_W_beginsWith) dc_A_resolve_135 mo_W_beginsWith st_W_beginsWith ln_A_55 (Nat.le_of_ble_eq_true rfl) (Nat.le_of_ble_eq_true rfl) ?_
  refine g_iload_n (pc := 0) dc_W_beginsWith_0 rfl ?_
  refine g_xload_n (pc := 1) dc_W_beginsWith_1 rfl ?_
  refine g_x0 (pc := 2) (M' := mt_JString_length) dc_W_beginsWith_2 mo_JString_length im_JString_length se_JString_length (am_t3 75 rfl rfl) (by decide) (Nat.le_of_ble_eq_true rfl) (Nat.le_of_ble_eq_true rfl) ?_
  refine g_xload_n (pc := 0) dc_JString_length_0 rfl ?_
  refine g_sValue (pc := 1) dc_JString_length_1 (by decide) (am_t4 204 rfl rfl) ?_
  refine g_sLen (pc := 4) (n := 2) dc_JString_length_4 (by decide) rfl ?_
  refine g_xload_n (pc := 5) dc_JString_length_5 rfl ?_
  refine g_x0 (pc := 6) (M' := mt_JString_coder) dc_JString_length_6 mo_JString_coder im_JString_coder se_JString_coder (am_t2 236 rfl rfl) (by decide) (Nat.le_of_ble_eq_true rfl) (Nat.le_of_ble_eq_true rfl) ?_
  refine g_gsCompact (pc := 0) dc_JString_coder_0 (am_t2 230 rfl rfl) ?_
  refine g_if_eq (pc := 3) (tgt := 13) dc_JString_coder_3 rfl (fun hc => absurd hc (by decide)) (fun _ => ?_)
  refine g_xload_n (pc := 6) dc_JString_coder_6 rfl ?_
  refine g_sCoder (pc := 7) dc_JString_coder_7 (by decide) (am_t4 205 rfl rfl) ?_
  refine g_goto (pc := 10) (tgt := 14) dc_JString_coder_10 rfl ?_
  refine g_bretC (pc := 14) dc_JString_coder_14 rfl rfl ?_
  refine g_ishr (pc := 9) (v := 2) dc_JString_length_9 (by decide) ?_
  refine g_iretC (pc := 10) dc_JString_length_10 rfl ?_
  refine g_iadd (pc := 5) (v := 2) dc_W_beginsWith_5 (by decide) ?_
  refine g_istore (pc := 6) dc_W_beginsWith_6 (by decide) ?_
  refine g_iload (pc := 8) dc_W_beginsWith_8 rfl ?_
  refine g_iload_n (pc := 10) dc_W_beginsWith_10 rfl ?_
  refine g_icmp_gt (pc := 11) (tgt := 29) dc_W_beginsWith_11 rfl (fun _ => ?_) (fun hc => absurd hc (by decide))
  refine g_iconst (pc := 29) (v := 0) dc_W_beginsWith_29 rfl ?_
  refine g_zretC (pc := 30) dc_W_beginsWith_30 rfl rfl ?_
  refine g_if_eq (pc := 138) (tgt := 155) dc_A_resolve_138 rfl (fun _ => ?_) (fun hc => absurd hc (by decide))
  refine g_aload_n (pc := 155) dc_A_resolve_155 rfl ?_
  refine g_aload_n (pc := 156) dc_A_resolve_156 rfl ?_
  refine g_iload (pc := 157) dc_A_resolve_157 rfl ?_
  refine g_iload (pc := 159) dc_A_resolve_159 rfl ?_
  refine g_aloadN (pc := 161) dc_A_resolve_161 rfl ?_
  refine g_v4 (pc := 163) (M' := mt_A_joinBase) dc_A_resolve_163 mo_A_joinBase im_A_joinBase se_A_joinBase ln_A_61 rfl rfl rfl (Nat.le_of_ble_eq_true rfl) (Nat.le_of_ble_eq_true rfl) ?_
  refine g_aloadN (pc := 0) dc_A_joinBase_0 rfl ?_
  refine g_ifnullN (pc := 2) (tgt := 13) dc_A_joinBase_2 rfl ?_
  refine g_iconst (pc := 13) (v := (-1)) dc_A_joinBase_13 rfl ?_
  refine g_iretC (pc := 14) dc_A_joinBase_14 rfl ?_
  refine g_istore (pc := 166) dc_A_resolve_166 (by decide) ?_
  refine g_iload (pc := 168) dc_A_resolve_168 rfl ?_
  refine g_iconst (pc := 170) (v := (-1)) dc_A_resolve_170 rfl ?_
  refine g_icmp_ne (pc := 171) (tgt := 176) dc_A_resolve_171 rfl (fun hc => absurd hc (by decide)) (fun _ => ?_)
  refine g_iconst (pc := 174) (v := 0) dc_A_resolve_174 rfl ?_
  refine g_zretC (pc := 175) dc_A_resolve_175 rfl rfl ?_
  refine g_zretC (pc := 20) dc_W_resolveLine_20 rfl rfl ?_
  refine g_if_eq (pc := 6) (tgt := 32) dc_W_rules_6 rfl (fun _ => ?_) (fun hc => absurd hc (by decide))
  refine g_aload_n (pc := 32) dc_W_rules_32 rfl ?_
  refine g_getfield (pc := 33) dc_W_rules_33 fl_W_12 rfl rfl ?_
  refine g_v0 (pc := 36) (M' := mt_B_clear) dc_W_rules_36 mo_B_clear im_B_clear se_B_clear ln_W_121 rfl rfl rfl (Nat.le_of_ble_eq_true rfl) (Nat.le_of_ble_eq_true rfl) ?_
  refine g_aload_n (pc := 0) dc_B_clear_0 rfl ?_
  refine g_iconst (pc := 1) (v := 0) dc_B_clear_1 rfl ?_
  refine g_putfield (pc := 2) dc_B_clear_2 fp_B_clear_15 rfl (Nat.le_of_ble_eq_true rfl) rfl rfl ?_
  refine g_vretC (pc := 5) dc_B_clear_5 rfl ?_
  refine g_iload_n (pc := 39) dc_W_rules_39 rfl ?_
  refine g_iretC (pc := 40) dc_W_rules_40 rfl ?_
  refine g_aload_n (pc := 363) dc_L_law_363 rfl ?_
  refine g_v0 (pc := 364) (M' := mt_M_rules) dc_L_law_364 mo_M_rules im_M_rules se_M_rules ln_L_55 rfl rfl rfl (Nat.le_of_ble_eq_true rfl) (Nat.le_of_ble_eq_true rfl) ?_
  refine g_aload_n (pc := 0) dc_M_rules_0 rfl ?_
  refine g_v0 (pc := 1) (M' := mt_M_use) dc_M_rules_1 mo_M_use im_M_use se_M_use ln_M_505 rfl rfl rfl (Nat.le_of_ble_eq_true rfl) (Nat.le_of_ble_eq_true rfl) ?_
  refine g_aload_n (pc := 0) dc_M_use_0 rfl ?_
  refine g_iconst (pc := 1) (v := 0) dc_M_use_1 rfl ?_
  refine g_putfield (pc := 2) dc_M_use_2 fp_M_use_1 rfl (Nat.le_of_ble_eq_true rfl) rfl rfl ?_
  refine g_aload_n (pc := 5) dc_M_use_5 rfl ?_
  refine g_getfield (pc := 6) dc_M_use_6 fl_M_493 rfl rfl ?_
  refine g_istore_n (pc := 9) dc_M_use_9 (by decide) ?_
  refine g_aload_n (pc := 10) dc_M_use_10 rfl ?_
  refine g_iconst (pc := 11) (v := 0) dc_M_use_11 rfl ?_
  refine g_putfield (pc := 12) dc_M_use_12 fp_M_use_493 rfl (Nat.le_of_ble_eq_true rfl) rfl rfl ?_
  refine g_iload_n (pc := 15) dc_M_use_15 rfl ?_
  refine g_iretC (pc := 16) dc_M_use_16 rfl ?_
  refine g_istore_n (pc := 4) dc_M_rules_4 (by decide) ?_
  refine g_aload_n (pc := 5) dc_M_rules_5 rfl ?_
  refine g_iload_n (pc := 6) dc_M_rules_6 rfl ?_
  refine g_v1 (pc := 7) (M' := mt_M_readFirst) dc_M_rules_7 mo_M_readFirst im_M_readFirst se_M_readFirst ln_M_508 rfl rfl rfl (Nat.le_of_ble_eq_true rfl) (Nat.le_of_ble_eq_true rfl) ?_
  refine g_aload_n (pc := 0) dc_M_readFirst_0 rfl ?_
  refine g_aload_n (pc := 1) dc_M_readFirst_1 rfl ?_
  refine g_getfield (pc := 2) dc_M_readFirst_2 fl_M_143 rfl rfl ?_
  refine g_iconst (pc := 5) (v := 0) dc_M_readFirst_5 rfl ?_
  refine g_aload_n (pc := 6) dc_M_readFirst_6 rfl ?_
  refine g_getfield (pc := 7) dc_M_readFirst_7 fl_M_143 rfl rfl ?_
  refine g_iconst (pc := 10) (v := 0) dc_M_readFirst_10 rfl ?_
  refine g_iload_n (pc := 11) dc_M_readFirst_11 rfl ?_
  refine g_s3 (pc := 12) (M' := mt_M_lineEnd) dc_M_readFirst_12 mo_M_lineEnd st_M_lineEnd ln_M_455 (Nat.le_of_ble_eq_true rfl) (Nat.le_of_ble_eq_true rfl) ?_
  refine g_aload_n (pc := 0) dc_M_lineEnd_0 rfl ?_
  refine g_iload_n (pc := 1) dc_M_lineEnd_1 rfl ?_
  refine g_iload_n (pc := 2) dc_M_lineEnd_2 rfl ?_
  refine g_bipush (pc := 3) (v := 10) dc_M_lineEnd_3 rfl ?_
  refine g_s4 (pc := 5) (M' := mt_M_seek) dc_M_lineEnd_5 mo_M_seek st_M_seek ln_M_48 (Nat.le_of_ble_eq_true rfl) (Nat.le_of_ble_eq_true rfl) ?_
  refine g_iload_n (pc := 0) dc_M_seek_0 rfl ?_
  refine g_istore (pc := 1) dc_M_seek_1 (by decide) ?_
  refine g_iload (pc := 3) dc_M_seek_3 rfl ?_
  refine g_iload_n (pc := 5) dc_M_seek_5 rfl ?_
  refine g_icmp_ge (pc := 6) (tgt := 23) dc_M_seek_6 rfl (fun _ => ?_) (fun hc => absurd hc (by decide))
  refine g_iload (pc := 23) dc_M_seek_23 rfl ?_
  refine g_iretC (pc := 25) dc_M_seek_25 rfl ?_
  refine g_istore_n (pc := 8) dc_M_lineEnd_8 (by decide) ?_
  refine g_iload_n (pc := 9) dc_M_lineEnd_9 rfl ?_
  refine g_iload_n (pc := 10) dc_M_lineEnd_10 rfl ?_
  refine g_icmp_ge (pc := 11) (tgt := 35) dc_M_lineEnd_11 rfl (fun _ => ?_) (fun hc => absurd hc (by decide))
  refine g_iload_n (pc := 35) dc_M_lineEnd_35 rfl ?_
  refine g_iretC (pc := 36) dc_M_lineEnd_36 rfl ?_
  refine g_iconst (pc := 15) (v := (-1)) dc_M_readFirst_15 rfl ?_
  refine g_v4 (pc := 16) (M' := mt_M_readReference) dc_M_readFirst_16 mo_M_readReference im_M_readReference se_M_readReference ln_M_297 rfl rfl rfl (Nat.le_of_ble_eq_true rfl) (Nat.le_of_ble_eq_true rfl) ?_
  refine g_iload_n (pc := 0) dc_M_readReference_0 rfl ?_
  refine g_istore (pc := 1) dc_M_readReference_1 (by decide) ?_
  refine g_iload_n (pc := 3) dc_M_readReference_3 rfl ?_
  refine g_istore (pc := 4) dc_M_readReference_4 (by decide) ?_
  refine g_iload (pc := 6) dc_M_readReference_6 rfl ?_
  refine g_iload (pc := 8) dc_M_readReference_8 rfl ?_
  refine g_icmp_ge (pc := 10) (tgt := 29) dc_M_readReference_10 rfl (fun _ => ?_) (fun hc => absurd hc (by decide))
  refine g_iload (pc := 29) dc_M_readReference_29 rfl ?_
  refine g_iload (pc := 31) dc_M_readReference_31 rfl ?_
  refine g_icmp_le (pc := 33) (tgt := 54) dc_M_readReference_33 rfl (fun _ => ?_) (fun hc => absurd hc (by decide))
  refine g_aload_n (pc := 54) dc_M_readReference_54 rfl ?_
  refine g_iload (pc := 55) dc_M_readReference_55 rfl ?_
  refine g_iload (pc := 57) dc_M_readReference_57 rfl ?_
  refine g_bipush (pc := 59) (v := 35) dc_M_readReference_59 rfl ?_
  refine g_s4 (pc := 61) (M' := mt_M_seek) dc_M_readReference_61 mo_M_seek st_M_seek ln_M_48 (Nat.le_of_ble_eq_true rfl) (Nat.le_of_ble_eq_true rfl) ?_
  refine g_iload_n (pc := 0) dc_M_seek_0 rfl ?_
  refine g_istore (pc := 1) dc_M_seek_1 (by decide) ?_
  refine g_iload (pc := 3) dc_M_seek_3 rfl ?_
  refine g_iload_n (pc := 5) dc_M_seek_5 rfl ?_
  refine g_icmp_ge (pc := 6) (tgt := 23) dc_M_seek_6 rfl (fun _ => ?_) (fun hc => absurd hc (by decide))
  refine g_iload (pc := 23) dc_M_seek_23 rfl ?_
  refine g_iretC (pc := 25) dc_M_seek_25 rfl ?_
  refine g_istore (pc := 64) dc_M_readReference_64 (by decide) ?_
  refine g_iload (pc := 66) dc_M_readReference_66 rfl ?_
  refine g_istore (pc := 68) dc_M_readReference_68 (by decide) ?_
  refine g_iload (pc := 70) dc_M_readReference_70 rfl ?_
  refine g_iload (pc := 72) dc_M_readReference_72 rfl ?_
  refine g_icmp_ge (pc := 74) (tgt := 96) dc_M_readReference_74 rfl (fun _ => ?_) (fun hc => absurd hc (by decide))
  refine g_aload_n (pc := 96) dc_M_readReference_96 rfl ?_
  refine g_iload (pc := 97) dc_M_readReference_97 rfl ?_
  refine g_iload (pc := 99) dc_M_readReference_99 rfl ?_
  refine g_bipush (pc := 101) (v := 58) dc_M_readReference_101 rfl ?_
  refine g_s4 (pc := 103) (M' := mt_M_seek) dc_M_readReference_103 mo_M_seek st_M_seek ln_M_48 (Nat.le_of_ble_eq_true rfl) (Nat.le_of_ble_eq_true rfl) ?_
  refine g_iload_n (pc := 0) dc_M_seek_0 rfl ?_
  refine g_istore (pc := 1) dc_M_seek_1 (by decide) ?_
  refine g_iload (pc := 3) dc_M_seek_3 rfl ?_
  refine g_iload_n (pc := 5) dc_M_seek_5 rfl ?_
  refine g_icmp_ge (pc := 6) (tgt := 23) dc_M_seek_6 rfl (fun _ => ?_) (fun hc => absurd hc (by decide))
  refine g_iload (pc := 23) dc_M_seek_23 rfl ?_
  refine g_iretC (pc := 25) dc_M_seek_25 rfl ?_
  refine g_istore (pc := 106) dc_M_readReference_106 (by decide) ?_
  refine g_aload_n (pc := 108) dc_M_readReference_108 rfl ?_
  refine g_iload (pc := 109) dc_M_readReference_109 rfl ?_
  refine g_iload (pc := 111) dc_M_readReference_111 rfl ?_
  refine g_bipush (pc := 113) (v := 47) dc_M_readReference_113 rfl ?_
  refine g_s4 (pc := 115) (M' := mt_M_seek) dc_M_readReference_115 mo_M_seek st_M_seek ln_M_48 (Nat.le_of_ble_eq_true rfl) (Nat.le_of_ble_eq_true rfl) ?_
  refine g_iload_n (pc := 0) dc_M_seek_0 rfl ?_
  refine g_istore (pc := 1) dc_M_seek_1 (by decide) ?_
  refine g_iload (pc := 3) dc_M_seek_3 rfl ?_
  refine g_iload_n (pc := 5) dc_M_seek_5 rfl ?_
  refine g_icmp_ge (pc := 6) (tgt := 23) dc_M_seek_6 rfl (fun _ => ?_) (fun hc => absurd hc (by decide))
  refine g_iload (pc := 23) dc_M_seek_23 rfl ?_
  refine g_iretC (pc := 25) dc_M_seek_25 rfl ?_
  refine g_istore (pc := 118) dc_M_readReference_118 (by decide) ?_
  refine g_aload_n (pc := 120) dc_M_readReference_120 rfl ?_
  refine g_iload (pc := 121) dc_M_readReference_121 rfl ?_
  refine g_iload (pc := 123) dc_M_readReference_123 rfl ?_
  refine g_bipush (pc := 125) (v := 63) dc_M_readReference_125 rfl ?_
  refine g_s4 (pc := 127) (M' := mt_M_seek) dc_M_readReference_127 mo_M_seek st_M_seek ln_M_48 (Nat.le_of_ble_eq_true rfl) (Nat.le_of_ble_eq_true rfl) ?_
  refine g_iload_n (pc := 0) dc_M_seek_0 rfl ?_
  refine g_istore (pc := 1) dc_M_seek_1 (by decide) ?_
  refine g_iload (pc := 3) dc_M_seek_3 rfl ?_
  refine g_iload_n (pc := 5) dc_M_seek_5 rfl ?_
  refine g_icmp_ge (pc := 6) (tgt := 23) dc_M_seek_6 rfl (fun _ => ?_) (fun hc => absurd hc (by decide))
  refine g_iload (pc := 23) dc_M_seek_23 rfl ?_
  refine g_iretC (pc := 25) dc_M_seek_25 rfl ?_
  refine g_istore (pc := 130) dc_M_readReference_130 (by decide) ?_
  refine g_iload (pc := 132) dc_M_readReference_132 rfl ?_
  refine g_iload (pc := 134) dc_M_readReference_134 rfl ?_
  refine g_icmp_ge (pc := 136) (tgt := 198) dc_M_readReference_136 rfl (fun _ => ?_) (fun hc => absurd hc (by decide))
  refine g_iload (pc := 198) dc_M_readReference_198 rfl ?_
  refine g_iconst (pc := 200) (v := 1) dc_M_readReference_200 rfl ?_
  refine g_iadd (pc := 201) (v := 1) dc_M_readReference_201 (by decide) ?_
  refine g_iload (pc := 202) dc_M_readReference_202 rfl ?_
  refine g_icmp_ge (pc := 204) (tgt := 307) dc_M_readReference_204 rfl (fun _ => ?_) (fun hc => absurd hc (by decide))
  refine g_iload (pc := 307) dc_M_readReference_307 rfl ?_
  refine g_if_ge (pc := 309) (tgt := 314) dc_M_readReference_309 rfl (fun hc => absurd hc (by decide)) (fun _ => ?_)
  refine g_iconst (pc := 312) (v := 0) dc_M_readReference_312 rfl ?_
  refine g_zretC (pc := 313) dc_M_readReference_313 rfl rfl ?_
  refine g_zretC (pc := 19) dc_M_readFirst_19 rfl rfl ?_
  refine g_if_ne (pc := 10) (tgt := 15) dc_M_rules_10 rfl (fun hc => absurd hc (by decide)) (fun _ => ?_)
  refine g_iconst (pc := 13) (v := (-1)) dc_M_rules_13 rfl ?_
  refine g_iretC (pc := 14) dc_M_rules_14 rfl ?_
  refine g_icmp_eq (pc := 367) (tgt := 873) dc_L_law_367 rfl (fun _ => ?_) (fun hc => absurd hc (by decide))
  refine g_iinc (pc := 873) (v := 6) dc_L_law_873 rfl (by decide) (by decide) ?_
  refine g_goto (pc := 876) (tgt := 23) dc_L_law_876 rfl ?_
  refine g_iload (pc := 23) dc_L_law_23 rfl ?_
  refine g_xload_n (pc := 25) dc_L_law_25 rfl ?_
  refine g_scriptLenV (pc := 26) (n := 6) dc_L_law_26 hL rfl ?_
  refine g_bipush (pc := 27) (v := 6) dc_L_law_27 rfl ?_
  refine g_isub (pc := 29) (v := 0) dc_L_law_29 (by decide) ?_
  refine g_icmp_gt (pc := 30) (tgt := 879) dc_L_law_30 rfl (fun _ => ?_) (fun hc => absurd hc (by decide))
  refine g_iconst (pc := 879) (v := 1) dc_L_law_879 rfl ?_
  exact g_zreturn dc_L_law_880 rfl rfl ⟨rfl, (Nat.le_of_ble_eq_true rfl), am_bz (by (repeat (first | refine am_bw rfl ?_ | refine am_bA rfl ?_ | refine am_bB rfl ?_ | refine am_bC rfl ?_)); exact am_b0 (Nat.le_of_ble_eq_true rfl))⟩
set_option maxRecDepth 20000 in
set_option maxHeartbeats 1000000 in
theorem p1_6 {X : am_X} {p0 p1 p2 p3 p4 p5 : Int32} (hl9 : X.1.stackTraces = false) (hL : X.2.2.2.2.2.1 = 6) (e0 : X.2.2.2.2.2.2 (Int32.toNatClampNeg 0) = p0) (e1 : X.2.2.2.2.2.2 (Int32.toNatClampNeg 1) = p1) (e2 : X.2.2.2.2.2.2 (Int32.toNatClampNeg 2) = p2) (e3 : X.2.2.2.2.2.2 (Int32.toNatClampNeg 3) = p3) (e4 : X.2.2.2.2.2.2 (Int32.toNatClampNeg 4) = p4) (e5 : X.2.2.2.2.2.2 (Int32.toNatClampNeg 5) = p5) : am_G X mt_L_law 60 372 lo_0 [] hp_0 (fun r h => r = some (.int 1) ∧ h.length ≤ 600002 ∧ am_sl h ≤ 7302232) := by
  refine g_aload_n (pc := 372) dc_L_law_372 rfl ?_
  refine g_v0 (pc := 373) (M' := mt_W_allowed) dc_L_law_373 mo_W_allowed im_W_allowed se_W_allowed ln_L_56 rfl rfl rfl (Nat.le_of_ble_eq_true rfl) (Nat.le_of_ble_eq_true rfl) ?_
  refine g_aload_n (pc := 0) dc_W_allowed_0 rfl ?_
  refine g_v0 (pc := 1) (M' := mt_W_resolveTape) dc_W_allowed_1 mo_W_resolveTape im_W_resolveTape se_W_resolveTape ln_W_128 rfl rfl rfl (Nat.le_of_ble_eq_true rfl) (Nat.le_of_ble_eq_true rfl) ?_
  refine g_aload_n (pc := 0) dc_W_resolveTape_0 rfl ?_
  refine g_getfield (pc := 1) dc_W_resolveTape_1 fl_W_27 rfl rfl ?_
  refine g_aload_n (pc := 4) dc_W_resolveTape_4 rfl ?_
  refine g_getfield (pc := 5) dc_W_resolveTape_5 fl_W_12 rfl rfl ?_
  refine g_getfield (pc := 8) dc_W_resolveTape_8 fl_W_109 rfl rfl ?_
  refine g_iconst (pc := 11) (v := 0) dc_W_resolveTape_11 rfl ?_
  refine g_aload_n (pc := 12) dc_W_resolveTape_12 rfl ?_
  refine g_getfield (pc := 13) dc_W_resolveTape_13 fl_W_12 rfl rfl ?_
  refine g_getfield (pc := 16) dc_W_resolveTape_16 fl_W_85 rfl rfl ?_
  refine g_null (pc := 19) dc_W_resolveTape_19 ?_
  refine g_v4 (pc := 20) (M' := mt_A_resolve) dc_W_resolveTape_20 mo_A_resolve im_A_resolve se_A_resolve ln_W_117 rfl rfl rfl (Nat.le_of_ble_eq_true rfl) (Nat.le_of_ble_eq_true rfl) ?_
  refine g_aload_n (pc := 0) dc_A_resolve_0 rfl ?_
  refine g_getfield (pc := 1) dc_A_resolve_1 fl_A_14 rfl rfl ?_
  refine g_v0 (pc := 4) (M' := mt_B_clear) dc_A_resolve_4 mo_B_clear im_B_clear se_B_clear ln_A_23 rfl rfl rfl (Nat.le_of_ble_eq_true rfl) (Nat.le_of_ble_eq_true rfl) ?_
  refine g_aload_n (pc := 0) dc_B_clear_0 rfl ?_
  refine g_iconst (pc := 1) (v := 0) dc_B_clear_1 rfl ?_
  refine g_putfield (pc := 2) dc_B_clear_2 fp_B_clear_15 rfl (Nat.le_of_ble_eq_true rfl) rfl rfl ?_
  refine g_vretC (pc := 5) dc_B_clear_5 rfl ?_
  refine g_aload_n (pc := 7) dc_A_resolve_7 rfl ?_
  refine g_getfield (pc := 8) dc_A_resolve_8 fl_A_20 rfl rfl ?_
  refine g_v0 (pc := 11) (M' := mt_B_clear) dc_A_resolve_11 mo_B_clear im_B_clear se_B_clear ln_A_23 rfl rfl rfl (Nat.le_of_ble_eq_true rfl) (Nat.le_of_ble_eq_true rfl) ?_
  refine g_aload_n (pc := 0) dc_B_clear_0 rfl ?_
  refine g_iconst (pc := 1) (v := 0) dc_B_clear_1 rfl ?_
  refine g_putfield (pc := 2) dc_B_clear_2 fp_B_clear_15 rfl (Nat.le_of_ble_eq_true rfl) rfl rfl ?_
  refine g_vretC (pc := 5) dc_B_clear_5 rfl ?_
  refine g_aload_n (pc := 14) dc_A_resolve_14 rfl ?_
  refine g_iload_n (pc := 15) dc_A_resolve_15 rfl ?_
  refine g_iload_n (pc := 16) dc_A_resolve_16 rfl ?_
  refine g_s3 (pc := 17) (M' := mt_W_trimmedFrom) dc_A_resolve_17 mo_W_trimmedFrom st_W_trimmedFrom ln_A_26 (Nat.le_of_ble_eq_true rfl) (Nat.le_of_ble_eq_true rfl) ?_
  refine g_iload_n (pc := 0) dc_W_trimmedFrom_0 rfl ?_
  refine g_istore_n (pc := 1) dc_W_trimmedFrom_1 (by decide) ?_
  refine g_iload_n (pc := 2) dc_W_trimmedFrom_2 rfl ?_
  refine g_iload_n (pc := 3) dc_W_trimmedFrom_3 rfl ?_
  refine g_icmp_ge (pc := 4) (tgt := 22) dc_W_trimmedFrom_4 rfl (fun _ => ?_) (fun hc => absurd hc (by decide))
  refine g_iload_n (pc := 22) dc_W_trimmedFrom_22 rfl ?_
  refine g_iretC (pc := 23) dc_W_trimmedFrom_23 rfl ?_
  refine g_istore (pc := 20) dc_A_resolve_20 (by decide) ?_
  refine g_aload_n (pc := 22) dc_A_resolve_22 rfl ?_
  refine g_bipush (pc := 23) (v := 35) dc_A_resolve_23 rfl ?_
  refine g_iload (pc := 25) dc_A_resolve_25 rfl ?_
  refine g_aload_n (pc := 27) dc_A_resolve_27 rfl ?_
  refine g_iload (pc := 28) dc_A_resolve_28 rfl ?_
  refine g_iload_n (pc := 30) dc_A_resolve_30 rfl ?_
  refine g_s3 (pc := 31) (M' := mt_W_trimmedTo) dc_A_resolve_31 mo_W_trimmedTo st_W_trimmedTo ln_A_30 (Nat.le_of_ble_eq_true rfl) (Nat.le_of_ble_eq_true rfl) ?_
  refine g_iload_n (pc := 0) dc_W_trimmedTo_0 rfl ?_
  refine g_istore_n (pc := 1) dc_W_trimmedTo_1 (by decide) ?_
  refine g_iload_n (pc := 2) dc_W_trimmedTo_2 rfl ?_
  refine g_iload_n (pc := 3) dc_W_trimmedTo_3 rfl ?_
  refine g_icmp_le (pc := 4) (tgt := 24) dc_W_trimmedTo_4 rfl (fun _ => ?_) (fun hc => absurd hc (by decide))
  refine g_iload_n (pc := 24) dc_W_trimmedTo_24 rfl ?_
  refine g_iretC (pc := 25) dc_W_trimmedTo_25 rfl ?_
  refine g_s4 (pc := 34) (M' := mt_W_indexOf) dc_A_resolve_34 mo_W_indexOf st_W_indexOf ln_A_33 (Nat.le_of_ble_eq_true rfl) (Nat.le_of_ble_eq_true rfl) ?_
  refine g_iload_n (pc := 0) dc_W_indexOf_0 rfl ?_
  refine g_istore (pc := 1) dc_W_indexOf_1 (by decide) ?_
  refine g_iload (pc := 3) dc_W_indexOf_3 rfl ?_
  refine g_iload_n (pc := 5) dc_W_indexOf_5 rfl ?_
  refine g_icmp_ge (pc := 6) (tgt := 23) dc_W_indexOf_6 rfl (fun _ => ?_) (fun hc => absurd hc (by decide))
  refine g_iload (pc := 23) dc_W_indexOf_23 rfl ?_
  refine g_iretC (pc := 25) dc_W_indexOf_25 rfl ?_
  refine g_istore (pc := 37) dc_A_resolve_37 (by decide) ?_
  refine g_aload_n (pc := 39) dc_A_resolve_39 rfl ?_
  refine g_iload (pc := 40) dc_A_resolve_40 rfl ?_
  refine g_iload (pc := 42) dc_A_resolve_42 rfl ?_
  refine g_s3 (pc := 44) (M' := mt_A_isClean) dc_A_resolve_44 mo_A_isClean st_A_isClean ln_A_37 (Nat.le_of_ble_eq_true rfl) (Nat.le_of_ble_eq_true rfl) ?_
  refine g_iload_n (pc := 0) dc_A_isClean_0 rfl ?_
  refine g_istore_n (pc := 1) dc_A_isClean_1 (by decide) ?_
  refine g_iload_n (pc := 2) dc_A_isClean_2 rfl ?_
  refine g_iload_n (pc := 3) dc_A_isClean_3 rfl ?_
  refine g_icmp_ge (pc := 4) (tgt := 64) dc_A_isClean_4 rfl (fun _ => ?_) (fun hc => absurd hc (by decide))
  refine g_iconst (pc := 64) (v := 1) dc_A_isClean_64 rfl ?_
  refine g_zretC (pc := 65) dc_A_isClean_65 rfl rfl ?_
  refine g_if_ne (pc := 47) (tgt := 52) dc_A_resolve_47 rfl (fun _ => ?_) (fun hc => absurd hc (by decide))
  refine g_aload_n (pc := 52) dc_A_resolve_52 rfl ?_
  refine g_bipush (pc := 53) (v := 58) dc_A_resolve_53 rfl ?_
  refine g_iload (pc := 55) dc_A_resolve_55 rfl ?_
  refine g_iload (pc := 57) dc_A_resolve_57 rfl ?_
  refine g_s4 (pc := 59) (M' := mt_W_indexOf) dc_A_resolve_59 mo_W_indexOf st_W_indexOf ln_A_33 (Nat.le_of_ble_eq_true rfl) (Nat.le_of_ble_eq_true rfl) ?_
  refine g_iload_n (pc := 0) dc_W_indexOf_0 rfl ?_
  refine g_istore (pc := 1) dc_W_indexOf_1 (by decide) ?_
  refine g_iload (pc := 3) dc_W_indexOf_3 rfl ?_
  refine g_iload_n (pc := 5) dc_W_indexOf_5 rfl ?_
  refine g_icmp_ge (pc := 6) (tgt := 23) dc_W_indexOf_6 rfl (fun _ => ?_) (fun hc => absurd hc (by decide))
  refine g_iload (pc := 23) dc_W_indexOf_23 rfl ?_
  refine g_iretC (pc := 25) dc_W_indexOf_25 rfl ?_
  refine g_istore (pc := 62) dc_A_resolve_62 (by decide) ?_
  refine g_iload (pc := 64) dc_A_resolve_64 rfl ?_
  refine g_aload_n (pc := 66) dc_A_resolve_66 rfl ?_
  refine g_bipush (pc := 67) (v := 47) dc_A_resolve_67 rfl ?_
  refine g_iload (pc := 69) dc_A_resolve_69 rfl ?_
  refine g_iload (pc := 71) dc_A_resolve_71 rfl ?_
  refine g_s4 (pc := 73) (M' := mt_W_indexOf) dc_A_resolve_73 mo_W_indexOf st_W_indexOf ln_A_33 (Nat.le_of_ble_eq_true rfl) (Nat.le_of_ble_eq_true rfl) ?_
  refine g_iload_n (pc := 0) dc_W_indexOf_0 rfl ?_
  refine g_istore (pc := 1) dc_W_indexOf_1 (by decide) ?_
  refine g_iload (pc := 3) dc_W_indexOf_3 rfl ?_
  refine g_iload_n (pc := 5) dc_W_indexOf_5 rfl ?_
  refine g_icmp_ge (pc := 6) (tgt := 23) dc_W_indexOf_6 rfl (fun _ => ?_) (fun hc => absurd hc (by decide))
  refine g_iload (pc := 23) dc_W_indexOf_23 rfl ?_
  refine g_iretC (pc := 25) dc_W_indexOf_25 rfl ?_
  refine g_aload_n (pc := 76) dc_A_resolve_76 rfl ?_
  refine g_bipush (pc := 77) (v := 63) dc_A_resolve_77 rfl ?_
  refine g_iload (pc := 79) dc_A_resolve_79 rfl ?_
  refine g_iload (pc := 81) dc_A_resolve_81 rfl ?_
  refine g_s4 (pc := 83) (M' := mt_W_indexOf) dc_A_resolve_83 mo_W_indexOf st_W_indexOf ln_A_33 (Nat.le_of_ble_eq_true rfl) (Nat.le_of_ble_eq_true rfl) ?_
  refine g_iload_n (pc := 0) dc_W_indexOf_0 rfl ?_
  refine g_istore (pc := 1) dc_W_indexOf_1 (by decide) ?_
  refine g_iload (pc := 3) dc_W_indexOf_3 rfl ?_
  refine g_iload_n (pc := 5) dc_W_indexOf_5 rfl ?_
  refine g_icmp_ge (pc := 6) (tgt := 23) dc_W_indexOf_6 rfl (fun _ => ?_) (fun hc => absurd hc (by decide))
  refine g_iload (pc := 23) dc_W_indexOf_23 rfl ?_
  refine g_iretC (pc := 25) dc_W_indexOf_25 rfl ?_
  refine g_s2 (pc := 86) (M' := mt_JMath_min) dc_A_resolve_86 mo_JMath_min st_JMath_min ln_A_41 (Nat.le_of_ble_eq_true rfl) (Nat.le_of_ble_eq_true rfl) ?_
  refine g_iload_n (pc := 0) dc_JMath_min_0 rfl ?_
  refine g_iload_n (pc := 1) dc_JMath_min_1 rfl ?_
  refine g_icmp_gt (pc := 2) (tgt := 9) dc_JMath_min_2 rfl (fun hc => absurd hc (by decide)) (fun _ => ?_)
  refine g_iload_n (pc := 5) dc_JMath_min_5 rfl ?_
  refine g_goto (pc := 6) (tgt := 10) dc_JMath_min_6 rfl ?_
  refine g_iretC (pc := 10) dc_JMath_min_10 rfl ?_
  refine g_icmp_ge (pc := 89) (tgt := 128) dc_A_resolve_89 rfl (fun _ => ?_) (fun hc => absurd hc (by decide))
  refine g_aload_n (pc := 128) dc_A_resolve_128 rfl ?_
  refine g_iload (pc := 129) dc_A_resolve_129 rfl ?_
  refine g_iload (pc := 131) dc_A_resolve_131 rfl ?_
  refine g_ldcS (pc := 133) 2 dc_A_resolve_133 (by decide) rfl rfl ?_
  refine g_s4 (pc := 135) (M' := mt_W_beginsWith) dc_A_resolve_135 mo_W_beginsWith st_W_beginsWith ln_A_55 (Nat.le_of_ble_eq_true rfl) (Nat.le_of_ble_eq_true rfl) ?_
  refine g_iload_n (pc := 0) dc_W_beginsWith_0 rfl ?_
  refine g_xload_n (pc := 1) dc_W_beginsWith_1 rfl ?_
  refine g_x0 (pc := 2) (M' := mt_JString_length) dc_W_beginsWith_2 mo_JString_length im_JString_length se_JString_length (am_t3 75 rfl rfl) (by decide) (Nat.le_of_ble_eq_true rfl) (Nat.le_of_ble_eq_true rfl) ?_
  refine g_xload_n (pc := 0) dc_JString_length_0 rfl ?_
  refine g_sValue (pc := 1) dc_JString_length_1 (by decide) (am_t4 204 rfl rfl) ?_
  refine g_sLen (pc := 4) (n := 2) dc_JString_length_4 (by decide) rfl ?_
  refine g_xload_n (pc := 5) dc_JString_length_5 rfl ?_
  refine g_x0 (pc := 6) (M' := mt_JString_coder) dc_JString_length_6 mo_JString_coder im_JString_coder se_JString_coder (am_t2 236 rfl rfl) (by decide) (Nat.le_of_ble_eq_true rfl) (Nat.le_of_ble_eq_true rfl) ?_
  refine g_gsCompact (pc := 0) dc_JString_coder_0 (am_t2 230 rfl rfl) ?_
  refine g_if_eq (pc := 3) (tgt := 13) dc_JString_coder_3 rfl (fun hc => absurd hc (by decide)) (fun _ => ?_)
  refine g_xload_n (pc := 6) dc_JString_coder_6 rfl ?_
  refine g_sCoder (pc := 7) dc_JString_coder_7 (by decide) (am_t4 205 rfl rfl) ?_
  refine g_goto (pc := 10) (tgt := 14) dc_JString_coder_10 rfl ?_
  refine g_bretC (pc := 14) dc_JString_coder_14 rfl rfl ?_
  refine g_ishr (pc := 9) (v := 2) dc_JString_length_9 (by decide) ?_
  refine g_iretC (pc := 10) dc_JString_length_10 rfl ?_
  refine g_iadd (pc := 5) (v := 2) dc_W_beginsWith_5 (by decide) ?_
  refine g_istore (pc := 6) dc_W_beginsWith_6 (by decide) ?_
  refine g_iload (pc := 8) dc_W_beginsWith_8 rfl ?_
  refine g_iload_n (pc := 10) dc_W_beginsWith_10 rfl ?_
  refine g_icmp_gt (pc := 11) (tgt := 29) dc_W_beginsWith_11 rfl (fun _ => ?_) (fun hc => absurd hc (by decide))
  refine g_iconst (pc := 29) (v := 0) dc_W_beginsWith_29 rfl ?_
  refine g_zretC (pc := 30) dc_W_beginsWith_30 rfl rfl ?_
  refine g_if_eq (pc := 138) (tgt := 155) dc_A_resolve_138 rfl (fun _ => ?_) (fun hc => absurd hc (by decide))
  refine g_aload_n (pc := 155) dc_A_resolve_155 rfl ?_
  refine g_aload_n (pc := 156) dc_A_resolve_156 rfl ?_
  refine g_iload (pc := 157) dc_A_resolve_157 rfl ?_
  refine g_iload (pc := 159) dc_A_resolve_159 rfl ?_
  refine g_aloadN (pc := 161) dc_A_resolve_161 rfl ?_
  refine g_v4 (pc := 163) (M' := mt_A_joinBase) dc_A_resolve_163 mo_A_joinBase im_A_joinBase se_A_joinBase ln_A_61 rfl rfl rfl (Nat.le_of_ble_eq_true rfl) (Nat.le_of_ble_eq_true rfl) ?_
  refine g_aloadN (pc := 0) dc_A_joinBase_0 rfl ?_
  refine g_ifnullN (pc := 2) (tgt := 13) dc_A_joinBase_2 rfl ?_
  refine g_iconst (pc := 13) (v := (-1)) dc_A_joinBase_13 rfl ?_
  refine g_iretC (pc := 14) dc_A_joinBase_14 rfl ?_
  refine g_istore (pc := 166) dc_A_resolve_166 (by decide) ?_
  refine g_iload (pc := 168) dc_A_resolve_168 rfl ?_
  refine g_iconst (pc := 170) (v := (-1)) dc_A_resolve_170 rfl ?_
  refine g_icmp_ne (pc := 171) (tgt := 176) dc_A_resolve_171 rfl (fun hc => absurd hc (by decide)) (fun _ => ?_)
  refine g_iconst (pc := 174) (v := 0) dc_A_resolve_174 rfl ?_
  refine g_zretC (pc := 175) dc_A_resolve_175 rfl rfl ?_
  refine g_istore_n (pc := 23) dc_W_resolveTape_23 (by decide) ?_
  refine g_aload_n (pc := 24) dc_W_resolveTape_24 rfl ?_
  refine g_getfield (pc := 25) dc_W_resolveTape_25 fl_W_12 rfl rfl ?_
  refine g_v0 (pc := 28) (M' := mt_B_clear) dc_W_resolveTape_28 mo_B_clear im_B_clear se_B_clear ln_W_121 rfl rfl rfl (Nat.le_of_ble_eq_true rfl) (Nat.le_of_ble_eq_true rfl) ?_
  refine g_aload_n (pc := 0) dc_B_clear_0 rfl ?_
  refine g_iconst (pc := 1) (v := 0) dc_B_clear_1 rfl ?_
  refine g_putfield (pc := 2) dc_B_clear_2 fp_B_clear_15 rfl (Nat.le_of_ble_eq_true rfl) rfl rfl ?_
  refine g_vretC (pc := 5) dc_B_clear_5 rfl ?_
  refine g_iload_n (pc := 31) dc_W_resolveTape_31 rfl ?_
  refine g_zretC (pc := 32) dc_W_resolveTape_32 rfl rfl ?_
  refine g_if_ne (pc := 4) (tgt := 9) dc_W_allowed_4 rfl (fun hc => absurd hc (by decide)) (fun _ => ?_)
  refine g_iconst (pc := 7) (v := (-1)) dc_W_allowed_7 rfl ?_
  refine g_iretC (pc := 8) dc_W_allowed_8 rfl ?_
  refine g_aload_n (pc := 376) dc_L_law_376 rfl ?_
  refine g_v0 (pc := 377) (M' := mt_M_allowed) dc_L_law_377 mo_M_allowed im_M_allowed se_M_allowed ln_L_59 rfl rfl rfl (Nat.le_of_ble_eq_true rfl) (Nat.le_of_ble_eq_true rfl) ?_
  refine g_aload_n (pc := 0) dc_M_allowed_0 rfl ?_
  refine g_v0 (pc := 1) (M' := mt_M_use) dc_M_allowed_1 mo_M_use im_M_use se_M_use ln_M_505 rfl rfl rfl (Nat.le_of_ble_eq_true rfl) (Nat.le_of_ble_eq_true rfl) ?_
  refine g_aload_n (pc := 0) dc_M_use_0 rfl ?_
  refine g_iconst (pc := 1) (v := 0) dc_M_use_1 rfl ?_
  refine g_putfield (pc := 2) dc_M_use_2 fp_M_use_1 rfl (Nat.le_of_ble_eq_true rfl) rfl rfl ?_
  refine g_aload_n (pc := 5) dc_M_use_5 rfl ?_
  refine g_getfield (pc := 6) dc_M_use_6 fl_M_493 rfl rfl ?_
  refine g_istore_n (pc := 9) dc_M_use_9 (by decide) ?_
  refine g_aload_n (pc := 10) dc_M_use_10 rfl ?_
  refine g_iconst (pc := 11) (v := 0) dc_M_use_11 rfl ?_
  refine g_putfield (pc := 12) dc_M_use_12 fp_M_use_493 rfl (Nat.le_of_ble_eq_true rfl) rfl rfl ?_
  refine g_iload_n (pc := 15) dc_M_use_15 rfl ?_
  refine g_iretC (pc := 16) dc_M_use_16 rfl ?_
  refine g_istore_n (pc := 4) dc_M_allowed_4 (by decide) ?_
  refine g_aload_n (pc := 5) dc_M_allowed_5 rfl ?_
  refine g_aload_n (pc := 6) dc_M_allowed_6 rfl ?_
  refine g_getfield (pc := 7) dc_M_allowed_7 fl_M_143 rfl rfl ?_
  refine g_iconst (pc := 10) (v := 0) dc_M_allowed_10 rfl ?_
  refine g_iload_n (pc := 11) dc_M_allowed_11 rfl ?_
  refine g_iconst (pc := 12) (v := (-1)) dc_M_allowed_12 rfl ?_
  refine g_v4 (pc := 13) (M' := mt_M_readReference) dc_M_allowed_13 mo_M_readReference im_M_readReference se_M_readReference ln_M_297 rfl rfl rfl (Nat.le_of_ble_eq_true rfl) (Nat.le_of_ble_eq_true rfl) ?_
  refine g_iload_n (pc := 0) dc_M_readReference_0 rfl ?_
  refine g_istore (pc := 1) dc_M_readReference_1 (by decide) ?_
  refine g_iload_n (pc := 3) dc_M_readReference_3 rfl ?_
  refine g_istore (pc := 4) dc_M_readReference_4 (by decide) ?_
  refine g_iload (pc := 6) dc_M_readReference_6 rfl ?_
  refine g_iload (pc := 8) dc_M_readReference_8 rfl ?_
  refine g_icmp_ge (pc := 10) (tgt := 29) dc_M_readReference_10 rfl (fun _ => ?_) (fun hc => absurd hc (by decide))
  refine g_iload (pc := 29) dc_M_readReference_29 rfl ?_
  refine g_iload (pc := 31) dc_M_readReference_31 rfl ?_
  refine g_icmp_le (pc := 33) (tgt := 54) dc_M_readReference_33 rfl (fun _ => ?_) (fun hc => absurd hc (by decide))
  refine g_aload_n (pc := 54) dc_M_readReference_54 rfl ?_
  refine g_iload (pc := 55) dc_M_readReference_55 rfl ?_
  refine g_iload (pc := 57) dc_M_readReference_57 rfl ?_
  refine g_bipush (pc := 59) (v := 35) dc_M_readReference_59 rfl ?_
  refine g_s4 (pc := 61) (M' := mt_M_seek) dc_M_readReference_61 mo_M_seek st_M_seek ln_M_48 (Nat.le_of_ble_eq_true rfl) (Nat.le_of_ble_eq_true rfl) ?_
  refine g_iload_n (pc := 0) dc_M_seek_0 rfl ?_
  refine g_istore (pc := 1) dc_M_seek_1 (by decide) ?_
  refine g_iload (pc := 3) dc_M_seek_3 rfl ?_
  refine g_iload_n (pc := 5) dc_M_seek_5 rfl ?_
  refine g_icmp_ge (pc := 6) (tgt := 23) dc_M_seek_6 rfl (fun _ => ?_) (fun hc => absurd hc (by decide))
  refine g_iload (pc := 23) dc_M_seek_23 rfl ?_
  refine g_iretC (pc := 25) dc_M_seek_25 rfl ?_
  refine g_istore (pc := 64) dc_M_readReference_64 (by decide) ?_
  refine g_iload (pc := 66) dc_M_readReference_66 rfl ?_
  refine g_istore (pc := 68) dc_M_readReference_68 (by decide) ?_
  refine g_iload (pc := 70) dc_M_readReference_70 rfl ?_
  refine g_iload (pc := 72) dc_M_readReference_72 rfl ?_
  refine g_icmp_ge (pc := 74) (tgt := 96) dc_M_readReference_74 rfl (fun _ => ?_) (fun hc => absurd hc (by decide))
  refine g_aload_n (pc := 96) dc_M_readReference_96 rfl ?_
  refine g_iload (pc := 97) dc_M_readReference_97 rfl ?_
  refine g_iload (pc := 99) dc_M_readReference_99 rfl ?_
  refine g_bipush (pc := 101) (v := 58) dc_M_readReference_101 rfl ?_
  refine g_s4 (pc := 103) (M' := mt_M_seek) dc_M_readReference_103 mo_M_seek st_M_seek ln_M_48 (Nat.le_of_ble_eq_true rfl) (Nat.le_of_ble_eq_true rfl) ?_
  refine g_iload_n (pc := 0) dc_M_seek_0 rfl ?_
  refine g_istore (pc := 1) dc_M_seek_1 (by decide) ?_
  refine g_iload (pc := 3) dc_M_seek_3 rfl ?_
  refine g_iload_n (pc := 5) dc_M_seek_5 rfl ?_
  refine g_icmp_ge (pc := 6) (tgt := 23) dc_M_seek_6 rfl (fun _ => ?_) (fun hc => absurd hc (by decide))
  refine g_iload (pc := 23) dc_M_seek_23 rfl ?_
  refine g_iretC (pc := 25) dc_M_seek_25 rfl ?_
  refine g_istore (pc := 106) dc_M_readReference_106 (by decide) ?_
  refine g_aload_n (pc := 108) dc_M_readReference_108 rfl ?_
  refine g_iload (pc := 109) dc_M_readReference_109 rfl ?_
  refine g_iload (pc := 111) dc_M_readReference_111 rfl ?_
  refine g_bipush (pc := 113) (v := 47) dc_M_readReference_113 rfl ?_
  refine g_s4 (pc := 115) (M' := mt_M_seek) dc_M_readReference_115 mo_M_seek st_M_seek ln_M_48 (Nat.le_of_ble_eq_true rfl) (Nat.le_of_ble_eq_true rfl) ?_
  refine g_iload_n (pc := 0) dc_M_seek_0 rfl ?_
  refine g_istore (pc := 1) dc_M_seek_1 (by decide) ?_
  refine g_iload (pc := 3) dc_M_seek_3 rfl ?_
  refine g_iload_n (pc := 5) dc_M_seek_5 rfl ?_
  refine g_icmp_ge (pc := 6) (tgt := 23) dc_M_seek_6 rfl (fun _ => ?_) (fun hc => absurd hc (by decide))
  refine g_iload (pc := 23) dc_M_seek_23 rfl ?_
  refine g_iretC (pc := 25) dc_M_seek_25 rfl ?_
  refine g_istore (pc := 118) dc_M_readReference_118 (by decide) ?_
  refine g_aload_n (pc := 120) dc_M_readReference_120 rfl ?_
  refine g_iload (pc := 121) dc_M_readReference_121 rfl ?_
  refine g_iload (pc := 123) dc_M_readReference_123 rfl ?_
  refine g_bipush (pc := 125) (v := 63) dc_M_readReference_125 rfl ?_
  refine g_s4 (pc := 127) (M' := mt_M_seek) dc_M_readReference_127 mo_M_seek st_M_seek ln_M_48 (Nat.le_of_ble_eq_true rfl) (Nat.le_of_ble_eq_true rfl) ?_
  refine g_iload_n (pc := 0) dc_M_seek_0 rfl ?_
  refine g_istore (pc := 1) dc_M_seek_1 (by decide) ?_
  refine g_iload (pc := 3) dc_M_seek_3 rfl ?_
  refine g_iload_n (pc := 5) dc_M_seek_5 rfl ?_
  refine g_icmp_ge (pc := 6) (tgt := 23) dc_M_seek_6 rfl (fun _ => ?_) (fun hc => absurd hc (by decide))
  refine g_iload (pc := 23) dc_M_seek_23 rfl ?_
  refine g_iretC (pc := 25) dc_M_seek_25 rfl ?_
  refine g_istore (pc := 130) dc_M_readReference_130 (by decide) ?_
  refine g_iload (pc := 132) dc_M_readReference_132 rfl ?_
  refine g_iload (pc := 134) dc_M_readReference_134 rfl ?_
  refine g_icmp_ge (pc := 136) (tgt := 198) dc_M_readReference_136 rfl (fun _ => ?_) (fun hc => absurd hc (by decide))
  refine g_iload (pc := 198) dc_M_readReference_198 rfl ?_
  refine g_iconst (pc := 200) (v := 1) dc_M_readReference_200 rfl ?_
  refine g_iadd (pc := 201) (v := 1) dc_M_readReference_201 (by decide) ?_
  refine g_iload (pc := 202) dc_M_readReference_202 rfl ?_
  refine g_icmp_ge (pc := 204) (tgt := 307) dc_M_readReference_204 rfl (fun _ => ?_) (fun hc => absurd hc (by decide))
  refine g_iload (pc := 307) dc_M_readReference_307 rfl ?_
  refine g_if_ge (pc := 309) (tgt := 314) dc_M_readReference_309 rfl (fun hc => absurd hc (by decide)) (fun _ => ?_)
  refine g_iconst (pc := 312) (v := 0) dc_M_readReference_312 rfl ?_
  refine g_zretC (pc := 313) dc_M_readReference_313 rfl rfl ?_
  refine g_if_ne (pc := 16) (tgt := 21) dc_M_allowed_16 rfl (fun hc => absurd hc (by decide)) (fun _ => ?_)
  refine g_iconst (pc := 19) (v := (-1)) dc_M_allowed_19 rfl ?_
  refine g_iretC (pc := 20) dc_M_allowed_20 rfl ?_
  refine g_icmp_eq (pc := 380) (tgt := 873) dc_L_law_380 rfl (fun _ => ?_) (fun hc => absurd hc (by decide))
  refine g_iinc (pc := 873) (v := 6) dc_L_law_873 rfl (by decide) (by decide) ?_
  refine g_goto (pc := 876) (tgt := 23) dc_L_law_876 rfl ?_
  refine g_iload (pc := 23) dc_L_law_23 rfl ?_
  refine g_xload_n (pc := 25) dc_L_law_25 rfl ?_
  refine g_scriptLenV (pc := 26) (n := 6) dc_L_law_26 hL rfl ?_
  refine g_bipush (pc := 27) (v := 6) dc_L_law_27 rfl ?_
  refine g_isub (pc := 29) (v := 0) dc_L_law_29 (by decide) ?_
  refine g_icmp_gt (pc := 30) (tgt := 879) dc_L_law_30 rfl (fun _ => ?_) (fun hc => absurd hc (by decide))
  refine g_iconst (pc := 879) (v := 1) dc_L_law_879 rfl ?_
  exact g_zreturn dc_L_law_880 rfl rfl ⟨rfl, (Nat.le_of_ble_eq_true rfl), am_bz (by (repeat (first | refine am_bw rfl ?_ | refine am_bA rfl ?_ | refine am_bB rfl ?_ | refine am_bC rfl ?_)); exact am_b0 (Nat.le_of_ble_eq_true rfl))⟩
set_option maxRecDepth 20000 in
set_option maxHeartbeats 1000000 in
theorem p1_7 {X : am_X} {p0 p1 p2 p3 p4 p5 : Int32} (hl9 : X.1.stackTraces = false) (hL : X.2.2.2.2.2.1 = 6) (e0 : X.2.2.2.2.2.2 (Int32.toNatClampNeg 0) = p0) (e1 : X.2.2.2.2.2.2 (Int32.toNatClampNeg 1) = p1) (e2 : X.2.2.2.2.2.2 (Int32.toNatClampNeg 2) = p2) (e3 : X.2.2.2.2.2.2 (Int32.toNatClampNeg 3) = p3) (e4 : X.2.2.2.2.2.2 (Int32.toNatClampNeg 4) = p4) (e5 : X.2.2.2.2.2.2 (Int32.toNatClampNeg 5) = p5) : am_G X mt_L_law 60 385 lo_0 [] hp_0 (fun r h => r = some (.int 1) ∧ h.length ≤ 600002 ∧ am_sl h ≤ 7302232) := by
  refine g_aload_n (pc := 385) dc_L_law_385 rfl ?_
  refine g_xload_n (pc := 386) dc_L_law_386 rfl ?_
  refine g_iload (pc := 387) dc_L_law_387 rfl ?_
  refine g_iconst (pc := 389) (v := 1) dc_L_law_389 rfl ?_
  refine g_iadd (pc := 390) (v := 1) dc_L_law_390 (by decide) ?_
  refine g_scriptLoadV (pc := 391) dc_L_law_391 (by rw [hL]; exact am_vin rfl) e1 ?_
  refine g_v1 (pc := 392) (M' := mt_W_look) dc_L_law_392 mo_W_look im_W_look se_W_look ln_L_60 rfl rfl rfl (Nat.le_of_ble_eq_true rfl) (Nat.le_of_ble_eq_true rfl) ?_
  refine g_aload_n (pc := 0) dc_W_look_0 rfl ?_
  refine g_v0 (pc := 1) (M' := mt_W_resolveLine) dc_W_look_1 mo_W_resolveLine im_W_resolveLine se_W_resolveLine ln_W_98 rfl rfl rfl (Nat.le_of_ble_eq_true rfl) (Nat.le_of_ble_eq_true rfl) ?_
  refine g_aload_n (pc := 0) dc_W_resolveLine_0 rfl ?_
  refine g_getfield (pc := 1) dc_W_resolveLine_1 fl_W_27 rfl rfl ?_
  refine g_aload_n (pc := 4) dc_W_resolveLine_4 rfl ?_
  refine g_getfield (pc := 5) dc_W_resolveLine_5 fl_W_12 rfl rfl ?_
  refine g_getfield (pc := 8) dc_W_resolveLine_8 fl_W_109 rfl rfl ?_
  refine g_iconst (pc := 11) (v := 0) dc_W_resolveLine_11 rfl ?_
  refine g_aload_n (pc := 12) dc_W_resolveLine_12 rfl ?_
  refine g_v0 (pc := 13) (M' := mt_W_lineTo) dc_W_resolveLine_13 mo_W_lineTo im_W_lineTo se_W_lineTo ln_W_286 rfl rfl rfl (Nat.le_of_ble_eq_true rfl) (Nat.le_of_ble_eq_true rfl) ?_
  refine g_aload_n (pc := 0) dc_W_lineTo_0 rfl ?_
  refine g_getfield (pc := 1) dc_W_lineTo_1 fl_W_12 rfl rfl ?_
  refine g_getfield (pc := 4) dc_W_lineTo_4 fl_W_109 rfl rfl ?_
  refine g_bipush (pc := 7) (v := 10) dc_W_lineTo_7 rfl ?_
  refine g_iconst (pc := 9) (v := 0) dc_W_lineTo_9 rfl ?_
  refine g_aload_n (pc := 10) dc_W_lineTo_10 rfl ?_
  refine g_getfield (pc := 11) dc_W_lineTo_11 fl_W_12 rfl rfl ?_
  refine g_getfield (pc := 14) dc_W_lineTo_14 fl_W_85 rfl rfl ?_
  refine g_s4 (pc := 17) (M' := mt_W_indexOf) dc_W_lineTo_17 mo_W_indexOf st_W_indexOf ln_W_282 (Nat.le_of_ble_eq_true rfl) (Nat.le_of_ble_eq_true rfl) ?_
  refine g_iload_n (pc := 0) dc_W_indexOf_0 rfl ?_
  refine g_istore (pc := 1) dc_W_indexOf_1 (by decide) ?_
  refine g_iload (pc := 3) dc_W_indexOf_3 rfl ?_
  refine g_iload_n (pc := 5) dc_W_indexOf_5 rfl ?_
  refine g_icmp_ge (pc := 6) (tgt := 23) dc_W_indexOf_6 rfl (fun _ => ?_) (fun hc => absurd hc (by decide))
  refine g_iload (pc := 23) dc_W_indexOf_23 rfl ?_
  refine g_iretC (pc := 25) dc_W_indexOf_25 rfl ?_
  refine g_iretC (pc := 20) dc_W_lineTo_20 rfl ?_
  refine g_null (pc := 16) dc_W_resolveLine_16 ?_
  refine g_v4 (pc := 17) (M' := mt_A_resolve) dc_W_resolveLine_17 mo_A_resolve im_A_resolve se_A_resolve ln_W_117 rfl rfl rfl (Nat.le_of_ble_eq_true rfl) (Nat.le_of_ble_eq_true rfl) ?_
  refine g_aload_n (pc := 0) dc_A_resolve_0 rfl ?_
  refine g_getfield (pc := 1) dc_A_resolve_1 fl_A_14 rfl rfl ?_
  refine g_v0 (pc := 4) (M' := mt_B_clear) dc_A_resolve_4 mo_B_clear im_B_clear se_B_clear ln_A_23 rfl rfl rfl (Nat.le_of_ble_eq_true rfl) (Nat.le_of_ble_eq_true rfl) ?_
  refine g_aload_n (pc := 0) dc_B_clear_0 rfl ?_
  refine g_iconst (pc := 1) (v := 0) dc_B_clear_1 rfl ?_
  refine g_putfield (pc := 2) dc_B_clear_2 fp_B_clear_15 rfl (Nat.le_of_ble_eq_true rfl) rfl rfl ?_
  refine g_vretC (pc := 5) dc_B_clear_5 rfl ?_
  refine g_aload_n (pc := 7) dc_A_resolve_7 rfl ?_
  refine g_getfield (pc := 8) dc_A_resolve_8 fl_A_20 rfl rfl ?_
  refine g_v0 (pc := 11) (M' := mt_B_clear) dc_A_resolve_11 mo_B_clear im_B_clear se_B_clear ln_A_23 rfl rfl rfl (Nat.le_of_ble_eq_true rfl) (Nat.le_of_ble_eq_true rfl) ?_
  refine g_aload_n (pc := 0) dc_B_clear_0 rfl ?_
  refine g_iconst (pc := 1) (v := 0) dc_B_clear_1 rfl ?_
  refine g_putfield (pc := 2) dc_B_clear_2 fp_B_clear_15 rfl (Nat.le_of_ble_eq_true rfl) rfl rfl ?_
  refine g_vretC (pc := 5) dc_B_clear_5 rfl ?_
  refine g_aload_n (pc := 14) dc_A_resolve_14 rfl ?_
  refine g_iload_n (pc := 15) dc_A_resolve_15 rfl ?_
  refine g_iload_n (pc := 16) dc_A_resolve_16 rfl ?_
  refine g_s3 (pc := 17) (M' := mt_W_trimmedFrom) dc_A_resolve_17 mo_W_trimmedFrom st_W_trimmedFrom ln_A_26 (Nat.le_of_ble_eq_true rfl) (Nat.le_of_ble_eq_true rfl) ?_
  refine g_iload_n (pc := 0) dc_W_trimmedFrom_0 rfl ?_
  refine g_istore_n (pc := 1) dc_W_trimmedFrom_1 (by decide) ?_
  refine g_iload_n (pc := 2) dc_W_trimmedFrom_2 rfl ?_
  refine g_iload_n (pc := 3) dc_W_trimmedFrom_3 rfl ?_
  refine g_icmp_ge (pc := 4) (tgt := 22) dc_W_trimmedFrom_4 rfl (fun _ => ?_) (fun hc => absurd hc (by decide))
  refine g_iload_n (pc := 22) dc_W_trimmedFrom_22 rfl ?_
  refine g_iretC (pc := 23) dc_W_trimmedFrom_23 rfl ?_
  refine g_istore (pc := 20) dc_A_resolve_20 (by decide) ?_
  refine g_aload_n (pc := 22) dc_A_resolve_22 rfl ?_
  refine g_bipush (pc := 23) (v := 35) dc_A_resolve_23 rfl ?_
  refine g_iload (pc := 25) dc_A_resolve_25 rfl ?_
  refine g_aload_n (pc := 27) dc_A_resolve_27 rfl ?_
  refine g_iload (pc := 28) dc_A_resolve_28 rfl ?_
  refine g_iload_n (pc := 30) dc_A_resolve_30 rfl ?_
  refine g_s3 (pc := 31) (M' := mt_W_trimmedTo) dc_A_resolve_31 mo_W_trimmedTo st_W_trimmedTo ln_A_30 (Nat.le_of_ble_eq_true rfl) (Nat.le_of_ble_eq_true rfl) ?_
  refine g_iload_n (pc := 0) dc_W_trimmedTo_0 rfl ?_
  refine g_istore_n (pc := 1) dc_W_trimmedTo_1 (by decide) ?_
  refine g_iload_n (pc := 2) dc_W_trimmedTo_2 rfl ?_
  refine g_iload_n (pc := 3) dc_W_trimmedTo_3 rfl ?_
  refine g_icmp_le (pc := 4) (tgt := 24) dc_W_trimmedTo_4 rfl (fun _ => ?_) (fun hc => absurd hc (by decide))
  refine g_iload_n (pc := 24) dc_W_trimmedTo_24 rfl ?_
  refine g_iretC (pc := 25) dc_W_trimmedTo_25 rfl ?_
  refine g_s4 (pc := 34) (M' := mt_W_indexOf) dc_A_resolve_34 mo_W_indexOf st_W_indexOf ln_A_33 (Nat.le_of_ble_eq_true rfl) (Nat.le_of_ble_eq_true rfl) ?_
  refine g_iload_n (pc := 0) dc_W_indexOf_0 rfl ?_
  refine g_istore (pc := 1) dc_W_indexOf_1 (by decide) ?_
  refine g_iload (pc := 3) dc_W_indexOf_3 rfl ?_
  refine g_iload_n (pc := 5) dc_W_indexOf_5 rfl ?_
  refine g_icmp_ge (pc := 6) (tgt := 23) dc_W_indexOf_6 rfl (fun _ => ?_) (fun hc => absurd hc (by decide))
  refine g_iload (pc := 23) dc_W_indexOf_23 rfl ?_
  refine g_iretC (pc := 25) dc_W_indexOf_25 rfl ?_
  refine g_istore (pc := 37) dc_A_resolve_37 (by decide) ?_
  refine g_aload_n (pc := 39) dc_A_resolve_39 rfl ?_
  refine g_iload (pc := 40) dc_A_resolve_40 rfl ?_
  refine g_iload (pc := 42) dc_A_resolve_42 rfl ?_
  refine g_s3 (pc := 44) (M' := mt_A_isClean) dc_A_resolve_44 mo_A_isClean st_A_isClean ln_A_37 (Nat.le_of_ble_eq_true rfl) (Nat.le_of_ble_eq_true rfl) ?_
  refine g_iload_n (pc := 0) dc_A_isClean_0 rfl ?_
  refine g_istore_n (pc := 1) dc_A_isClean_1 (by decide) ?_
  refine g_iload_n (pc := 2) dc_A_isClean_2 rfl ?_
  refine g_iload_n (pc := 3) dc_A_isClean_3 rfl ?_
  refine g_icmp_ge (pc := 4) (tgt := 64) dc_A_isClean_4 rfl (fun _ => ?_) (fun hc => absurd hc (by decide))
  refine g_iconst (pc := 64) (v := 1) dc_A_isClean_64 rfl ?_
  refine g_zretC (pc := 65) dc_A_isClean_65 rfl rfl ?_
  refine g_if_ne (pc := 47) (tgt := 52) dc_A_resolve_47 rfl (fun _ => ?_) (fun hc => absurd hc (by decide))
  refine g_aload_n (pc := 52) dc_A_resolve_52 rfl ?_
  refine g_bipush (pc := 53) (v := 58) dc_A_resolve_53 rfl ?_
  refine g_iload (pc := 55) dc_A_resolve_55 rfl ?_
  refine g_iload (pc := 57) dc_A_resolve_57 rfl ?_
  refine g_s4 (pc := 59) (M' := mt_W_indexOf) dc_A_resolve_59 mo_W_indexOf st_W_indexOf ln_A_33 (Nat.le_of_ble_eq_true rfl) (Nat.le_of_ble_eq_true rfl) ?_
  refine g_iload_n (pc := 0) dc_W_indexOf_0 rfl ?_
  refine g_istore (pc := 1) dc_W_indexOf_1 (by decide) ?_
  refine g_iload (pc := 3) dc_W_indexOf_3 rfl ?_
  refine g_iload_n (pc := 5) dc_W_indexOf_5 rfl ?_
  refine g_icmp_ge (pc := 6) (tgt := 23) dc_W_indexOf_6 rfl (fun _ => ?_) (fun hc => absurd hc (by decide))
  refine g_iload (pc := 23) dc_W_indexOf_23 rfl ?_
  refine g_iretC (pc := 25) dc_W_indexOf_25 rfl ?_
  refine g_istore (pc := 62) dc_A_resolve_62 (by decide) ?_
  refine g_iload (pc := 64) dc_A_resolve_64 rfl ?_
  refine g_aload_n (pc := 66) dc_A_resolve_66 rfl ?_
  refine g_bipush (pc := 67) (v := 47) dc_A_resolve_67 rfl ?_
  refine g_iload (pc := 69) dc_A_resolve_69 rfl ?_
  refine g_iload (pc := 71) dc_A_resolve_71 rfl ?_
  refine g_s4 (pc := 73) (M' := mt_W_indexOf) dc_A_resolve_73 mo_W_indexOf st_W_indexOf ln_A_33 (Nat.le_of_ble_eq_true rfl) (Nat.le_of_ble_eq_true rfl) ?_
  refine g_iload_n (pc := 0) dc_W_indexOf_0 rfl ?_
  refine g_istore (pc := 1) dc_W_indexOf_1 (by decide) ?_
  refine g_iload (pc := 3) dc_W_indexOf_3 rfl ?_
  refine g_iload_n (pc := 5) dc_W_indexOf_5 rfl ?_
  refine g_icmp_ge (pc := 6) (tgt := 23) dc_W_indexOf_6 rfl (fun _ => ?_) (fun hc => absurd hc (by decide))
  refine g_iload (pc := 23) dc_W_indexOf_23 rfl ?_
  refine g_iretC (pc := 25) dc_W_indexOf_25 rfl ?_
  refine g_aload_n (pc := 76) dc_A_resolve_76 rfl ?_
  refine g_bipush (pc := 77) (v := 63) dc_A_resolve_77 rfl ?_
  refine g_iload (pc := 79) dc_A_resolve_79 rfl ?_
  refine g_iload (pc := 81) dc_A_resolve_81 rfl ?_
  refine g_s4 (pc := 83) (M' := mt_W_indexOf) dc_A_resolve_83 mo_W_indexOf st_W_indexOf ln_A_33 (Nat.le_of_ble_eq_true rfl) (Nat.le_of_ble_eq_true rfl) ?_
  refine g_iload_n (pc := 0) dc_W_indexOf_0 rfl ?_
  refine g_istore (pc := 1) dc_W_indexOf_1 (by decide) ?_
  refine g_iload (pc := 3) dc_W_indexOf_3 rfl ?_
  refine g_iload_n (pc := 5) dc_W_indexOf_5 rfl ?_
  refine g_icmp_ge (pc := 6) (tgt := 23) dc_W_indexOf_6 rfl (fun _ => ?_) (fun hc => absurd hc (by decide))
  refine g_iload (pc := 23) dc_W_indexOf_23 rfl ?_
  refine g_iretC (pc := 25) dc_W_indexOf_25 rfl ?_
  refine g_s2 (pc := 86) (M' := mt_JMath_min) dc_A_resolve_86 mo_JMath_min st_JMath_min ln_A_41 (Nat.le_of_ble_eq_true rfl) (Nat.le_of_ble_eq_true rfl) ?_
  refine g_iload_n (pc := 0) dc_JMath_min_0 rfl ?_
  refine g_iload_n (pc := 1) dc_JMath_min_1 rfl ?_
  refine g_icmp_gt (pc := 2) (tgt := 9) dc_JMath_min_2 rfl (fun hc => absurd hc (by decide)) (fun _ => ?_)
  refine g_iload_n (pc := 5) dc_JMath_min_5 rfl ?_
  refine g_goto (pc := 6) (tgt := 10) dc_JMath_min_6 rfl ?_
  refine g_iretC (pc := 10) dc_JMath_min_10 rfl ?_
  refine g_icmp_ge (pc := 89) (tgt := 128) dc_A_resolve_89 rfl (fun _ => ?_) (fun hc => absurd hc (by decide))
  refine g_aload_n (pc := 128) dc_A_resolve_128 rfl ?_
  refine g_iload (pc := 129) dc_A_resolve_129 rfl ?_
  refine g_iload (pc := 131) dc_A_resolve_131 rfl ?_
  refine g_ldcS (pc := 133) 2 dc_A_resolve_133 (by decide) rfl rfl ?_
  refine g_s4 (pc := 135) (M' := mt_W_beginsWith) dc_A_resolve_135 mo_W_beginsWith st_W_beginsWith ln_A_55 (Nat.le_of_ble_eq_true rfl) (Nat.le_of_ble_eq_true rfl) ?_
  refine g_iload_n (pc := 0) dc_W_beginsWith_0 rfl ?_
  refine g_xload_n (pc := 1) dc_W_beginsWith_1 rfl ?_
  refine g_x0 (pc := 2) (M' := mt_JString_length) dc_W_beginsWith_2 mo_JString_length im_JString_length se_JString_length (am_t3 75 rfl rfl) (by decide) (Nat.le_of_ble_eq_true rfl) (Nat.le_of_ble_eq_true rfl) ?_
  refine g_xload_n (pc := 0) dc_JString_length_0 rfl ?_
  refine g_sValue (pc := 1) dc_JString_length_1 (by decide) (am_t4 204 rfl rfl) ?_
  refine g_sLen (pc := 4) (n := 2) dc_JString_length_4 (by decide) rfl ?_
  refine g_xload_n (pc := 5) dc_JString_length_5 rfl ?_
  refine g_x0 (pc := 6) (M' := mt_JString_coder) dc_JString_length_6 mo_JString_coder im_JString_coder se_JString_coder (am_t2 236 rfl rfl) (by decide) (Nat.le_of_ble_eq_true rfl) (Nat.le_of_ble_eq_true rfl) ?_
  refine g_gsCompact (pc := 0) dc_JString_coder_0 (am_t2 230 rfl rfl) ?_
  refine g_if_eq (pc := 3) (tgt := 13) dc_JString_coder_3 rfl (fun hc => absurd hc (by decide)) (fun _ => ?_)
  refine g_xload_n (pc := 6) dc_JString_coder_6 rfl ?_
  refine g_sCoder (pc := 7) dc_JString_coder_7 (by decide) (am_t4 205 rfl rfl) ?_
  refine g_goto (pc := 10) (tgt := 14) dc_JString_coder_10 rfl ?_
  refine g_bretC (pc := 14) dc_JString_coder_14 rfl rfl ?_
  refine g_ishr (pc := 9) (v := 2) dc_JString_length_9 (by decide) ?_
  refine g_iretC (pc := 10) dc_JString_length_10 rfl ?_
  refine g_iadd (pc := 5) (v := 2) dc_W_beginsWith_5 (by decide) ?_
  refine g_istore (pc := 6) dc_W_beginsWith_6 (by decide) ?_
  refine g_iload (pc := 8) dc_W_beginsWith_8 rfl ?_
  refine g_iload_n (pc := 10) dc_W_beginsWith_10 rfl ?_
  refine g_icmp_gt (pc := 11) (tgt := 29) dc_W_beginsWith_11 rfl (fun _ => ?_) (fun hc => absurd hc (by decide))
  refine g_iconst (pc := 29) (v := 0) dc_W_beginsWith_29 rfl ?_
  refine g_zretC (pc := 30) dc_W_beginsWith_30 rfl rfl ?_
  refine g_if_eq (pc := 138) (tgt := 155) dc_A_resolve_138 rfl (fun _ => ?_) (fun hc => absurd hc (by decide))
  refine g_aload_n (pc := 155) dc_A_resolve_155 rfl ?_
  refine g_aload_n (pc := 156) dc_A_resolve_156 rfl ?_
  refine g_iload (pc := 157) dc_A_resolve_157 rfl ?_
  refine g_iload (pc := 159) dc_A_resolve_159 rfl ?_
  refine g_aloadN (pc := 161) dc_A_resolve_161 rfl ?_
  refine g_v4 (pc := 163) (M' := mt_A_joinBase) dc_A_resolve_163 mo_A_joinBase im_A_joinBase se_A_joinBase ln_A_61 rfl rfl rfl (Nat.le_of_ble_eq_true rfl) (Nat.le_of_ble_eq_true rfl) ?_
  refine g_aloadN (pc := 0) dc_A_joinBase_0 rfl ?_
  refine g_ifnullN (pc := 2) (tgt := 13) dc_A_joinBase_2 rfl ?_
  refine g_iconst (pc := 13) (v := (-1)) dc_A_joinBase_13 rfl ?_
  refine g_iretC (pc := 14) dc_A_joinBase_14 rfl ?_
  refine g_istore (pc := 166) dc_A_resolve_166 (by decide) ?_
  refine g_iload (pc := 168) dc_A_resolve_168 rfl ?_
  refine g_iconst (pc := 170) (v := (-1)) dc_A_resolve_170 rfl ?_
  refine g_icmp_ne (pc := 171) (tgt := 176) dc_A_resolve_171 rfl (fun hc => absurd hc (by decide)) (fun _ => ?_)
  refine g_iconst (pc := 174) (v := 0) dc_A_resolve_174 rfl ?_
  refine g_zretC (pc := 175) dc_A_resolve_175 rfl rfl ?_
  refine g_zretC (pc := 20) dc_W_resolveLine_20 rfl rfl ?_
  refine g_istore_n (pc := 4) dc_W_look_4 (by decide) ?_
  refine g_iconst (pc := 5) (v := (-1)) dc_W_look_5 rfl ?_
  refine g_istore_n (pc := 6) dc_W_look_6 (by decide) ?_
  refine g_iload_n (pc := 7) dc_W_look_7 rfl ?_
  refine g_if_eq (pc := 8) (tgt := 73) dc_W_look_8 rfl (fun _ => ?_) (fun hc => absurd hc (by decide))
  refine g_iload_n (pc := 73) dc_W_look_73 rfl ?_
  refine g_if_eq (pc := 74) (tgt := 136) dc_W_look_74 rfl (fun _ => ?_) (fun hc => absurd hc (by decide))
  refine g_aload_n (pc := 136) dc_W_look_136 rfl ?_
  refine g_getfield (pc := 137) dc_W_look_137 fl_W_12 rfl rfl ?_
  refine g_v0 (pc := 140) (M' := mt_B_clear) dc_W_look_140 mo_B_clear im_B_clear se_B_clear ln_W_121 rfl rfl rfl (Nat.le_of_ble_eq_true rfl) (Nat.le_of_ble_eq_true rfl) ?_
  refine g_aload_n (pc := 0) dc_B_clear_0 rfl ?_
  refine g_iconst (pc := 1) (v := 0) dc_B_clear_1 rfl ?_
  refine g_putfield (pc := 2) dc_B_clear_2 fp_B_clear_15 rfl (Nat.le_of_ble_eq_true rfl) rfl rfl ?_
  refine g_vretC (pc := 5) dc_B_clear_5 rfl ?_
  refine g_iload_n (pc := 143) dc_W_look_143 rfl ?_
  refine g_iretC (pc := 144) dc_W_look_144 rfl ?_
  refine g_aload_n (pc := 395) dc_L_law_395 rfl ?_
  refine g_xload_n (pc := 396) dc_L_law_396 rfl ?_
  refine g_iload (pc := 397) dc_L_law_397 rfl ?_
  refine g_iconst (pc := 399) (v := 1) dc_L_law_399 rfl ?_
  refine g_iadd (pc := 400) (v := 1) dc_L_law_400 (by decide) ?_
  refine g_scriptLoadV (pc := 401) dc_L_law_401 (by rw [hL]; exact am_vin rfl) e1 ?_
  refine g_v1 (pc := 402) (M' := mt_M_look) dc_L_law_402 mo_M_look im_M_look se_M_look ln_L_63 rfl rfl rfl (Nat.le_of_ble_eq_true rfl) (Nat.le_of_ble_eq_true rfl) ?_
  refine g_aload_n (pc := 0) dc_M_look_0 rfl ?_
  refine g_v0 (pc := 1) (M' := mt_M_use) dc_M_look_1 mo_M_use im_M_use se_M_use ln_M_505 rfl rfl rfl (Nat.le_of_ble_eq_true rfl) (Nat.le_of_ble_eq_true rfl) ?_
  refine g_aload_n (pc := 0) dc_M_use_0 rfl ?_
  refine g_iconst (pc := 1) (v := 0) dc_M_use_1 rfl ?_
  refine g_putfield (pc := 2) dc_M_use_2 fp_M_use_1 rfl (Nat.le_of_ble_eq_true rfl) rfl rfl ?_
  refine g_aload_n (pc := 5) dc_M_use_5 rfl ?_
  refine g_getfield (pc := 6) dc_M_use_6 fl_M_493 rfl rfl ?_
  refine g_istore_n (pc := 9) dc_M_use_9 (by decide) ?_
  refine g_aload_n (pc := 10) dc_M_use_10 rfl ?_
  refine g_iconst (pc := 11) (v := 0) dc_M_use_11 rfl ?_
  refine g_putfield (pc := 12) dc_M_use_12 fp_M_use_493 rfl (Nat.le_of_ble_eq_true rfl) rfl rfl ?_
  refine g_iload_n (pc := 15) dc_M_use_15 rfl ?_
  refine g_iretC (pc := 16) dc_M_use_16 rfl ?_
  refine g_istore_n (pc := 4) dc_M_look_4 (by decide) ?_
  refine g_iload_n (pc := 5) dc_M_look_5 rfl ?_
  refine g_if_lt (pc := 6) (tgt := 22) dc_M_look_6 rfl (fun hc0 => ?_) (fun hc0 => ?_)
  · have hi0 : p1.toInt < 0 := Int32.lt_iff_toInt_lt.mp hc0
    refine g_iconst (pc := 22) (v := (-1)) dc_M_look_22 rfl ?_
    refine g_iretC (pc := 23) dc_M_look_23 rfl ?_
    refine g_icmp_eq (pc := 405) (tgt := 873) dc_L_law_405 rfl (fun _ => ?_) (fun hc => absurd hc (by decide))
    refine g_iinc (pc := 873) (v := 6) dc_L_law_873 rfl (by decide) (by decide) ?_
    refine g_goto (pc := 876) (tgt := 23) dc_L_law_876 rfl ?_
    refine g_iload (pc := 23) dc_L_law_23 rfl ?_
    refine g_xload_n (pc := 25) dc_L_law_25 rfl ?_
    refine g_scriptLenV (pc := 26) (n := 6) dc_L_law_26 hL rfl ?_
    refine g_bipush (pc := 27) (v := 6) dc_L_law_27 rfl ?_
    refine g_isub (pc := 29) (v := 0) dc_L_law_29 (by decide) ?_
    refine g_icmp_gt (pc := 30) (tgt := 879) dc_L_law_30 rfl (fun _ => ?_) (fun hc => absurd hc (by decide))
    refine g_iconst (pc := 879) (v := 1) dc_L_law_879 rfl ?_
    exact g_zreturn dc_L_law_880 rfl rfl ⟨rfl, (Nat.le_of_ble_eq_true rfl), am_bz (by (repeat (first | refine am_bw rfl ?_ | refine am_bA rfl ?_ | refine am_bB rfl ?_ | refine am_bC rfl ?_)); exact am_b0 (Nat.le_of_ble_eq_true rfl))⟩
  · have hi0 : ¬ (p1.toInt < 0) := fun h9 => hc0 (Int32.lt_iff_toInt_lt.mpr h9)
    refine g_iload_n (pc := 9) dc_M_look_9 rfl ?_
    refine g_iconst (pc := 10) (v := 1) dc_M_look_10 rfl ?_
    refine g_icmp_gt (pc := 11) (tgt := 22) dc_M_look_11 rfl (fun hc1 => ?_) (fun hc1 => ?_)
    · have hi1 : 1 < p1.toInt := Int32.lt_iff_toInt_lt.mp hc1
      refine g_iconst (pc := 22) (v := (-1)) dc_M_look_22 rfl ?_
      refine g_iretC (pc := 23) dc_M_look_23 rfl ?_
      refine g_icmp_eq (pc := 405) (tgt := 873) dc_L_law_405 rfl (fun _ => ?_) (fun hc => absurd hc (by decide))
      refine g_iinc (pc := 873) (v := 6) dc_L_law_873 rfl (by decide) (by decide) ?_
      refine g_goto (pc := 876) (tgt := 23) dc_L_law_876 rfl ?_
      refine g_iload (pc := 23) dc_L_law_23 rfl ?_
      refine g_xload_n (pc := 25) dc_L_law_25 rfl ?_
      refine g_scriptLenV (pc := 26) (n := 6) dc_L_law_26 hL rfl ?_
      refine g_bipush (pc := 27) (v := 6) dc_L_law_27 rfl ?_
      refine g_isub (pc := 29) (v := 0) dc_L_law_29 (by decide) ?_
      refine g_icmp_gt (pc := 30) (tgt := 879) dc_L_law_30 rfl (fun _ => ?_) (fun hc => absurd hc (by decide))
      refine g_iconst (pc := 879) (v := 1) dc_L_law_879 rfl ?_
      exact g_zreturn dc_L_law_880 rfl rfl ⟨rfl, (Nat.le_of_ble_eq_true rfl), am_bz (by (repeat (first | refine am_bw rfl ?_ | refine am_bA rfl ?_ | refine am_bB rfl ?_ | refine am_bC rfl ?_)); exact am_b0 (Nat.le_of_ble_eq_true rfl))⟩
    · have hi1 : ¬ (1 < p1.toInt) := fun h9 => hc1 (Int32.lt_iff_toInt_lt.mpr h9)
      refine g_aload_n (pc := 14) dc_M_look_14 rfl ?_
      refine g_iload_n (pc := 15) dc_M_look_15 rfl ?_
      refine g_v1 (pc := 16) (M' := mt_M_readFirst) dc_M_look_16 mo_M_readFirst im_M_readFirst se_M_readFirst ln_M_508 rfl rfl rfl (Nat.le_of_ble_eq_true rfl) (Nat.le_of_ble_eq_true rfl) ?_
      refine g_aload_n (pc := 0) dc_M_readFirst_0 rfl ?_
      refine g_aload_n (pc := 1) dc_M_readFirst_1 rfl ?_
      refine g_getfield (pc := 2) dc_M_readFirst_2 fl_M_143 rfl rfl ?_
      refine g_iconst (pc := 5) (v := 0) dc_M_readFirst_5 rfl ?_
      refine g_aload_n (pc := 6) dc_M_readFirst_6 rfl ?_
      refine g_getfield (pc := 7) dc_M_readFirst_7 fl_M_143 rfl rfl ?_
      refine g_iconst (pc := 10) (v := 0) dc_M_readFirst_10 rfl ?_
      refine g_iload_n (pc := 11) dc_M_readFirst_11 rfl ?_
      refine g_s3 (pc := 12) (M' := mt_M_lineEnd) dc_M_readFirst_12 mo_M_lineEnd st_M_lineEnd ln_M_455 (Nat.le_of_ble_eq_true rfl) (Nat.le_of_ble_eq_true rfl) ?_
      refine g_aload_n (pc := 0) dc_M_lineEnd_0 rfl ?_
      refine g_iload_n (pc := 1) dc_M_lineEnd_1 rfl ?_
      refine g_iload_n (pc := 2) dc_M_lineEnd_2 rfl ?_
      refine g_bipush (pc := 3) (v := 10) dc_M_lineEnd_3 rfl ?_
      refine g_s4 (pc := 5) (M' := mt_M_seek) dc_M_lineEnd_5 mo_M_seek st_M_seek ln_M_48 (Nat.le_of_ble_eq_true rfl) (Nat.le_of_ble_eq_true rfl) ?_
      refine g_iload_n (pc := 0) dc_M_seek_0 rfl ?_
      refine g_istore (pc := 1) dc_M_seek_1 (by decide) ?_
      refine g_iload (pc := 3) dc_M_seek_3 rfl ?_
      refine g_iload_n (pc := 5) dc_M_seek_5 rfl ?_
      refine g_icmp_ge (pc := 6) (tgt := 23) dc_M_seek_6 rfl (fun _ => ?_) (fun hc => absurd hc (by decide))
      refine g_iload (pc := 23) dc_M_seek_23 rfl ?_
      refine g_iretC (pc := 25) dc_M_seek_25 rfl ?_
      refine g_istore_n (pc := 8) dc_M_lineEnd_8 (by decide) ?_
      refine g_iload_n (pc := 9) dc_M_lineEnd_9 rfl ?_
      refine g_iload_n (pc := 10) dc_M_lineEnd_10 rfl ?_
      refine g_icmp_ge (pc := 11) (tgt := 35) dc_M_lineEnd_11 rfl (fun _ => ?_) (fun hc => absurd hc (by decide))
      refine g_iload_n (pc := 35) dc_M_lineEnd_35 rfl ?_
      refine g_iretC (pc := 36) dc_M_lineEnd_36 rfl ?_
      refine g_iconst (pc := 15) (v := (-1)) dc_M_readFirst_15 rfl ?_
      refine g_v4 (pc := 16) (M' := mt_M_readReference) dc_M_readFirst_16 mo_M_readReference im_M_readReference se_M_readReference ln_M_297 rfl rfl rfl (Nat.le_of_ble_eq_true rfl) (Nat.le_of_ble_eq_true rfl) ?_
      refine g_iload_n (pc := 0) dc_M_readReference_0 rfl ?_
      refine g_istore (pc := 1) dc_M_readReference_1 (by decide) ?_
      refine g_iload_n (pc := 3) dc_M_readReference_3 rfl ?_
      refine g_istore (pc := 4) dc_M_readReference_4 (by decide) ?_
      refine g_iload (pc := 6) dc_M_readReference_6 rfl ?_
      refine g_iload (pc := 8) dc_M_readReference_8 rfl ?_
      refine g_icmp_ge (pc := 10) (tgt := 29) dc_M_readReference_10 rfl (fun _ => ?_) (fun hc => absurd hc (by decide))
      refine g_iload (pc := 29) dc_M_readReference_29 rfl ?_
      refine g_iload (pc := 31) dc_M_readReference_31 rfl ?_
      refine g_icmp_le (pc := 33) (tgt := 54) dc_M_readReference_33 rfl (fun _ => ?_) (fun hc => absurd hc (by decide))
      refine g_aload_n (pc := 54) dc_M_readReference_54 rfl ?_
      refine g_iload (pc := 55) dc_M_readReference_55 rfl ?_
      refine g_iload (pc := 57) dc_M_readReference_57 rfl ?_
      refine g_bipush (pc := 59) (v := 35) dc_M_readReference_59 rfl ?_
      refine g_s4 (pc := 61) (M' := mt_M_seek) dc_M_readReference_61 mo_M_seek st_M_seek ln_M_48 (Nat.le_of_ble_eq_true rfl) (Nat.le_of_ble_eq_true rfl) ?_
      refine g_iload_n (pc := 0) dc_M_seek_0 rfl ?_
      refine g_istore (pc := 1) dc_M_seek_1 (by decide) ?_
      refine g_iload (pc := 3) dc_M_seek_3 rfl ?_
      refine g_iload_n (pc := 5) dc_M_seek_5 rfl ?_
      refine g_icmp_ge (pc := 6) (tgt := 23) dc_M_seek_6 rfl (fun _ => ?_) (fun hc => absurd hc (by decide))
      refine g_iload (pc := 23) dc_M_seek_23 rfl ?_
      refine g_iretC (pc := 25) dc_M_seek_25 rfl ?_
      refine g_istore (pc := 64) dc_M_readReference_64 (by decide) ?_
      refine g_iload (pc := 66) dc_M_readReference_66 rfl ?_
      refine g_istore (pc := 68) dc_M_readReference_68 (by decide) ?_
      refine g_iload (pc := 70) dc_M_readReference_70 rfl ?_
      refine g_iload (pc := 72) dc_M_readReference_72 rfl ?_
      refine g_icmp_ge (pc := 74) (tgt := 96) dc_M_readReference_74 rfl (fun _ => ?_) (fun hc => absurd hc (by decide))
      refine g_aload_n (pc := 96) dc_M_readReference_96 rfl ?_
      refine g_iload (pc := 97) dc_M_readReference_97 rfl ?_
      refine g_iload (pc := 99) dc_M_readReference_99 rfl ?_
      refine g_bipush (pc := 101) (v := 58) dc_M_readReference_101 rfl ?_
      refine g_s4 (pc := 103) (M' := mt_M_seek) dc_M_readReference_103 mo_M_seek st_M_seek ln_M_48 (Nat.le_of_ble_eq_true rfl) (Nat.le_of_ble_eq_true rfl) ?_
      refine g_iload_n (pc := 0) dc_M_seek_0 rfl ?_
      refine g_istore (pc := 1) dc_M_seek_1 (by decide) ?_
      refine g_iload (pc := 3) dc_M_seek_3 rfl ?_
      refine g_iload_n (pc := 5) dc_M_seek_5 rfl ?_
      refine g_icmp_ge (pc := 6) (tgt := 23) dc_M_seek_6 rfl (fun _ => ?_) (fun hc => absurd hc (by decide))
      refine g_iload (pc := 23) dc_M_seek_23 rfl ?_
      refine g_iretC (pc := 25) dc_M_seek_25 rfl ?_
      refine g_istore (pc := 106) dc_M_readReference_106 (by decide) ?_
      refine g_aload_n (pc := 108) dc_M_readReference_108 rfl ?_
      refine g_iload (pc := 109) dc_M_readReference_109 rfl ?_
      refine g_iload (pc := 111) dc_M_readReference_111 rfl ?_
      refine g_bipush (pc := 113) (v := 47) dc_M_readReference_113 rfl ?_
      refine g_s4 (pc := 115) (M' := mt_M_seek) dc_M_readReference_115 mo_M_seek st_M_seek ln_M_48 (Nat.le_of_ble_eq_true rfl) (Nat.le_of_ble_eq_true rfl) ?_
      refine g_iload_n (pc := 0) dc_M_seek_0 rfl ?_
      refine g_istore (pc := 1) dc_M_seek_1 (by decide) ?_
      refine g_iload (pc := 3) dc_M_seek_3 rfl ?_
      refine g_iload_n (pc := 5) dc_M_seek_5 rfl ?_
      refine g_icmp_ge (pc := 6) (tgt := 23) dc_M_seek_6 rfl (fun _ => ?_) (fun hc => absurd hc (by decide))
      refine g_iload (pc := 23) dc_M_seek_23 rfl ?_
      refine g_iretC (pc := 25) dc_M_seek_25 rfl ?_
      refine g_istore (pc := 118) dc_M_readReference_118 (by decide) ?_
      refine g_aload_n (pc := 120) dc_M_readReference_120 rfl ?_
      refine g_iload (pc := 121) dc_M_readReference_121 rfl ?_
      refine g_iload (pc := 123) dc_M_readReference_123 rfl ?_
      refine g_bipush (pc := 125) (v := 63) dc_M_readReference_125 rfl ?_
      refine g_s4 (pc := 127) (M' := mt_M_seek) dc_M_readReference_127 mo_M_seek st_M_seek ln_M_48 (Nat.le_of_ble_eq_true rfl) (Nat.le_of_ble_eq_true rfl) ?_
      refine g_iload_n (pc := 0) dc_M_seek_0 rfl ?_
      refine g_istore (pc := 1) dc_M_seek_1 (by decide) ?_
      refine g_iload (pc := 3) dc_M_seek_3 rfl ?_
      refine g_iload_n (pc := 5) dc_M_seek_5 rfl ?_
      refine g_icmp_ge (pc := 6) (tgt := 23) dc_M_seek_6 rfl (fun _ => ?_) (fun hc => absurd hc (by decide))
      refine g_iload (pc := 23) dc_M_seek_23 rfl ?_
      refine g_iretC (pc := 25) dc_M_seek_25 rfl ?_
      refine g_istore (pc := 130) dc_M_readReference_130 (by decide) ?_
      refine g_iload (pc := 132) dc_M_readReference_132 rfl ?_
      refine g_iload (pc := 134) dc_M_readReference_134 rfl ?_
      refine g_icmp_ge (pc := 136) (tgt := 198) dc_M_readReference_136 rfl (fun _ => ?_) (fun hc => absurd hc (by decide))
      refine g_iload (pc := 198) dc_M_readReference_198 rfl ?_
      refine g_iconst (pc := 200) (v := 1) dc_M_readReference_200 rfl ?_
      refine g_iadd (pc := 201) (v := 1) dc_M_readReference_201 (by decide) ?_
      refine g_iload (pc := 202) dc_M_readReference_202 rfl ?_
      refine g_icmp_ge (pc := 204) (tgt := 307) dc_M_readReference_204 rfl (fun _ => ?_) (fun hc => absurd hc (by decide))
      refine g_iload (pc := 307) dc_M_readReference_307 rfl ?_
      refine g_if_ge (pc := 309) (tgt := 314) dc_M_readReference_309 rfl (fun hc => absurd hc (by decide)) (fun _ => ?_)
      refine g_iconst (pc := 312) (v := 0) dc_M_readReference_312 rfl ?_
      refine g_zretC (pc := 313) dc_M_readReference_313 rfl rfl ?_
      refine g_zretC (pc := 19) dc_M_readFirst_19 rfl rfl ?_
      refine g_if_ne (pc := 19) (tgt := 24) dc_M_look_19 rfl (fun hc => absurd hc (by decide)) (fun _ => ?_)
      refine g_iconst (pc := 22) (v := (-1)) dc_M_look_22 rfl ?_
      refine g_iretC (pc := 23) dc_M_look_23 rfl ?_
      refine g_icmp_eq (pc := 405) (tgt := 873) dc_L_law_405 rfl (fun _ => ?_) (fun hc => absurd hc (by decide))
      refine g_iinc (pc := 873) (v := 6) dc_L_law_873 rfl (by decide) (by decide) ?_
      refine g_goto (pc := 876) (tgt := 23) dc_L_law_876 rfl ?_
      refine g_iload (pc := 23) dc_L_law_23 rfl ?_
      refine g_xload_n (pc := 25) dc_L_law_25 rfl ?_
      refine g_scriptLenV (pc := 26) (n := 6) dc_L_law_26 hL rfl ?_
      refine g_bipush (pc := 27) (v := 6) dc_L_law_27 rfl ?_
      refine g_isub (pc := 29) (v := 0) dc_L_law_29 (by decide) ?_
      refine g_icmp_gt (pc := 30) (tgt := 879) dc_L_law_30 rfl (fun _ => ?_) (fun hc => absurd hc (by decide))
      refine g_iconst (pc := 879) (v := 1) dc_L_law_879 rfl ?_
      exact g_zreturn dc_L_law_880 rfl rfl ⟨rfl, (Nat.le_of_ble_eq_true rfl), am_bz (by (repeat (first | refine am_bw rfl ?_ | refine am_bA rfl ?_ | refine am_bB rfl ?_ | refine am_bC rfl ?_)); exact am_b0 (Nat.le_of_ble_eq_true rfl))⟩
