/-! ===== the law's entry: the tables, the String constants, the statics, the script ===== -/
theorem am_r1 {w : Cond} (i : Nat) (h : tables_1_1[i]? = some w) : w ∈ tables_1 := by have h := List.mem_of_getElem? h; exact List.mem_append_left _ h
theorem am_r2 {w : Cond} (i : Nat) (h : tables_1_2[i]? = some w) : w ∈ tables_1 := by have h := List.mem_of_getElem? h; exact List.mem_append_right _ (List.mem_append_left _ h)
theorem am_r3 {w : Cond} (i : Nat) (h : tables_1_3[i]? = some w) : w ∈ tables_1 := by have h := List.mem_of_getElem? h; exact List.mem_append_right _ (List.mem_append_right _ (List.mem_append_left _ h))
theorem am_r4 {w : Cond} (i : Nat) (h : tables_1_4[i]? = some w) : w ∈ tables_1 := by have h := List.mem_of_getElem? h; exact List.mem_append_right _ (List.mem_append_right _ (List.mem_append_right _ (List.mem_append_left _ h)))
theorem am_r5 {w : Cond} (i : Nat) (h : tables_1_5[i]? = some w) : w ∈ tables_1 := by have h := List.mem_of_getElem? h; exact List.mem_append_right _ (List.mem_append_right _ (List.mem_append_right _ (List.mem_append_right _ (List.mem_append_left _ h))))
theorem am_r6 {w : Cond} (i : Nat) (h : tables_1_6[i]? = some w) : w ∈ tables_1 := by have h := List.mem_of_getElem? h; exact List.mem_append_right _ (List.mem_append_right _ (List.mem_append_right _ (List.mem_append_right _ (List.mem_append_right _ (List.mem_append_left _ h)))))
theorem am_r7 {w : Cond} (i : Nat) (h : tables_1_7[i]? = some w) : w ∈ tables_1 := by have h := List.mem_of_getElem? h; exact List.mem_append_right _ (List.mem_append_right _ (List.mem_append_right _ (List.mem_append_right _ (List.mem_append_right _ (List.mem_append_right _ (List.mem_append_left _ h))))))
theorem am_r8 {w : Cond} (i : Nat) (h : tables_1_8[i]? = some w) : w ∈ tables_1 := by have h := List.mem_of_getElem? h; exact List.mem_append_right _ (List.mem_append_right _ (List.mem_append_right _ (List.mem_append_right _ (List.mem_append_right _ (List.mem_append_right _ (List.mem_append_right _ (List.mem_append_left _ h)))))))
theorem am_r9 {w : Cond} (i : Nat) (h : tables_1_9[i]? = some w) : w ∈ tables_1 := by have h := List.mem_of_getElem? h; exact List.mem_append_right _ (List.mem_append_right _ (List.mem_append_right _ (List.mem_append_right _ (List.mem_append_right _ (List.mem_append_right _ (List.mem_append_right _ (List.mem_append_right _ (List.mem_append_left _ h))))))))
theorem am_r10 {w : Cond} (i : Nat) (h : tables_1_10[i]? = some w) : w ∈ tables_1 := by have h := List.mem_of_getElem? h; exact List.mem_append_right _ (List.mem_append_right _ (List.mem_append_right _ (List.mem_append_right _ (List.mem_append_right _ (List.mem_append_right _ (List.mem_append_right _ (List.mem_append_right _ (List.mem_append_right _ (h)))))))))
theorem am_s0 {k : Nat} (h : k = 0) (P : Nat → Prop) (p : P 0) : P k := h ▸ p
abbrev am_fl0 : List Cond := flatC (Jvm.Cond.and given_1 narrow_1)
/-- the facts of a String constant -/
def am_sf (A : Nat → Prop) (i a av : Nat) (s : State) : Prop := vk_R (am_si i).1 (am_si i).2.1 (am_si i).2.2.1 a s ∧ va_O "java/lang/String" a A s s.heap ∧ va_OF "java/lang/String" "coder" "B" (.int 0) a A s s.heap ∧ va_OF "java/lang/String" "value" "[B" (.ref av) a A s s.heap ∧ va_T .byte av (am_si i).2.2.2.length (fun j => .int ((am_si i).2.2.2.getD j 0)) A s s.heap
theorem am_s1 {args : Array Value} {s : State} {A : Nat → Prop} (i : Nat) (hr : (Cond.stringRef (am_si i).1 (am_si i).2.1 (am_si i).2.2.1).before args s = true) (hlen : (am_si i).2.2.2.length < 2 ^ 31)
    (hex : (Cond.exactly (.string (am_si i).1 (am_si i).2.1) "java/lang/String").before args s = true) (hco : (Cond.eq (.field (.string (am_si i).1 (am_si i).2.1) "java/lang/String" "coder" "B") (.int 0)).before args s = true)
    (har : (Cond.arrayOf (.field (.string (am_si i).1 (am_si i).2.1) "java/lang/String" "value" "[B") .byte).before args s = true) (hle : (Cond.eq (.length (.field (.string (am_si i).1 (am_si i).2.1) "java/lang/String" "value" "[B")) (.int (Int32.ofNat (am_si i).2.2.2.length))).before args s = true)
    (hel : ∀ j : Nat, j < (am_si i).2.2.2.length → (Cond.eq (.elem (.field (.string (am_si i).1 (am_si i).2.1) "java/lang/String" "value" "[B") (.int (Int32.ofNat j))) (.int ((am_si i).2.2.2.getD j 0))).before args s = true) (hA : ∀ a : Nat, a < s.heap.size → ¬ A a) : ∃ a av, am_sf A i a av s := by
  obtain ⟨adK, adV, hS, hev⟩ := vk_Sof (args := args) (s := s) (N := 1) (tm := fun _ => .string (am_si i).1 (am_si i).2.1) (len := [(am_si i).2.2.2.length]) (byt := [(am_si i).2.2.2]) (A := A)
    (fun k hk => by rw [show k = 0 by omega]; exact hlen) (fun _ _ => hex) (fun _ _ => hco) (fun _ _ => har) (fun k hk => by rw [show k = 0 by omega]; exact hle) (fun k hk j hj => am_s0 (by omega : k = 0) (fun k => j < ([(am_si i).2.2.2.length] : List Nat).getD k 0 → (Cond.eq (.elem (.field (.string (am_si i).1 (am_si i).2.1) "java/lang/String" "value" "[B") (.int (Int32.ofNat j))) (.int ((([(am_si i).2.2.2] : List (List Int32)).getD k []).getD j 0))).before args s = true) (hel j) hj) (fun a b ha hb hab => absurd (by omega : a = b) hab) hA
  obtain ⟨h1, h2, h3, h4⟩ := hS.1 0 (by decide)
  exact ⟨adK 0, adV 0, vk_R.of hr (hev 0 (by decide)), h1, h2, h3, h4⟩
set_option maxRecDepth 20000 in
theorem am_s2_0 {args : Array Value} {s : State} {A : Nat → Prop} (ht : ∀ w ∈ lw_tbl, w.before args s = true) (hs : ∀ c ∈ am_fl0, c.before args s = true) (hA : ∀ a : Nat, a < s.heap.size → ¬ A a) : ∃ a av, am_sf A 0 a av s :=
  am_s1 0 (ht _ (am_tb (am_r2 217 rfl))) (by decide) (hs _ (List.mem_of_getElem? (i := 263) (by decide +kernel))) (hs _ (List.mem_of_getElem? (i := 264) (by decide +kernel))) (hs _ (List.mem_of_getElem? (i := 265) (by decide +kernel))) (hs _ (List.mem_of_getElem? (i := 266) (by decide +kernel))) (fun j hj => match j, hj with
    | 0, _ => (hs _ (List.mem_of_getElem? (i := 267) (by decide +kernel)))
    | 1, _ => (hs _ (List.mem_of_getElem? (i := 268) (by decide +kernel)))
    | 2, _ => (hs _ (List.mem_of_getElem? (i := 269) (by decide +kernel)))
    | 3, _ => (hs _ (List.mem_of_getElem? (i := 270) (by decide +kernel)))
    | 4, _ => (hs _ (List.mem_of_getElem? (i := 271) (by decide +kernel)))
    | 5, _ => (hs _ (List.mem_of_getElem? (i := 272) (by decide +kernel)))
    | 6, _ => (hs _ (List.mem_of_getElem? (i := 273) (by decide +kernel)))
    | 7, _ => (hs _ (List.mem_of_getElem? (i := 274) (by decide +kernel)))
    | 8, _ => (hs _ (List.mem_of_getElem? (i := 275) (by decide +kernel)))
    | n + 9, h => absurd h (by show ¬ n + 9 < 9; omega)) hA
set_option maxRecDepth 20000 in
theorem am_s2_1 {args : Array Value} {s : State} {A : Nat → Prop} (ht : ∀ w ∈ lw_tbl, w.before args s = true) (hs : ∀ c ∈ am_fl0, c.before args s = true) (hA : ∀ a : Nat, a < s.heap.size → ¬ A a) : ∃ a av, am_sf A 1 a av s :=
  am_s1 1 (ht _ (am_tb (am_r3 71 rfl))) (by decide) (hs _ (List.mem_of_getElem? (i := 276) (by decide +kernel))) (hs _ (List.mem_of_getElem? (i := 277) (by decide +kernel))) (hs _ (List.mem_of_getElem? (i := 278) (by decide +kernel))) (hs _ (List.mem_of_getElem? (i := 279) (by decide +kernel))) (fun j hj => match j, hj with
    | 0, _ => (hs _ (List.mem_of_getElem? (i := 280) (by decide +kernel)))
    | 1, _ => (hs _ (List.mem_of_getElem? (i := 281) (by decide +kernel)))
    | 2, _ => (hs _ (List.mem_of_getElem? (i := 282) (by decide +kernel)))
    | 3, _ => (hs _ (List.mem_of_getElem? (i := 283) (by decide +kernel)))
    | n + 4, h => absurd h (by show ¬ n + 4 < 4; omega)) hA
set_option maxRecDepth 20000 in
theorem am_s2_2 {args : Array Value} {s : State} {A : Nat → Prop} (ht : ∀ w ∈ lw_tbl, w.before args s = true) (hs : ∀ c ∈ am_fl0, c.before args s = true) (hA : ∀ a : Nat, a < s.heap.size → ¬ A a) : ∃ a av, am_sf A 2 a av s :=
  am_s1 2 (ht _ (am_tb (am_r3 99 rfl))) (by decide) (hs _ (List.mem_of_getElem? (i := 284) (by decide +kernel))) (hs _ (List.mem_of_getElem? (i := 285) (by decide +kernel))) (hs _ (List.mem_of_getElem? (i := 286) (by decide +kernel))) (hs _ (List.mem_of_getElem? (i := 287) (by decide +kernel))) (fun j hj => match j, hj with
    | 0, _ => (hs _ (List.mem_of_getElem? (i := 288) (by decide +kernel)))
    | 1, _ => (hs _ (List.mem_of_getElem? (i := 289) (by decide +kernel)))
    | n + 2, h => absurd h (by show ¬ n + 2 < 2; omega)) hA
set_option maxRecDepth 20000 in
theorem am_s2_3 {args : Array Value} {s : State} {A : Nat → Prop} (ht : ∀ w ∈ lw_tbl, w.before args s = true) (hs : ∀ c ∈ am_fl0, c.before args s = true) (hA : ∀ a : Nat, a < s.heap.size → ¬ A a) : ∃ a av, am_sf A 3 a av s :=
  am_s1 3 (ht _ (am_tb (am_r3 121 rfl))) (by decide) (hs _ (List.mem_of_getElem? (i := 290) (by decide +kernel))) (hs _ (List.mem_of_getElem? (i := 291) (by decide +kernel))) (hs _ (List.mem_of_getElem? (i := 292) (by decide +kernel))) (hs _ (List.mem_of_getElem? (i := 293) (by decide +kernel))) (fun j hj => match j, hj with
    | 0, _ => (hs _ (List.mem_of_getElem? (i := 294) (by decide +kernel)))
    | 1, _ => (hs _ (List.mem_of_getElem? (i := 295) (by decide +kernel)))
    | 2, _ => (hs _ (List.mem_of_getElem? (i := 296) (by decide +kernel)))
    | 3, _ => (hs _ (List.mem_of_getElem? (i := 297) (by decide +kernel)))
    | 4, _ => (hs _ (List.mem_of_getElem? (i := 298) (by decide +kernel)))
    | 5, _ => (hs _ (List.mem_of_getElem? (i := 299) (by decide +kernel)))
    | 6, _ => (hs _ (List.mem_of_getElem? (i := 300) (by decide +kernel)))
    | n + 7, h => absurd h (by show ¬ n + 7 < 7; omega)) hA
set_option maxRecDepth 20000 in
theorem am_s2_4 {args : Array Value} {s : State} {A : Nat → Prop} (ht : ∀ w ∈ lw_tbl, w.before args s = true) (hs : ∀ c ∈ am_fl0, c.before args s = true) (hA : ∀ a : Nat, a < s.heap.size → ¬ A a) : ∃ a av, am_sf A 4 a av s :=
  am_s1 4 (ht _ (am_tb (am_r3 165 rfl))) (by decide) (hs _ (List.mem_of_getElem? (i := 301) (by decide +kernel))) (hs _ (List.mem_of_getElem? (i := 302) (by decide +kernel))) (hs _ (List.mem_of_getElem? (i := 303) (by decide +kernel))) (hs _ (List.mem_of_getElem? (i := 304) (by decide +kernel))) (fun j hj => match j, hj with
    | 0, _ => (hs _ (List.mem_of_getElem? (i := 305) (by decide +kernel)))
    | 1, _ => (hs _ (List.mem_of_getElem? (i := 306) (by decide +kernel)))
    | 2, _ => (hs _ (List.mem_of_getElem? (i := 307) (by decide +kernel)))
    | 3, _ => (hs _ (List.mem_of_getElem? (i := 308) (by decide +kernel)))
    | 4, _ => (hs _ (List.mem_of_getElem? (i := 309) (by decide +kernel)))
    | 5, _ => (hs _ (List.mem_of_getElem? (i := 310) (by decide +kernel)))
    | 6, _ => (hs _ (List.mem_of_getElem? (i := 311) (by decide +kernel)))
    | n + 7, h => absurd h (by show ¬ n + 7 < 7; omega)) hA
set_option maxRecDepth 20000 in
theorem am_s2_5 {args : Array Value} {s : State} {A : Nat → Prop} (ht : ∀ w ∈ lw_tbl, w.before args s = true) (hs : ∀ c ∈ am_fl0, c.before args s = true) (hA : ∀ a : Nat, a < s.heap.size → ¬ A a) : ∃ a av, am_sf A 5 a av s :=
  am_s1 5 (ht _ (am_tb (am_r3 176 rfl))) (by decide) (hs _ (List.mem_of_getElem? (i := 313) (by decide +kernel))) (hs _ (List.mem_of_getElem? (i := 314) (by decide +kernel))) (hs _ (List.mem_of_getElem? (i := 315) (by decide +kernel))) (hs _ (List.mem_of_getElem? (i := 316) (by decide +kernel))) (fun j hj => match j, hj with
    | 0, _ => (hs _ (List.mem_of_getElem? (i := 317) (by decide +kernel)))
    | 1, _ => (hs _ (List.mem_of_getElem? (i := 318) (by decide +kernel)))
    | 2, _ => (hs _ (List.mem_of_getElem? (i := 319) (by decide +kernel)))
    | 3, _ => (hs _ (List.mem_of_getElem? (i := 320) (by decide +kernel)))
    | n + 4, h => absurd h (by show ¬ n + 4 < 4; omega)) hA
set_option maxRecDepth 20000 in
theorem am_s2_6 {args : Array Value} {s : State} {A : Nat → Prop} (ht : ∀ w ∈ lw_tbl, w.before args s = true) (hs : ∀ c ∈ am_fl0, c.before args s = true) (hA : ∀ a : Nat, a < s.heap.size → ¬ A a) : ∃ a av, am_sf A 6 a av s :=
  am_s1 6 (ht _ (am_tb (am_r3 178 rfl))) (by decide) (hs _ (List.mem_of_getElem? (i := 321) (by decide +kernel))) (hs _ (List.mem_of_getElem? (i := 322) (by decide +kernel))) (hs _ (List.mem_of_getElem? (i := 323) (by decide +kernel))) (hs _ (List.mem_of_getElem? (i := 324) (by decide +kernel))) (fun j hj => match j, hj with
    | 0, _ => (hs _ (List.mem_of_getElem? (i := 325) (by decide +kernel)))
    | 1, _ => (hs _ (List.mem_of_getElem? (i := 326) (by decide +kernel)))
    | 2, _ => (hs _ (List.mem_of_getElem? (i := 327) (by decide +kernel)))
    | 3, _ => (hs _ (List.mem_of_getElem? (i := 328) (by decide +kernel)))
    | 4, _ => (hs _ (List.mem_of_getElem? (i := 329) (by decide +kernel)))
    | 5, _ => (hs _ (List.mem_of_getElem? (i := 330) (by decide +kernel)))
    | 6, _ => (hs _ (List.mem_of_getElem? (i := 331) (by decide +kernel)))
    | 7, _ => (hs _ (List.mem_of_getElem? (i := 332) (by decide +kernel)))
    | 8, _ => (hs _ (List.mem_of_getElem? (i := 333) (by decide +kernel)))
    | 9, _ => (hs _ (List.mem_of_getElem? (i := 334) (by decide +kernel)))
    | 10, _ => (hs _ (List.mem_of_getElem? (i := 335) (by decide +kernel)))
    | 11, _ => (hs _ (List.mem_of_getElem? (i := 336) (by decide +kernel)))
    | 12, _ => (hs _ (List.mem_of_getElem? (i := 337) (by decide +kernel)))
    | 13, _ => (hs _ (List.mem_of_getElem? (i := 338) (by decide +kernel)))
    | 14, _ => (hs _ (List.mem_of_getElem? (i := 339) (by decide +kernel)))
    | 15, _ => (hs _ (List.mem_of_getElem? (i := 340) (by decide +kernel)))
    | n + 16, h => absurd h (by show ¬ n + 16 < 16; omega)) hA
set_option maxRecDepth 20000 in
theorem am_s2_7 {args : Array Value} {s : State} {A : Nat → Prop} (ht : ∀ w ∈ lw_tbl, w.before args s = true) (hs : ∀ c ∈ am_fl0, c.before args s = true) (hA : ∀ a : Nat, a < s.heap.size → ¬ A a) : ∃ a av, am_sf A 7 a av s :=
  am_s1 7 (ht _ (am_tb (am_r3 183 rfl))) (by decide) (hs _ (List.mem_of_getElem? (i := 341) (by decide +kernel))) (hs _ (List.mem_of_getElem? (i := 342) (by decide +kernel))) (hs _ (List.mem_of_getElem? (i := 343) (by decide +kernel))) (hs _ (List.mem_of_getElem? (i := 344) (by decide +kernel))) (fun j hj => match j, hj with
    | 0, _ => (hs _ (List.mem_of_getElem? (i := 345) (by decide +kernel)))
    | n + 1, h => absurd h (by show ¬ n + 1 < 1; omega)) hA
set_option maxRecDepth 20000 in
theorem am_s2_8 {args : Array Value} {s : State} {A : Nat → Prop} (ht : ∀ w ∈ lw_tbl, w.before args s = true) (hs : ∀ c ∈ am_fl0, c.before args s = true) (hA : ∀ a : Nat, a < s.heap.size → ¬ A a) : ∃ a av, am_sf A 8 a av s :=
  am_s1 8 (ht _ (am_tb (am_r3 184 rfl))) (by decide) (hs _ (List.mem_of_getElem? (i := 346) (by decide +kernel))) (hs _ (List.mem_of_getElem? (i := 347) (by decide +kernel))) (hs _ (List.mem_of_getElem? (i := 348) (by decide +kernel))) (hs _ (List.mem_of_getElem? (i := 349) (by decide +kernel))) (fun j hj => match j, hj with
    | 0, _ => (hs _ (List.mem_of_getElem? (i := 350) (by decide +kernel)))
    | 1, _ => (hs _ (List.mem_of_getElem? (i := 351) (by decide +kernel)))
    | n + 2, h => absurd h (by show ¬ n + 2 < 2; omega)) hA
set_option maxRecDepth 20000 in
theorem am_s2_9 {args : Array Value} {s : State} {A : Nat → Prop} (ht : ∀ w ∈ lw_tbl, w.before args s = true) (hs : ∀ c ∈ am_fl0, c.before args s = true) (hA : ∀ a : Nat, a < s.heap.size → ¬ A a) : ∃ a av, am_sf A 9 a av s :=
  am_s1 9 (ht _ (am_tb (am_r4 116 rfl))) (by decide) (hs _ (List.mem_of_getElem? (i := 352) (by decide +kernel))) (hs _ (List.mem_of_getElem? (i := 353) (by decide +kernel))) (hs _ (List.mem_of_getElem? (i := 354) (by decide +kernel))) (hs _ (List.mem_of_getElem? (i := 355) (by decide +kernel))) (fun j hj => match j, hj with
    | 0, _ => (hs _ (List.mem_of_getElem? (i := 356) (by decide +kernel)))
    | 1, _ => (hs _ (List.mem_of_getElem? (i := 357) (by decide +kernel)))
    | 2, _ => (hs _ (List.mem_of_getElem? (i := 358) (by decide +kernel)))
    | n + 3, h => absurd h (by show ¬ n + 3 < 3; omega)) hA
set_option maxRecDepth 20000 in
theorem am_s2_10 {args : Array Value} {s : State} {A : Nat → Prop} (ht : ∀ w ∈ lw_tbl, w.before args s = true) (hs : ∀ c ∈ am_fl0, c.before args s = true) (hA : ∀ a : Nat, a < s.heap.size → ¬ A a) : ∃ a av, am_sf A 10 a av s :=
  am_s1 10 (ht _ (am_tb (am_r5 39 rfl))) (by decide) (hs _ (List.mem_of_getElem? (i := 359) (by decide +kernel))) (hs _ (List.mem_of_getElem? (i := 360) (by decide +kernel))) (hs _ (List.mem_of_getElem? (i := 361) (by decide +kernel))) (hs _ (List.mem_of_getElem? (i := 362) (by decide +kernel))) (fun j hj => match j, hj with
    | 0, _ => (hs _ (List.mem_of_getElem? (i := 363) (by decide +kernel)))
    | 1, _ => (hs _ (List.mem_of_getElem? (i := 364) (by decide +kernel)))
    | 2, _ => (hs _ (List.mem_of_getElem? (i := 365) (by decide +kernel)))
    | 3, _ => (hs _ (List.mem_of_getElem? (i := 366) (by decide +kernel)))
    | 4, _ => (hs _ (List.mem_of_getElem? (i := 367) (by decide +kernel)))
    | 5, _ => (hs _ (List.mem_of_getElem? (i := 368) (by decide +kernel)))
    | 6, _ => (hs _ (List.mem_of_getElem? (i := 369) (by decide +kernel)))
    | n + 7, h => absurd h (by show ¬ n + 7 < 7; omega)) hA
set_option maxRecDepth 20000 in
theorem am_s2_11 {args : Array Value} {s : State} {A : Nat → Prop} (ht : ∀ w ∈ lw_tbl, w.before args s = true) (hs : ∀ c ∈ am_fl0, c.before args s = true) (hA : ∀ a : Nat, a < s.heap.size → ¬ A a) : ∃ a av, am_sf A 11 a av s :=
  am_s1 11 (ht _ (am_tb (am_r5 68 rfl))) (by decide) (hs _ (List.mem_of_getElem? (i := 372) (by decide +kernel))) (hs _ (List.mem_of_getElem? (i := 373) (by decide +kernel))) (hs _ (List.mem_of_getElem? (i := 374) (by decide +kernel))) (hs _ (List.mem_of_getElem? (i := 375) (by decide +kernel))) (fun j hj => match j, hj with
    | 0, _ => (hs _ (List.mem_of_getElem? (i := 376) (by decide +kernel)))
    | 1, _ => (hs _ (List.mem_of_getElem? (i := 377) (by decide +kernel)))
    | 2, _ => (hs _ (List.mem_of_getElem? (i := 378) (by decide +kernel)))
    | 3, _ => (hs _ (List.mem_of_getElem? (i := 379) (by decide +kernel)))
    | 4, _ => (hs _ (List.mem_of_getElem? (i := 380) (by decide +kernel)))
    | 5, _ => (hs _ (List.mem_of_getElem? (i := 381) (by decide +kernel)))
    | n + 6, h => absurd h (by show ¬ n + 6 < 6; omega)) hA
set_option maxRecDepth 20000 in
theorem am_s2_12 {args : Array Value} {s : State} {A : Nat → Prop} (ht : ∀ w ∈ lw_tbl, w.before args s = true) (hs : ∀ c ∈ am_fl0, c.before args s = true) (hA : ∀ a : Nat, a < s.heap.size → ¬ A a) : ∃ a av, am_sf A 12 a av s :=
  am_s1 12 (ht _ (am_tb (am_r5 89 rfl))) (by decide) (hs _ (List.mem_of_getElem? (i := 382) (by decide +kernel))) (hs _ (List.mem_of_getElem? (i := 383) (by decide +kernel))) (hs _ (List.mem_of_getElem? (i := 384) (by decide +kernel))) (hs _ (List.mem_of_getElem? (i := 385) (by decide +kernel))) (fun j hj => match j, hj with
    | 0, _ => (hs _ (List.mem_of_getElem? (i := 386) (by decide +kernel)))
    | 1, _ => (hs _ (List.mem_of_getElem? (i := 387) (by decide +kernel)))
    | 2, _ => (hs _ (List.mem_of_getElem? (i := 388) (by decide +kernel)))
    | 3, _ => (hs _ (List.mem_of_getElem? (i := 389) (by decide +kernel)))
    | 4, _ => (hs _ (List.mem_of_getElem? (i := 390) (by decide +kernel)))
    | 5, _ => (hs _ (List.mem_of_getElem? (i := 391) (by decide +kernel)))
    | 6, _ => (hs _ (List.mem_of_getElem? (i := 392) (by decide +kernel)))
    | 7, _ => (hs _ (List.mem_of_getElem? (i := 393) (by decide +kernel)))
    | 8, _ => (hs _ (List.mem_of_getElem? (i := 394) (by decide +kernel)))
    | 9, _ => (hs _ (List.mem_of_getElem? (i := 395) (by decide +kernel)))
    | n + 10, h => absurd h (by show ¬ n + 10 < 10; omega)) hA
set_option maxRecDepth 20000 in
theorem am_s2_13 {args : Array Value} {s : State} {A : Nat → Prop} (ht : ∀ w ∈ lw_tbl, w.before args s = true) (hs : ∀ c ∈ am_fl0, c.before args s = true) (hA : ∀ a : Nat, a < s.heap.size → ¬ A a) : ∃ a av, am_sf A 13 a av s :=
  am_s1 13 (ht _ (am_tb (am_r5 91 rfl))) (by decide) (hs _ (List.mem_of_getElem? (i := 396) (by decide +kernel))) (hs _ (List.mem_of_getElem? (i := 397) (by decide +kernel))) (hs _ (List.mem_of_getElem? (i := 398) (by decide +kernel))) (hs _ (List.mem_of_getElem? (i := 399) (by decide +kernel))) (fun j hj => match j, hj with
    | 0, _ => (hs _ (List.mem_of_getElem? (i := 400) (by decide +kernel)))
    | 1, _ => (hs _ (List.mem_of_getElem? (i := 401) (by decide +kernel)))
    | 2, _ => (hs _ (List.mem_of_getElem? (i := 402) (by decide +kernel)))
    | 3, _ => (hs _ (List.mem_of_getElem? (i := 403) (by decide +kernel)))
    | 4, _ => (hs _ (List.mem_of_getElem? (i := 404) (by decide +kernel)))
    | n + 5, h => absurd h (by show ¬ n + 5 < 5; omega)) hA
set_option maxRecDepth 20000 in
theorem am_s2_14 {args : Array Value} {s : State} {A : Nat → Prop} (ht : ∀ w ∈ lw_tbl, w.before args s = true) (hs : ∀ c ∈ am_fl0, c.before args s = true) (hA : ∀ a : Nat, a < s.heap.size → ¬ A a) : ∃ a av, am_sf A 14 a av s :=
  am_s1 14 (ht _ (am_tb (am_r5 108 rfl))) (by decide) (hs _ (List.mem_of_getElem? (i := 405) (by decide +kernel))) (hs _ (List.mem_of_getElem? (i := 406) (by decide +kernel))) (hs _ (List.mem_of_getElem? (i := 407) (by decide +kernel))) (hs _ (List.mem_of_getElem? (i := 408) (by decide +kernel))) (fun j hj => match j, hj with
    | 0, _ => (hs _ (List.mem_of_getElem? (i := 409) (by decide +kernel)))
    | 1, _ => (hs _ (List.mem_of_getElem? (i := 410) (by decide +kernel)))
    | 2, _ => (hs _ (List.mem_of_getElem? (i := 411) (by decide +kernel)))
    | 3, _ => (hs _ (List.mem_of_getElem? (i := 412) (by decide +kernel)))
    | 4, _ => (hs _ (List.mem_of_getElem? (i := 413) (by decide +kernel)))
    | 5, _ => (hs _ (List.mem_of_getElem? (i := 414) (by decide +kernel)))
    | 6, _ => (hs _ (List.mem_of_getElem? (i := 415) (by decide +kernel)))
    | 7, _ => (hs _ (List.mem_of_getElem? (i := 416) (by decide +kernel)))
    | n + 8, h => absurd h (by show ¬ n + 8 < 8; omega)) hA
set_option maxRecDepth 20000 in
theorem am_s2_15 {args : Array Value} {s : State} {A : Nat → Prop} (ht : ∀ w ∈ lw_tbl, w.before args s = true) (hs : ∀ c ∈ am_fl0, c.before args s = true) (hA : ∀ a : Nat, a < s.heap.size → ¬ A a) : ∃ a av, am_sf A 15 a av s :=
  am_s1 15 (ht _ (am_tb (am_r5 109 rfl))) (by decide) (hs _ (List.mem_of_getElem? (i := 417) (by decide +kernel))) (hs _ (List.mem_of_getElem? (i := 418) (by decide +kernel))) (hs _ (List.mem_of_getElem? (i := 419) (by decide +kernel))) (hs _ (List.mem_of_getElem? (i := 420) (by decide +kernel))) (fun j hj => match j, hj with
    | 0, _ => (hs _ (List.mem_of_getElem? (i := 421) (by decide +kernel)))
    | n + 1, h => absurd h (by show ¬ n + 1 < 1; omega)) hA
set_option maxRecDepth 20000 in
theorem am_s2_16 {args : Array Value} {s : State} {A : Nat → Prop} (ht : ∀ w ∈ lw_tbl, w.before args s = true) (hs : ∀ c ∈ am_fl0, c.before args s = true) (hA : ∀ a : Nat, a < s.heap.size → ¬ A a) : ∃ a av, am_sf A 16 a av s :=
  am_s1 16 (ht _ (am_tb (am_r5 176 rfl))) (by decide) (hs _ (List.mem_of_getElem? (i := 422) (by decide +kernel))) (hs _ (List.mem_of_getElem? (i := 423) (by decide +kernel))) (hs _ (List.mem_of_getElem? (i := 424) (by decide +kernel))) (hs _ (List.mem_of_getElem? (i := 425) (by decide +kernel))) (fun j hj => match j, hj with
    | 0, _ => (hs _ (List.mem_of_getElem? (i := 426) (by decide +kernel)))
    | 1, _ => (hs _ (List.mem_of_getElem? (i := 427) (by decide +kernel)))
    | 2, _ => (hs _ (List.mem_of_getElem? (i := 428) (by decide +kernel)))
    | 3, _ => (hs _ (List.mem_of_getElem? (i := 429) (by decide +kernel)))
    | 4, _ => (hs _ (List.mem_of_getElem? (i := 430) (by decide +kernel)))
    | 5, _ => (hs _ (List.mem_of_getElem? (i := 431) (by decide +kernel)))
    | n + 6, h => absurd h (by show ¬ n + 6 < 6; omega)) hA
set_option maxRecDepth 20000 in
theorem am_s2_17 {args : Array Value} {s : State} {A : Nat → Prop} (ht : ∀ w ∈ lw_tbl, w.before args s = true) (hs : ∀ c ∈ am_fl0, c.before args s = true) (hA : ∀ a : Nat, a < s.heap.size → ¬ A a) : ∃ a av, am_sf A 17 a av s :=
  am_s1 17 (ht _ (am_tb (am_r5 178 rfl))) (by decide) (hs _ (List.mem_of_getElem? (i := 432) (by decide +kernel))) (hs _ (List.mem_of_getElem? (i := 433) (by decide +kernel))) (hs _ (List.mem_of_getElem? (i := 434) (by decide +kernel))) (hs _ (List.mem_of_getElem? (i := 435) (by decide +kernel))) (fun j hj => match j, hj with
    | 0, _ => (hs _ (List.mem_of_getElem? (i := 436) (by decide +kernel)))
    | 1, _ => (hs _ (List.mem_of_getElem? (i := 437) (by decide +kernel)))
    | 2, _ => (hs _ (List.mem_of_getElem? (i := 438) (by decide +kernel)))
    | 3, _ => (hs _ (List.mem_of_getElem? (i := 439) (by decide +kernel)))
    | 4, _ => (hs _ (List.mem_of_getElem? (i := 440) (by decide +kernel)))
    | n + 5, h => absurd h (by show ¬ n + 5 < 5; omega)) hA
set_option maxRecDepth 20000 in
theorem am_s2_18 {args : Array Value} {s : State} {A : Nat → Prop} (ht : ∀ w ∈ lw_tbl, w.before args s = true) (hs : ∀ c ∈ am_fl0, c.before args s = true) (hA : ∀ a : Nat, a < s.heap.size → ¬ A a) : ∃ a av, am_sf A 18 a av s :=
  am_s1 18 (ht _ (am_tb (am_r5 179 rfl))) (by decide) (hs _ (List.mem_of_getElem? (i := 441) (by decide +kernel))) (hs _ (List.mem_of_getElem? (i := 442) (by decide +kernel))) (hs _ (List.mem_of_getElem? (i := 443) (by decide +kernel))) (hs _ (List.mem_of_getElem? (i := 444) (by decide +kernel))) (fun j hj => match j, hj with
    | 0, _ => (hs _ (List.mem_of_getElem? (i := 445) (by decide +kernel)))
    | 1, _ => (hs _ (List.mem_of_getElem? (i := 446) (by decide +kernel)))
    | 2, _ => (hs _ (List.mem_of_getElem? (i := 447) (by decide +kernel)))
    | 3, _ => (hs _ (List.mem_of_getElem? (i := 448) (by decide +kernel)))
    | 4, _ => (hs _ (List.mem_of_getElem? (i := 449) (by decide +kernel)))
    | 5, _ => (hs _ (List.mem_of_getElem? (i := 450) (by decide +kernel)))
    | 6, _ => (hs _ (List.mem_of_getElem? (i := 451) (by decide +kernel)))
    | 7, _ => (hs _ (List.mem_of_getElem? (i := 452) (by decide +kernel)))
    | n + 8, h => absurd h (by show ¬ n + 8 < 8; omega)) hA
set_option maxRecDepth 20000 in
theorem am_s2_19 {args : Array Value} {s : State} {A : Nat → Prop} (ht : ∀ w ∈ lw_tbl, w.before args s = true) (hs : ∀ c ∈ am_fl0, c.before args s = true) (hA : ∀ a : Nat, a < s.heap.size → ¬ A a) : ∃ a av, am_sf A 19 a av s :=
  am_s1 19 (ht _ (am_tb (am_r5 180 rfl))) (by decide) (hs _ (List.mem_of_getElem? (i := 453) (by decide +kernel))) (hs _ (List.mem_of_getElem? (i := 454) (by decide +kernel))) (hs _ (List.mem_of_getElem? (i := 455) (by decide +kernel))) (hs _ (List.mem_of_getElem? (i := 456) (by decide +kernel))) (fun j hj => match j, hj with
    | 0, _ => (hs _ (List.mem_of_getElem? (i := 457) (by decide +kernel)))
    | 1, _ => (hs _ (List.mem_of_getElem? (i := 458) (by decide +kernel)))
    | 2, _ => (hs _ (List.mem_of_getElem? (i := 459) (by decide +kernel)))
    | 3, _ => (hs _ (List.mem_of_getElem? (i := 460) (by decide +kernel)))
    | 4, _ => (hs _ (List.mem_of_getElem? (i := 461) (by decide +kernel)))
    | 5, _ => (hs _ (List.mem_of_getElem? (i := 462) (by decide +kernel)))
    | 6, _ => (hs _ (List.mem_of_getElem? (i := 463) (by decide +kernel)))
    | n + 7, h => absurd h (by show ¬ n + 7 < 7; omega)) hA
set_option maxRecDepth 20000 in
theorem am_s2_20 {args : Array Value} {s : State} {A : Nat → Prop} (ht : ∀ w ∈ lw_tbl, w.before args s = true) (hs : ∀ c ∈ am_fl0, c.before args s = true) (hA : ∀ a : Nat, a < s.heap.size → ¬ A a) : ∃ a av, am_sf A 20 a av s :=
  am_s1 20 (ht _ (am_tb (am_r5 197 rfl))) (by decide) (hs _ (List.mem_of_getElem? (i := 464) (by decide +kernel))) (hs _ (List.mem_of_getElem? (i := 465) (by decide +kernel))) (hs _ (List.mem_of_getElem? (i := 466) (by decide +kernel))) (hs _ (List.mem_of_getElem? (i := 467) (by decide +kernel))) (fun j hj => match j, hj with
    | 0, _ => (hs _ (List.mem_of_getElem? (i := 468) (by decide +kernel)))
    | 1, _ => (hs _ (List.mem_of_getElem? (i := 469) (by decide +kernel)))
    | 2, _ => (hs _ (List.mem_of_getElem? (i := 470) (by decide +kernel)))
    | 3, _ => (hs _ (List.mem_of_getElem? (i := 471) (by decide +kernel)))
    | n + 4, h => absurd h (by show ¬ n + 4 < 4; omega)) hA
set_option maxRecDepth 20000 in
theorem am_s2_21 {args : Array Value} {s : State} {A : Nat → Prop} (ht : ∀ w ∈ lw_tbl, w.before args s = true) (hs : ∀ c ∈ am_fl0, c.before args s = true) (hA : ∀ a : Nat, a < s.heap.size → ¬ A a) : ∃ a av, am_sf A 21 a av s :=
  am_s1 21 (ht _ (am_tb (am_r5 202 rfl))) (by decide) (hs _ (List.mem_of_getElem? (i := 472) (by decide +kernel))) (hs _ (List.mem_of_getElem? (i := 473) (by decide +kernel))) (hs _ (List.mem_of_getElem? (i := 474) (by decide +kernel))) (hs _ (List.mem_of_getElem? (i := 475) (by decide +kernel))) (fun j hj => match j, hj with
    | 0, _ => (hs _ (List.mem_of_getElem? (i := 476) (by decide +kernel)))
    | 1, _ => (hs _ (List.mem_of_getElem? (i := 477) (by decide +kernel)))
    | 2, _ => (hs _ (List.mem_of_getElem? (i := 478) (by decide +kernel)))
    | 3, _ => (hs _ (List.mem_of_getElem? (i := 479) (by decide +kernel)))
    | n + 4, h => absurd h (by show ¬ n + 4 < 4; omega)) hA
set_option maxRecDepth 20000 in
theorem am_s2_22 {args : Array Value} {s : State} {A : Nat → Prop} (ht : ∀ w ∈ lw_tbl, w.before args s = true) (hs : ∀ c ∈ am_fl0, c.before args s = true) (hA : ∀ a : Nat, a < s.heap.size → ¬ A a) : ∃ a av, am_sf A 22 a av s :=
  am_s1 22 (ht _ (am_tb (am_r5 204 rfl))) (by decide) (hs _ (List.mem_of_getElem? (i := 480) (by decide +kernel))) (hs _ (List.mem_of_getElem? (i := 481) (by decide +kernel))) (hs _ (List.mem_of_getElem? (i := 482) (by decide +kernel))) (hs _ (List.mem_of_getElem? (i := 483) (by decide +kernel))) (fun j hj => match j, hj with
    | 0, _ => (hs _ (List.mem_of_getElem? (i := 484) (by decide +kernel)))
    | 1, _ => (hs _ (List.mem_of_getElem? (i := 485) (by decide +kernel)))
    | 2, _ => (hs _ (List.mem_of_getElem? (i := 486) (by decide +kernel)))
    | 3, _ => (hs _ (List.mem_of_getElem? (i := 487) (by decide +kernel)))
    | n + 4, h => absurd h (by show ¬ n + 4 < 4; omega)) hA
set_option maxRecDepth 20000 in
theorem am_s2_23 {args : Array Value} {s : State} {A : Nat → Prop} (ht : ∀ w ∈ lw_tbl, w.before args s = true) (hs : ∀ c ∈ am_fl0, c.before args s = true) (hA : ∀ a : Nat, a < s.heap.size → ¬ A a) : ∃ a av, am_sf A 23 a av s :=
  am_s1 23 (ht _ (am_tb (am_r5 224 rfl))) (by decide) (hs _ (List.mem_of_getElem? (i := 488) (by decide +kernel))) (hs _ (List.mem_of_getElem? (i := 489) (by decide +kernel))) (hs _ (List.mem_of_getElem? (i := 490) (by decide +kernel))) (hs _ (List.mem_of_getElem? (i := 491) (by decide +kernel))) (fun j hj => match j, hj with
    | 0, _ => (hs _ (List.mem_of_getElem? (i := 492) (by decide +kernel)))
    | 1, _ => (hs _ (List.mem_of_getElem? (i := 493) (by decide +kernel)))
    | 2, _ => (hs _ (List.mem_of_getElem? (i := 494) (by decide +kernel)))
    | n + 3, h => absurd h (by show ¬ n + 3 < 3; omega)) hA
set_option maxRecDepth 20000 in
theorem am_s2_24 {args : Array Value} {s : State} {A : Nat → Prop} (ht : ∀ w ∈ lw_tbl, w.before args s = true) (hs : ∀ c ∈ am_fl0, c.before args s = true) (hA : ∀ a : Nat, a < s.heap.size → ¬ A a) : ∃ a av, am_sf A 24 a av s :=
  am_s1 24 (ht _ (am_tb (am_r5 230 rfl))) (by decide) (hs _ (List.mem_of_getElem? (i := 495) (by decide +kernel))) (hs _ (List.mem_of_getElem? (i := 496) (by decide +kernel))) (hs _ (List.mem_of_getElem? (i := 497) (by decide +kernel))) (hs _ (List.mem_of_getElem? (i := 498) (by decide +kernel))) (fun j hj => match j, hj with
    | 0, _ => (hs _ (List.mem_of_getElem? (i := 499) (by decide +kernel)))
    | 1, _ => (hs _ (List.mem_of_getElem? (i := 500) (by decide +kernel)))
    | n + 2, h => absurd h (by show ¬ n + 2 < 2; omega)) hA
set_option maxRecDepth 20000 in
theorem am_s2_25 {args : Array Value} {s : State} {A : Nat → Prop} (ht : ∀ w ∈ lw_tbl, w.before args s = true) (hs : ∀ c ∈ am_fl0, c.before args s = true) (hA : ∀ a : Nat, a < s.heap.size → ¬ A a) : ∃ a av, am_sf A 25 a av s :=
  am_s1 25 (ht _ (am_tb (am_r5 231 rfl))) (by decide) (hs _ (List.mem_of_getElem? (i := 501) (by decide +kernel))) (hs _ (List.mem_of_getElem? (i := 502) (by decide +kernel))) (hs _ (List.mem_of_getElem? (i := 503) (by decide +kernel))) (hs _ (List.mem_of_getElem? (i := 504) (by decide +kernel))) (fun j hj => match j, hj with
    | 0, _ => (hs _ (List.mem_of_getElem? (i := 505) (by decide +kernel)))
    | 1, _ => (hs _ (List.mem_of_getElem? (i := 506) (by decide +kernel)))
    | n + 2, h => absurd h (by show ¬ n + 2 < 2; omega)) hA
set_option maxRecDepth 20000 in
theorem am_s2_26 {args : Array Value} {s : State} {A : Nat → Prop} (ht : ∀ w ∈ lw_tbl, w.before args s = true) (hs : ∀ c ∈ am_fl0, c.before args s = true) (hA : ∀ a : Nat, a < s.heap.size → ¬ A a) : ∃ a av, am_sf A 26 a av s :=
  am_s1 26 (ht _ (am_tb (am_r5 232 rfl))) (by decide) (hs _ (List.mem_of_getElem? (i := 507) (by decide +kernel))) (hs _ (List.mem_of_getElem? (i := 508) (by decide +kernel))) (hs _ (List.mem_of_getElem? (i := 509) (by decide +kernel))) (hs _ (List.mem_of_getElem? (i := 510) (by decide +kernel))) (fun j hj => match j, hj with
    | 0, _ => (hs _ (List.mem_of_getElem? (i := 511) (by decide +kernel)))
    | 1, _ => (hs _ (List.mem_of_getElem? (i := 512) (by decide +kernel)))
    | 2, _ => (hs _ (List.mem_of_getElem? (i := 513) (by decide +kernel)))
    | 3, _ => (hs _ (List.mem_of_getElem? (i := 514) (by decide +kernel)))
    | n + 4, h => absurd h (by show ¬ n + 4 < 4; omega)) hA
set_option maxRecDepth 20000 in
theorem am_s2_27 {args : Array Value} {s : State} {A : Nat → Prop} (ht : ∀ w ∈ lw_tbl, w.before args s = true) (hs : ∀ c ∈ am_fl0, c.before args s = true) (hA : ∀ a : Nat, a < s.heap.size → ¬ A a) : ∃ a av, am_sf A 27 a av s :=
  am_s1 27 (ht _ (am_tb (am_r5 233 rfl))) (by decide) (hs _ (List.mem_of_getElem? (i := 515) (by decide +kernel))) (hs _ (List.mem_of_getElem? (i := 516) (by decide +kernel))) (hs _ (List.mem_of_getElem? (i := 517) (by decide +kernel))) (hs _ (List.mem_of_getElem? (i := 518) (by decide +kernel))) (fun j hj => match j, hj with
    | 0, _ => (hs _ (List.mem_of_getElem? (i := 519) (by decide +kernel)))
    | 1, _ => (hs _ (List.mem_of_getElem? (i := 520) (by decide +kernel)))
    | 2, _ => (hs _ (List.mem_of_getElem? (i := 521) (by decide +kernel)))
    | 3, _ => (hs _ (List.mem_of_getElem? (i := 522) (by decide +kernel)))
    | n + 4, h => absurd h (by show ¬ n + 4 < 4; omega)) hA
set_option maxRecDepth 20000 in
theorem am_s2_28 {args : Array Value} {s : State} {A : Nat → Prop} (ht : ∀ w ∈ lw_tbl, w.before args s = true) (hs : ∀ c ∈ am_fl0, c.before args s = true) (hA : ∀ a : Nat, a < s.heap.size → ¬ A a) : ∃ a av, am_sf A 28 a av s :=
  am_s1 28 (ht _ (am_tb (am_r5 237 rfl))) (by decide) (hs _ (List.mem_of_getElem? (i := 523) (by decide +kernel))) (hs _ (List.mem_of_getElem? (i := 524) (by decide +kernel))) (hs _ (List.mem_of_getElem? (i := 525) (by decide +kernel))) (hs _ (List.mem_of_getElem? (i := 526) (by decide +kernel))) (fun j hj => match j, hj with
    | 0, _ => (hs _ (List.mem_of_getElem? (i := 527) (by decide +kernel)))
    | n + 1, h => absurd h (by show ¬ n + 1 < 1; omega)) hA
set_option maxRecDepth 20000 in
theorem am_s2_29 {args : Array Value} {s : State} {A : Nat → Prop} (ht : ∀ w ∈ lw_tbl, w.before args s = true) (hs : ∀ c ∈ am_fl0, c.before args s = true) (hA : ∀ a : Nat, a < s.heap.size → ¬ A a) : ∃ a av, am_sf A 29 a av s :=
  am_s1 29 (ht _ (am_tb (am_r8 192 rfl))) (by decide) (hs _ (List.mem_of_getElem? (i := 528) (by decide +kernel))) (hs _ (List.mem_of_getElem? (i := 529) (by decide +kernel))) (hs _ (List.mem_of_getElem? (i := 530) (by decide +kernel))) (hs _ (List.mem_of_getElem? (i := 531) (by decide +kernel))) (fun j hj => match j, hj with
    | 0, _ => (hs _ (List.mem_of_getElem? (i := 532) (by decide +kernel)))
    | 1, _ => (hs _ (List.mem_of_getElem? (i := 533) (by decide +kernel)))
    | 2, _ => (hs _ (List.mem_of_getElem? (i := 534) (by decide +kernel)))
    | 3, _ => (hs _ (List.mem_of_getElem? (i := 535) (by decide +kernel)))
    | n + 4, h => absurd h (by show ¬ n + 4 < 4; omega)) hA
set_option maxRecDepth 20000 in
theorem am_s2_30 {args : Array Value} {s : State} {A : Nat → Prop} (ht : ∀ w ∈ lw_tbl, w.before args s = true) (hs : ∀ c ∈ am_fl0, c.before args s = true) (hA : ∀ a : Nat, a < s.heap.size → ¬ A a) : ∃ a av, am_sf A 30 a av s :=
  am_s1 30 (ht _ (am_tb (am_r8 231 rfl))) (by decide) (hs _ (List.mem_of_getElem? (i := 537) (by decide +kernel))) (hs _ (List.mem_of_getElem? (i := 538) (by decide +kernel))) (hs _ (List.mem_of_getElem? (i := 539) (by decide +kernel))) (hs _ (List.mem_of_getElem? (i := 540) (by decide +kernel))) (fun j hj => match j, hj with
    | 0, _ => (hs _ (List.mem_of_getElem? (i := 541) (by decide +kernel)))
    | 1, _ => (hs _ (List.mem_of_getElem? (i := 542) (by decide +kernel)))
    | 2, _ => (hs _ (List.mem_of_getElem? (i := 543) (by decide +kernel)))
    | 3, _ => (hs _ (List.mem_of_getElem? (i := 544) (by decide +kernel)))
    | 4, _ => (hs _ (List.mem_of_getElem? (i := 545) (by decide +kernel)))
    | 5, _ => (hs _ (List.mem_of_getElem? (i := 546) (by decide +kernel)))
    | 6, _ => (hs _ (List.mem_of_getElem? (i := 547) (by decide +kernel)))
    | n + 7, h => absurd h (by show ¬ n + 7 < 7; omega)) hA
set_option maxRecDepth 20000 in
theorem am_s2_31 {args : Array Value} {s : State} {A : Nat → Prop} (ht : ∀ w ∈ lw_tbl, w.before args s = true) (hs : ∀ c ∈ am_fl0, c.before args s = true) (hA : ∀ a : Nat, a < s.heap.size → ¬ A a) : ∃ a av, am_sf A 31 a av s :=
  am_s1 31 (ht _ (am_tb (am_r9 60 rfl))) (by decide) (hs _ (List.mem_of_getElem? (i := 551) (by decide +kernel))) (hs _ (List.mem_of_getElem? (i := 552) (by decide +kernel))) (hs _ (List.mem_of_getElem? (i := 553) (by decide +kernel))) (hs _ (List.mem_of_getElem? (i := 554) (by decide +kernel))) (fun j hj => match j, hj with
    | 0, _ => (hs _ (List.mem_of_getElem? (i := 555) (by decide +kernel)))
    | 1, _ => (hs _ (List.mem_of_getElem? (i := 556) (by decide +kernel)))
    | 2, _ => (hs _ (List.mem_of_getElem? (i := 557) (by decide +kernel)))
    | 3, _ => (hs _ (List.mem_of_getElem? (i := 558) (by decide +kernel)))
    | 4, _ => (hs _ (List.mem_of_getElem? (i := 559) (by decide +kernel)))
    | 5, _ => (hs _ (List.mem_of_getElem? (i := 560) (by decide +kernel)))
    | 6, _ => (hs _ (List.mem_of_getElem? (i := 561) (by decide +kernel)))
    | 7, _ => (hs _ (List.mem_of_getElem? (i := 562) (by decide +kernel)))
    | 8, _ => (hs _ (List.mem_of_getElem? (i := 563) (by decide +kernel)))
    | 9, _ => (hs _ (List.mem_of_getElem? (i := 564) (by decide +kernel)))
    | n + 10, h => absurd h (by show ¬ n + 10 < 10; omega)) hA
set_option maxRecDepth 20000 in
theorem am_s2_32 {args : Array Value} {s : State} {A : Nat → Prop} (ht : ∀ w ∈ lw_tbl, w.before args s = true) (hs : ∀ c ∈ am_fl0, c.before args s = true) (hA : ∀ a : Nat, a < s.heap.size → ¬ A a) : ∃ a av, am_sf A 32 a av s :=
  am_s1 32 (ht _ (am_tb (am_r9 61 rfl))) (by decide) (hs _ (List.mem_of_getElem? (i := 566) (by decide +kernel))) (hs _ (List.mem_of_getElem? (i := 567) (by decide +kernel))) (hs _ (List.mem_of_getElem? (i := 568) (by decide +kernel))) (hs _ (List.mem_of_getElem? (i := 569) (by decide +kernel))) (fun j hj => match j, hj with
    | 0, _ => (hs _ (List.mem_of_getElem? (i := 570) (by decide +kernel)))
    | 1, _ => (hs _ (List.mem_of_getElem? (i := 571) (by decide +kernel)))
    | 2, _ => (hs _ (List.mem_of_getElem? (i := 572) (by decide +kernel)))
    | 3, _ => (hs _ (List.mem_of_getElem? (i := 573) (by decide +kernel)))
    | 4, _ => (hs _ (List.mem_of_getElem? (i := 574) (by decide +kernel)))
    | n + 5, h => absurd h (by show ¬ n + 5 < 5; omega)) hA
set_option maxRecDepth 20000 in
theorem am_s2_33 {args : Array Value} {s : State} {A : Nat → Prop} (ht : ∀ w ∈ lw_tbl, w.before args s = true) (hs : ∀ c ∈ am_fl0, c.before args s = true) (hA : ∀ a : Nat, a < s.heap.size → ¬ A a) : ∃ a av, am_sf A 33 a av s :=
  am_s1 33 (ht _ (am_tb (am_r9 62 rfl))) (by decide) (hs _ (List.mem_of_getElem? (i := 576) (by decide +kernel))) (hs _ (List.mem_of_getElem? (i := 577) (by decide +kernel))) (hs _ (List.mem_of_getElem? (i := 578) (by decide +kernel))) (hs _ (List.mem_of_getElem? (i := 579) (by decide +kernel))) (fun j hj => match j, hj with
    | 0, _ => (hs _ (List.mem_of_getElem? (i := 580) (by decide +kernel)))
    | 1, _ => (hs _ (List.mem_of_getElem? (i := 581) (by decide +kernel)))
    | 2, _ => (hs _ (List.mem_of_getElem? (i := 582) (by decide +kernel)))
    | 3, _ => (hs _ (List.mem_of_getElem? (i := 583) (by decide +kernel)))
    | 4, _ => (hs _ (List.mem_of_getElem? (i := 584) (by decide +kernel)))
    | 5, _ => (hs _ (List.mem_of_getElem? (i := 585) (by decide +kernel)))
    | 6, _ => (hs _ (List.mem_of_getElem? (i := 586) (by decide +kernel)))
    | 7, _ => (hs _ (List.mem_of_getElem? (i := 587) (by decide +kernel)))
    | n + 8, h => absurd h (by show ¬ n + 8 < 8; omega)) hA
set_option maxRecDepth 20000 in
theorem am_s2_34 {args : Array Value} {s : State} {A : Nat → Prop} (ht : ∀ w ∈ lw_tbl, w.before args s = true) (hs : ∀ c ∈ am_fl0, c.before args s = true) (hA : ∀ a : Nat, a < s.heap.size → ¬ A a) : ∃ a av, am_sf A 34 a av s :=
  am_s1 34 (ht _ (am_tb (am_r9 67 rfl))) (by decide) (hs _ (List.mem_of_getElem? (i := 589) (by decide +kernel))) (hs _ (List.mem_of_getElem? (i := 590) (by decide +kernel))) (hs _ (List.mem_of_getElem? (i := 591) (by decide +kernel))) (hs _ (List.mem_of_getElem? (i := 592) (by decide +kernel))) (fun j hj => match j, hj with
    | 0, _ => (hs _ (List.mem_of_getElem? (i := 593) (by decide +kernel)))
    | 1, _ => (hs _ (List.mem_of_getElem? (i := 594) (by decide +kernel)))
    | 2, _ => (hs _ (List.mem_of_getElem? (i := 595) (by decide +kernel)))
    | 3, _ => (hs _ (List.mem_of_getElem? (i := 596) (by decide +kernel)))
    | 4, _ => (hs _ (List.mem_of_getElem? (i := 597) (by decide +kernel)))
    | 5, _ => (hs _ (List.mem_of_getElem? (i := 598) (by decide +kernel)))
    | n + 6, h => absurd h (by show ¬ n + 6 < 6; omega)) hA
set_option maxRecDepth 20000 in
theorem am_s2_35 {args : Array Value} {s : State} {A : Nat → Prop} (ht : ∀ w ∈ lw_tbl, w.before args s = true) (hs : ∀ c ∈ am_fl0, c.before args s = true) (hA : ∀ a : Nat, a < s.heap.size → ¬ A a) : ∃ a av, am_sf A 35 a av s :=
  am_s1 35 (ht _ (am_tb (am_r9 104 rfl))) (by decide) (hs _ (List.mem_of_getElem? (i := 600) (by decide +kernel))) (hs _ (List.mem_of_getElem? (i := 601) (by decide +kernel))) (hs _ (List.mem_of_getElem? (i := 602) (by decide +kernel))) (hs _ (List.mem_of_getElem? (i := 603) (by decide +kernel))) (fun j hj => match j, hj with
    | 0, _ => (hs _ (List.mem_of_getElem? (i := 604) (by decide +kernel)))
    | 1, _ => (hs _ (List.mem_of_getElem? (i := 605) (by decide +kernel)))
    | 2, _ => (hs _ (List.mem_of_getElem? (i := 606) (by decide +kernel)))
    | 3, _ => (hs _ (List.mem_of_getElem? (i := 607) (by decide +kernel)))
    | 4, _ => (hs _ (List.mem_of_getElem? (i := 608) (by decide +kernel)))
    | 5, _ => (hs _ (List.mem_of_getElem? (i := 609) (by decide +kernel)))
    | 6, _ => (hs _ (List.mem_of_getElem? (i := 610) (by decide +kernel)))
    | 7, _ => (hs _ (List.mem_of_getElem? (i := 611) (by decide +kernel)))
    | 8, _ => (hs _ (List.mem_of_getElem? (i := 612) (by decide +kernel)))
    | 9, _ => (hs _ (List.mem_of_getElem? (i := 613) (by decide +kernel)))
    | 10, _ => (hs _ (List.mem_of_getElem? (i := 614) (by decide +kernel)))
    | 11, _ => (hs _ (List.mem_of_getElem? (i := 615) (by decide +kernel)))
    | 12, _ => (hs _ (List.mem_of_getElem? (i := 616) (by decide +kernel)))
    | 13, _ => (hs _ (List.mem_of_getElem? (i := 617) (by decide +kernel)))
    | 14, _ => (hs _ (List.mem_of_getElem? (i := 618) (by decide +kernel)))
    | 15, _ => (hs _ (List.mem_of_getElem? (i := 619) (by decide +kernel)))
    | 16, _ => (hs _ (List.mem_of_getElem? (i := 620) (by decide +kernel)))
    | 17, _ => (hs _ (List.mem_of_getElem? (i := 621) (by decide +kernel)))
    | 18, _ => (hs _ (List.mem_of_getElem? (i := 622) (by decide +kernel)))
    | 19, _ => (hs _ (List.mem_of_getElem? (i := 623) (by decide +kernel)))
    | n + 20, h => absurd h (by show ¬ n + 20 < 20; omega)) hA
set_option maxRecDepth 20000 in
theorem am_s2_36 {args : Array Value} {s : State} {A : Nat → Prop} (ht : ∀ w ∈ lw_tbl, w.before args s = true) (hs : ∀ c ∈ am_fl0, c.before args s = true) (hA : ∀ a : Nat, a < s.heap.size → ¬ A a) : ∃ a av, am_sf A 36 a av s :=
  am_s1 36 (ht _ (am_tb (am_r9 105 rfl))) (by decide) (hs _ (List.mem_of_getElem? (i := 624) (by decide +kernel))) (hs _ (List.mem_of_getElem? (i := 625) (by decide +kernel))) (hs _ (List.mem_of_getElem? (i := 626) (by decide +kernel))) (hs _ (List.mem_of_getElem? (i := 627) (by decide +kernel))) (fun j hj => match j, hj with
    | 0, _ => (hs _ (List.mem_of_getElem? (i := 628) (by decide +kernel)))
    | 1, _ => (hs _ (List.mem_of_getElem? (i := 629) (by decide +kernel)))
    | 2, _ => (hs _ (List.mem_of_getElem? (i := 630) (by decide +kernel)))
    | 3, _ => (hs _ (List.mem_of_getElem? (i := 631) (by decide +kernel)))
    | 4, _ => (hs _ (List.mem_of_getElem? (i := 632) (by decide +kernel)))
    | n + 5, h => absurd h (by show ¬ n + 5 < 5; omega)) hA
set_option maxRecDepth 20000 in
theorem am_s2_37 {args : Array Value} {s : State} {A : Nat → Prop} (ht : ∀ w ∈ lw_tbl, w.before args s = true) (hs : ∀ c ∈ am_fl0, c.before args s = true) (hA : ∀ a : Nat, a < s.heap.size → ¬ A a) : ∃ a av, am_sf A 37 a av s :=
  am_s1 37 (ht _ (am_tb (am_r9 118 rfl))) (by decide) (hs _ (List.mem_of_getElem? (i := 633) (by decide +kernel))) (hs _ (List.mem_of_getElem? (i := 634) (by decide +kernel))) (hs _ (List.mem_of_getElem? (i := 635) (by decide +kernel))) (hs _ (List.mem_of_getElem? (i := 636) (by decide +kernel))) (fun j hj => match j, hj with
    | 0, _ => (hs _ (List.mem_of_getElem? (i := 637) (by decide +kernel)))
    | 1, _ => (hs _ (List.mem_of_getElem? (i := 638) (by decide +kernel)))
    | 2, _ => (hs _ (List.mem_of_getElem? (i := 639) (by decide +kernel)))
    | 3, _ => (hs _ (List.mem_of_getElem? (i := 640) (by decide +kernel)))
    | n + 4, h => absurd h (by show ¬ n + 4 < 4; omega)) hA
set_option maxRecDepth 20000 in
theorem am_s2_38 {args : Array Value} {s : State} {A : Nat → Prop} (ht : ∀ w ∈ lw_tbl, w.before args s = true) (hs : ∀ c ∈ am_fl0, c.before args s = true) (hA : ∀ a : Nat, a < s.heap.size → ¬ A a) : ∃ a av, am_sf A 38 a av s :=
  am_s1 38 (ht _ (am_tb (am_r9 119 rfl))) (by decide) (hs _ (List.mem_of_getElem? (i := 642) (by decide +kernel))) (hs _ (List.mem_of_getElem? (i := 643) (by decide +kernel))) (hs _ (List.mem_of_getElem? (i := 644) (by decide +kernel))) (hs _ (List.mem_of_getElem? (i := 645) (by decide +kernel))) (fun j hj => match j, hj with
    | 0, _ => (hs _ (List.mem_of_getElem? (i := 646) (by decide +kernel)))
    | n + 1, h => absurd h (by show ¬ n + 1 < 1; omega)) hA
set_option maxRecDepth 20000 in
theorem am_s2_39 {args : Array Value} {s : State} {A : Nat → Prop} (ht : ∀ w ∈ lw_tbl, w.before args s = true) (hs : ∀ c ∈ am_fl0, c.before args s = true) (hA : ∀ a : Nat, a < s.heap.size → ¬ A a) : ∃ a av, am_sf A 39 a av s :=
  am_s1 39 (ht _ (am_tb (am_r9 120 rfl))) (by decide) (hs _ (List.mem_of_getElem? (i := 648) (by decide +kernel))) (hs _ (List.mem_of_getElem? (i := 649) (by decide +kernel))) (hs _ (List.mem_of_getElem? (i := 650) (by decide +kernel))) (hs _ (List.mem_of_getElem? (i := 651) (by decide +kernel))) (fun j hj => match j, hj with
    | 0, _ => (hs _ (List.mem_of_getElem? (i := 652) (by decide +kernel)))
    | 1, _ => (hs _ (List.mem_of_getElem? (i := 653) (by decide +kernel)))
    | 2, _ => (hs _ (List.mem_of_getElem? (i := 654) (by decide +kernel)))
    | 3, _ => (hs _ (List.mem_of_getElem? (i := 655) (by decide +kernel)))
    | n + 4, h => absurd h (by show ¬ n + 4 < 4; omega)) hA
set_option maxRecDepth 20000 in
theorem am_s2_40 {args : Array Value} {s : State} {A : Nat → Prop} (ht : ∀ w ∈ lw_tbl, w.before args s = true) (hs : ∀ c ∈ am_fl0, c.before args s = true) (hA : ∀ a : Nat, a < s.heap.size → ¬ A a) : ∃ a av, am_sf A 40 a av s :=
  am_s1 40 (ht _ (am_tb (am_r9 121 rfl))) (by decide) (hs _ (List.mem_of_getElem? (i := 657) (by decide +kernel))) (hs _ (List.mem_of_getElem? (i := 658) (by decide +kernel))) (hs _ (List.mem_of_getElem? (i := 659) (by decide +kernel))) (hs _ (List.mem_of_getElem? (i := 660) (by decide +kernel))) (fun j hj => match j, hj with
    | 0, _ => (hs _ (List.mem_of_getElem? (i := 661) (by decide +kernel)))
    | 1, _ => (hs _ (List.mem_of_getElem? (i := 662) (by decide +kernel)))
    | 2, _ => (hs _ (List.mem_of_getElem? (i := 663) (by decide +kernel)))
    | 3, _ => (hs _ (List.mem_of_getElem? (i := 664) (by decide +kernel)))
    | 4, _ => (hs _ (List.mem_of_getElem? (i := 665) (by decide +kernel)))
    | 5, _ => (hs _ (List.mem_of_getElem? (i := 666) (by decide +kernel)))
    | n + 6, h => absurd h (by show ¬ n + 6 < 6; omega)) hA
set_option maxRecDepth 20000 in
theorem am_s2_41 {args : Array Value} {s : State} {A : Nat → Prop} (ht : ∀ w ∈ lw_tbl, w.before args s = true) (hs : ∀ c ∈ am_fl0, c.before args s = true) (hA : ∀ a : Nat, a < s.heap.size → ¬ A a) : ∃ a av, am_sf A 41 a av s :=
  am_s1 41 (ht _ (am_tb (am_r9 122 rfl))) (by decide) (hs _ (List.mem_of_getElem? (i := 668) (by decide +kernel))) (hs _ (List.mem_of_getElem? (i := 669) (by decide +kernel))) (hs _ (List.mem_of_getElem? (i := 670) (by decide +kernel))) (hs _ (List.mem_of_getElem? (i := 671) (by decide +kernel))) (fun j hj => match j, hj with
    | 0, _ => (hs _ (List.mem_of_getElem? (i := 672) (by decide +kernel)))
    | 1, _ => (hs _ (List.mem_of_getElem? (i := 673) (by decide +kernel)))
    | 2, _ => (hs _ (List.mem_of_getElem? (i := 674) (by decide +kernel)))
    | 3, _ => (hs _ (List.mem_of_getElem? (i := 675) (by decide +kernel)))
    | 4, _ => (hs _ (List.mem_of_getElem? (i := 676) (by decide +kernel)))
    | n + 5, h => absurd h (by show ¬ n + 5 < 5; omega)) hA
theorem am_s3 {args : Array Value} {s : State} {A : Nat → Prop} (ht : ∀ w ∈ lw_tbl, w.before args s = true) (hs : ∀ c ∈ am_fl0, c.before args s = true) (hA : ∀ a : Nat, a < s.heap.size → ¬ A a) (i : Nat) : ∃ q : Nat × Nat, i < 42 → am_sf A i q.1 q.2 s := by
  by_cases hi : i < 42
  · have h : ∃ a av, am_sf A i a av s := match i, hi with
      | 0, _ => am_s2_0 ht hs hA
      | 1, _ => am_s2_1 ht hs hA
      | 2, _ => am_s2_2 ht hs hA
      | 3, _ => am_s2_3 ht hs hA
      | 4, _ => am_s2_4 ht hs hA
      | 5, _ => am_s2_5 ht hs hA
      | 6, _ => am_s2_6 ht hs hA
      | 7, _ => am_s2_7 ht hs hA
      | 8, _ => am_s2_8 ht hs hA
      | 9, _ => am_s2_9 ht hs hA
      | 10, _ => am_s2_10 ht hs hA
      | 11, _ => am_s2_11 ht hs hA
      | 12, _ => am_s2_12 ht hs hA
      | 13, _ => am_s2_13 ht hs hA
      | 14, _ => am_s2_14 ht hs hA
      | 15, _ => am_s2_15 ht hs hA
      | 16, _ => am_s2_16 ht hs hA
      | 17, _ => am_s2_17 ht hs hA
      | 18, _ => am_s2_18 ht hs hA
      | 19, _ => am_s2_19 ht hs hA
      | 20, _ => am_s2_20 ht hs hA
      | 21, _ => am_s2_21 ht hs hA
      | 22, _ => am_s2_22 ht hs hA
      | 23, _ => am_s2_23 ht hs hA
      | 24, _ => am_s2_24 ht hs hA
      | 25, _ => am_s2_25 ht hs hA
      | 26, _ => am_s2_26 ht hs hA
      | 27, _ => am_s2_27 ht hs hA
      | 28, _ => am_s2_28 ht hs hA
      | 29, _ => am_s2_29 ht hs hA
      | 30, _ => am_s2_30 ht hs hA
      | 31, _ => am_s2_31 ht hs hA
      | 32, _ => am_s2_32 ht hs hA
      | 33, _ => am_s2_33 ht hs hA
      | 34, _ => am_s2_34 ht hs hA
      | 35, _ => am_s2_35 ht hs hA
      | 36, _ => am_s2_36 ht hs hA
      | 37, _ => am_s2_37 ht hs hA
      | 38, _ => am_s2_38 ht hs hA
      | 39, _ => am_s2_39 ht hs hA
      | 40, _ => am_s2_40 ht hs hA
      | 41, _ => am_s2_41 ht hs hA
      | n + 42, h => absurd h (by omega)
    obtain ⟨a, av, h⟩ := h
    exact ⟨(a, av), fun _ => h⟩
  · exact ⟨(0, 0), fun h => absurd h hi⟩
theorem am_st0 {args : Array Value} {s : State} {A : Nat → Prop} (ht : ∀ w ∈ lw_tbl, w.before args s = true) (hs : ∀ c ∈ am_fl0, c.before args s = true) (hA : ∀ a : Nat, a < s.heap.size → ¬ A a) : va_Z "java/lang/String" "COMPACT_STRINGS" "Z" (.int 1) A s s.heap := va_Zof (ht _ (am_tb (am_r2 231 rfl))) (ht _ (am_tb (am_r1 20 rfl))) (va_eqi (hs _ (List.mem_of_getElem? (i := 4) (by decide +kernel)))) hA
set_option maxRecDepth 20000 in
theorem am_st1 {args : Array Value} {s : State} {A : Nat → Prop} (ht : ∀ w ∈ lw_tbl, w.before args s = true) (hs : ∀ c ∈ am_fl0, c.before args s = true) (hA : ∀ a : Nat, a < s.heap.size → ¬ A a) : ∃ t, va_Z "WebFinder" "LEAST_SETTING" "[I" (.ref t) A s s.heap ∧ va_T .int t 4 (fun j => .int ((am_lm 0).getD j 0)) A s s.heap := by
  obtain ⟨t, h1, h2⟩ := va_Tof (args := args) (s := s) (tm := .static "WebFinder" "LEAST_SETTING" "[I") (ty := .int) (N := 4) (f := fun j => .int ((am_lm 0).getD j 0)) (A := A) (by decide) (hs _ (List.mem_of_getElem? (i := 218) (by decide +kernel))) (va_eqt (hs _ (List.mem_of_getElem? (i := 219) (by decide +kernel)))) (fun j hj => match j, hj with
    | 0, _ => va_eqt (hs _ (List.mem_of_getElem? (i := 220) (by decide +kernel)))
    | 1, _ => va_eqt (hs _ (List.mem_of_getElem? (i := 221) (by decide +kernel)))
    | 2, _ => va_eqt (hs _ (List.mem_of_getElem? (i := 222) (by decide +kernel)))
    | 3, _ => va_eqt (hs _ (List.mem_of_getElem? (i := 223) (by decide +kernel)))
    | n + 4, h => absurd h (by omega)) hA
  exact ⟨t, va_Zof (ht _ (am_tb (am_r6 41 rfl))) (ht _ (am_tb (am_r1 1 rfl))) h1 hA, h2⟩
set_option maxRecDepth 20000 in
theorem am_st2 {args : Array Value} {s : State} {A : Nat → Prop} (ht : ∀ w ∈ lw_tbl, w.before args s = true) (hs : ∀ c ∈ am_fl0, c.before args s = true) (hA : ∀ a : Nat, a < s.heap.size → ¬ A a) : ∃ t, va_Z "WebFinder" "MOST_SETTING" "[I" (.ref t) A s s.heap ∧ va_T .int t 4 (fun j => .int ((am_lm 1).getD j 0)) A s s.heap := by
  obtain ⟨t, h1, h2⟩ := va_Tof (args := args) (s := s) (tm := .static "WebFinder" "MOST_SETTING" "[I") (ty := .int) (N := 4) (f := fun j => .int ((am_lm 1).getD j 0)) (A := A) (by decide) (hs _ (List.mem_of_getElem? (i := 225) (by decide +kernel))) (va_eqt (hs _ (List.mem_of_getElem? (i := 226) (by decide +kernel)))) (fun j hj => match j, hj with
    | 0, _ => va_eqt (hs _ (List.mem_of_getElem? (i := 227) (by decide +kernel)))
    | 1, _ => va_eqt (hs _ (List.mem_of_getElem? (i := 228) (by decide +kernel)))
    | 2, _ => va_eqt (hs _ (List.mem_of_getElem? (i := 229) (by decide +kernel)))
    | 3, _ => va_eqt (hs _ (List.mem_of_getElem? (i := 230) (by decide +kernel)))
    | n + 4, h => absurd h (by omega)) hA
  exact ⟨t, va_Zof (ht _ (am_tb (am_r6 43 rfl))) (ht _ (am_tb (am_r1 1 rfl))) h1 hA, h2⟩
theorem am_fm0 {args : Array Value} {s : State} {A : Nat → Prop} (ht : ∀ w ∈ lw_tbl, w.before args s = true) (hs : ∀ c ∈ am_fl0, c.before args s = true) (hA : ∀ a : Nat, a < s.heap.size → ¬ A a) : va_Zq "jdk/internal/util/Preconditions" "SIOOBE_FORMATTER" "Ljava/util/function/BiFunction;" A s s.heap := va_Zqof (ht _ (am_tb (am_r3 34 rfl))) (ht _ (am_tb (am_r1 23 rfl))) (hs _ (List.mem_of_getElem? (i := 5) (by decide +kernel))) hA
theorem am_fm1 {args : Array Value} {s : State} {A : Nat → Prop} (ht : ∀ w ∈ lw_tbl, w.before args s = true) (hs : ∀ c ∈ am_fl0, c.before args s = true) (hA : ∀ a : Nat, a < s.heap.size → ¬ A a) : ∃ t z : Nat, (z = 0 ∧ va_Z "jdk/internal/util/Preconditions" "SIOOBE_FORMATTER" "Ljava/util/function/BiFunction;" .null A s s.heap) ∨ (z ≠ 0 ∧ va_Z "jdk/internal/util/Preconditions" "SIOOBE_FORMATTER" "Ljava/util/function/BiFunction;" (.ref t) A s s.heap) := by
  rcases am_fm0 ht hs hA with h | ⟨t, h⟩
  · exact ⟨0, 0, Or.inl ⟨rfl, h⟩⟩
  · exact ⟨t, 1, Or.inr ⟨by decide, h⟩⟩
theorem am_sq0 (X : am_X) {args : Array Value} {s : State} (ht : ∀ w ∈ lw_tbl, w.before args s = true) (hs : ∀ c ∈ am_fl0, c.before args s = true) (hA : ∀ a : Nat, a < s.heap.size → ¬ am_A X a) : am_sq X "UNASSIGNED_STACK" Bundle.steD s s.heap := by
  have hl : (Cond.laysStatic Bundle.tN "UNASSIGNED_STACK" Bundle.steD).before args s = true := ht _ (am_tb (am_r4 22 rfl))
  obtain ⟨c, k, i, f, a, cell, h1, h2, h3, h4, h5, h6⟩ := Cond.laysStatic_spec hl
  exact ⟨va_Zqof hl (ht _ (am_tb (am_r1 12 rfl))) (hs _ (List.mem_of_getElem? (i := 9) (by decide +kernel))) hA, c, k, i, f, a, cell, h1, h2, h3, h4, h5, h6.1, h6.2.1, h6.2.2.1, h6.2.2.2, hA a (Array.getElem?_eq_some_iff.mp h5).1⟩
theorem am_sq1 (X : am_X) {args : Array Value} {s : State} (ht : ∀ w ∈ lw_tbl, w.before args s = true) (hs : ∀ c ∈ am_fl0, c.before args s = true) (hA : ∀ a : Nat, a < s.heap.size → ¬ am_A X a) : am_sq X "SUPPRESSED_SENTINEL" Bundle.listD s s.heap := by
  have hl : (Cond.laysStatic Bundle.tN "SUPPRESSED_SENTINEL" Bundle.listD).before args s = true := ht _ (am_tb (am_r4 24 rfl))
  obtain ⟨c, k, i, f, a, cell, h1, h2, h3, h4, h5, h6⟩ := Cond.laysStatic_spec hl
  exact ⟨va_Zqof hl (ht _ (am_tb (am_r1 12 rfl))) (hs _ (List.mem_of_getElem? (i := 10) (by decide +kernel))) hA, c, k, i, f, a, cell, h1, h2, h3, h4, h5, h6.1, h6.2.1, h6.2.2.1, h6.2.2.2, hA a (Array.getElem?_eq_some_iff.mp h5).1⟩
theorem am_k0 {args : Array Value} {s : State} (ht : ∀ w ∈ am_gw, w.before args s = true) (c : Nat) : ∃ q : ClassId × (Nat → Nat), ∀ r : vw_C, am_cl[c]? = some r → u_Kn s r.1 r.2.1 r.2.2 q.1 q.2 := by
  by_cases hl : c < 15
  · have hex : ∃ r, am_cl[c]? = some r ∧ ∃ n, Cond.instantiable r.1 n ∈ am_gw := match c, hl with
      | 0, _ => ⟨_, rfl, 11, (am_t1 32 rfl rfl)⟩
      | 1, _ => ⟨_, rfl, 2, (am_t1 40 rfl rfl)⟩
      | 2, _ => ⟨_, rfl, 2, (am_t1 72 rfl rfl)⟩
      | 3, _ => ⟨_, rfl, 6, (am_t1 90 rfl rfl)⟩
      | 4, _ => ⟨_, rfl, 3, (am_t1 96 rfl rfl)⟩
      | 5, _ => ⟨_, rfl, 9, (am_t1 127 rfl rfl)⟩
      | 6, _ => ⟨_, rfl, 4, (am_t1 190 rfl rfl)⟩
      | 7, _ => ⟨_, rfl, 18, (am_t1 216 rfl rfl)⟩
      | 8, _ => ⟨_, rfl, 15, (am_t2 54 rfl rfl)⟩
      | 9, _ => ⟨_, rfl, 4, (am_t2 123 rfl rfl)⟩
      | 10, _ => ⟨_, rfl, 3, (am_t3 220 rfl rfl)⟩
      | 11, _ => ⟨_, rfl, 3, (am_t5 43 rfl rfl)⟩
      | 12, _ => ⟨_, rfl, 90, (am_t7 104 rfl rfl)⟩
      | 13, _ => ⟨_, rfl, 6, (am_t7 62 rfl rfl)⟩
      | 14, _ => ⟨_, rfl, 6, (am_t3 236 rfl rfl)⟩
      | n + 15, h => absurd h (by omega)
    obtain ⟨r, hr, n, hn⟩ := hex
    obtain ⟨cC, iS, h⟩ := u_known (ws := am_gw) (args := args) ht (am_cls c r hr).1 (ht _ hn)
    exact ⟨(cC, iS), fun r' hr' => by cases hr.symm.trans hr'; exact h⟩
  · exact ⟨(0, fun _ => 0), fun r hr => absurd (List.getElem?_eq_some_iff.mp hr).1 hl⟩
theorem am_arr {args : Array Value} {s : State} {ty : FieldType} (h : (Cond.arrayClass ty).before args s = true) : ∃ cA : ClassId, ArrOfT s cA ty ∧ s.vm.findClass ("[" ++ ty.toString) = some cA := by
  obtain ⟨c, k, comp, h1, h2, h3⟩ := Cond.arrayClass_spec h
  exact ⟨c, fun N z => ⟨(fun k h => by cases h), k, h2, comp, h3⟩, h1⟩
theorem am_arrO {s : State} {C : String} (h : va_AO C s) : ∃ cA : ClassId, ArrOfT s cA (.object C) ∧ va_RA s cA (.object C) := by
  obtain ⟨comp, c, k, h1, h2, h3, h4, h5⟩ := Cond.arrayOver_spec h
  exact ⟨c, fun N z => ⟨(fun k h => by cases h), k, h3, comp, h4⟩, k, comp, h3, h4, h1, h5⟩
theorem am_arrA {s : State} (h : am_AA s) : ∃ cA : ClassId, ArrOfT s cA (.array .int) ∧ va_RA s cA (.array .int) := by
  obtain ⟨comp, c, k, h1, h2, h3, h4, h5⟩ := arrayOverA_spec h
  exact ⟨c, fun N z => ⟨(fun k h => by cases h), k, h3, comp, h4⟩, h5⟩
/-- at the law's entry all that is carried holds -/
theorem am_start (l : Launch) {s : State} {b L : Nat} {xs : Nat → Int32} (ht : ∀ w ∈ lw_tbl, w.before #[Value.ref b] s = true) (hgv : (Jvm.Cond.and given_1 narrow_1).before #[Value.ref b] s = true) (hX : va_X b L xs s s.heap) (hb : b < s.heap.size) :
    ∃ (D : va_G) (dA : Nat → ClassId) (E : Nat → Nat), E 300 = b ∧ am_K (l, D, dA, s.heap.size, E, L, xs) s := by
  have hs := flat_of_before _ hgv
  have hA : ∀ a : Nat, a < s.heap.size → ¬ s.heap.size ≤ a := fun a h1 h2 => by omega
  have hg : ∀ w ∈ am_gw, w.before #[Value.ref b] s = true := fun w hw => ht w (List.mem_filter.mp hw).1
  obtain ⟨f, hf⟩ := Classical.axiomOfChoice (am_s3 (A := fun q => s.heap.size ≤ q) ht hs hA)
  obtain ⟨k, hk⟩ := Classical.axiomOfChoice (am_k0 hg)
  obtain ⟨t0, l0, l1⟩ := am_st1 (A := fun q => s.heap.size ≤ q) ht hs hA
  obtain ⟨tf, zf, hfm⟩ := am_fm1 (A := fun q => s.heap.size ≤ q) ht hs hA
  obtain ⟨t1, m0, m1⟩ := am_st2 (A := fun q => s.heap.size ≤ q) ht hs hA
  have a4 : va_AO "WebFinder$Page" s := va_AO.of (ht _ (am_tb (am_r1 196 rfl)))
  have a5 : va_AO "WebFinder$SiteRules" s := va_AO.of (ht _ (am_tb (am_r1 198 rfl)))
  have a6 : am_AA s := ht _ (am_tb (am_r1 224 rfl))
  obtain ⟨c0, x0, y0⟩ := am_arr (hg _ am_wb)
  obtain ⟨c1, x1, y1⟩ := am_arr (hg _ am_wi)
  obtain ⟨c2, x2, y2⟩ := am_arr (hg _ am_wl)
  obtain ⟨c3, x3, y3⟩ := am_arr (hg _ am_wz)
  obtain ⟨c4, x4, y4⟩ := am_arrO a4
  obtain ⟨c5, x5, y5⟩ := am_arrO a5
  obtain ⟨c6, x6, y6⟩ := am_arrA a6
  refine ⟨(fun c => (k c).1, fun c => (k c).2), fun t => ([c0, c1, c2, c3, c4, c5, c6] : List Nat).getD t 0, fun i => if i < 42 then (f i).1 else if i < 200 then (f (i - 100)).2 else if i = 200 then t0 else if i = 201 then t1 else if i = 400 then tf else if i = 401 then zf else b, rfl, ?_⟩
  refine ⟨⟨fun c q hq => hk c q hq, fun i q hq => ?_⟩, fun w hw => ?_, ⟨a4, a5, a6⟩, fun i hi => ?_, ⟨am_st0 ht hs hA, hfm⟩, ⟨l0, l1⟩, ⟨m0, m1⟩, ⟨hX, hb, hb⟩, am_sq0 _ ht hs hA, am_sq1 _ ht hs hA⟩
  · have hl : i < 7 := (List.getElem?_eq_some_iff.mp hq).1
    rcases (by omega : i = 0 ∨ i = 1 ∨ i = 2 ∨ i = 3 ∨ i = 4 ∨ i = 5 ∨ i = 6) with rfl | rfl | rfl | rfl | rfl | rfl | rfl <;> cases hq
    · exact ⟨x0, y0⟩
    · exact ⟨x1, y1⟩
    · exact ⟨x2, y2⟩
    · exact ⟨x3, y3⟩
    · exact ⟨x4, y4⟩
    · exact ⟨x5, y5⟩
    · exact ⟨x6, y6⟩
  · have h1 := List.mem_filter.mp hw
    have h2 := ht w h1.1
    have h3 := h1.2
    cases w <;> first | (simp [am_isn] at h3; done) | exact va_Nw.of rfl h2
  · obtain ⟨g1, g2⟩ := hf i hi
    refine ⟨?_, ?_⟩
    · show vk_R _ _ _ (if i < 42 then (f i).1 else _) s
      rw [if_pos hi]
      exact g1
    · show va_O _ (if i < 42 then (f i).1 else _) _ s s.heap ∧ va_OF _ _ _ _ (if i < 42 then (f i).1 else _) _ s s.heap ∧ va_OF _ _ _ (.ref (if 100 + i < 42 then _ else if 100 + i < 200 then (f (100 + i - 100)).2 else _)) (if i < 42 then (f i).1 else _) _ s s.heap ∧ va_T _ (if 100 + i < 42 then _ else if 100 + i < 200 then (f (100 + i - 100)).2 else _) _ _ _ s s.heap
      rw [if_pos hi, if_neg (by omega), if_pos (by omega), show 100 + i - 100 = i by omega]
      exact g2
