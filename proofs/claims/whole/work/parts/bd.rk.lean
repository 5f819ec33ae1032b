/-! ===== ranks, and that they stay small ===== -/
def acR (L : Nat → List Nat) (r : Nat → Nat) (n : Nat) : Nat → Nat → Nat
  | 0, _ => 150000 / n
  | d + 1, e => acR L r n d e + if e ∈ L d then gvR (r d) (L d) else 0
/-- the ranks after so many rounds -/
def rkS (L : Nat → List Nat) (n : Nat) : Nat → Nat → Nat
  | 0, _ => 1000000 / n
  | k + 1, e => acR L (rkS L n k) n n e
def smN (f : Nat → Nat) : Nat → Nat
  | 0 => 0
  | n + 1 => smN f n + f n
section RKS
variable {f g r : Nat → Nat} {n m c a d k e : Nat} {L : Nat → List Nat} {l : List Nat}
theorem smN_s : smN f (n + 1) = smN f n + f n := rfl
theorem smN_add : ∀ n, smN (fun e => f e + g e) n = smN f n + smN g n
  | 0 => rfl
  | n + 1 => by
    rw [smN_s, smN_s, smN_s, smN_add n]
    omega
theorem smN_c : ∀ n, smN (fun _ => c) n = n * c
  | 0 => (Nat.zero_mul c).symm
  | n + 1 => by rw [smN_s, smN_c n, Nat.succ_mul]
theorem smN_le (he : e < n) : f e ≤ smN f n := by
  induction n with
  | zero => exact absurd he (Nat.not_lt_zero e)
  | succ n ih =>
    rw [smN_s]
    by_cases q : e = n
    · rw [q]; exact Nat.le_add_left _ _
    · have := ih (by omega)
      omega
theorem smN_cg (h : ∀ e, e < n → f e = g e) : smN f n = smN g n := by
  induction n with
  | zero => rfl
  | succ n ih =>
    rw [smN_s, smN_s, ih (fun e he => h e (by omega)), h n (Nat.lt_succ_self n)]
theorem smN_one : ∀ n, a < n → smN (fun e => if e = a then c else 0) n = c
  | 0, h => absurd h (Nat.not_lt_zero a)
  | n + 1, h => by
    rw [smN_s]
    by_cases q : n = a
    · rw [if_pos q]
      have h9 : smN (fun e => if e = a then c else 0) n = smN (fun _ => 0) n := smN_cg (fun e he => if_neg (by omega))
      rw [h9, smN_c, Nat.mul_zero, Nat.zero_add]
    · rw [if_neg q, Nat.add_zero]
      exact smN_one n (by omega)
theorem smN_mem : ∀ l : List Nat, l.Nodup → (∀ x, x ∈ l → x < n) → smN (fun e => if e ∈ l then c else 0) n = l.length * c
  | [], _, _ => by
    have h9 : smN (fun e => if e ∈ ([] : List Nat) then c else 0) n = smN (fun _ => 0) n := smN_cg (fun e _ => if_neg List.not_mem_nil)
    rw [h9, smN_c, Nat.mul_zero]
    exact (Nat.zero_mul c).symm
  | a :: l, hn, hx => by
    have h1 := List.nodup_cons.mp hn
    have h9 : smN (fun e => if e ∈ a :: l then c else 0) n = smN (fun e => (if e = a then c else 0) + (if e ∈ l then c else 0)) n := smN_cg (fun e _ => by
      by_cases q : e = a
      · rw [if_pos (by rw [q]; exact List.mem_cons_self ..), if_pos q, if_neg (by rw [q]; exact h1.1)]; rfl
      · rw [if_neg q, Nat.zero_add]
        by_cases q2 : e ∈ l
        · rw [if_pos (List.mem_cons_of_mem _ q2), if_pos q2]
        · rw [if_neg (fun h8 => (List.mem_cons.mp h8).elim q q2), if_neg q2])
    rw [h9, smN_add, smN_one n (hx a (List.mem_cons_self ..)), smN_mem l h1.2 (fun x h8 => hx x (List.mem_cons_of_mem _ h8)), List.length_cons, Nat.succ_mul]
    omega
theorem gv_le : l.length * gvR c l ≤ 85 * c / 100 := by
  unfold gvR
  exact Nat.mul_div_le _ _
theorem acR_sm (hL : ∀ d, d < n → (L d).Nodup ∧ ∀ x, x ∈ L d → x < n) : ∀ m, m ≤ n → smN (acR L r n m) n ≤ n * (150000 / n) + smN (fun d => 85 * r d / 100) m
  | 0, _ => by
    have h9 : smN (acR L r n 0) n = n * (150000 / n) := smN_c n
    rw [h9]
    exact Nat.le_add_right _ _
  | m + 1, h => by
    have ih := acR_sm hL m (by omega)
    have h9 : smN (acR L r n (m + 1)) n = smN (acR L r n m) n + smN (fun e => if e ∈ L m then gvR (r m) (L m) else 0) n := smN_add n
    rw [h9, smN_mem (L m) (hL m (by omega)).1 (hL m (by omega)).2, smN_s]
    have := gv_le (l := L m) (c := r m)
    omega
theorem sm85 : ∀ m, 100 * smN (fun d => 85 * r d / 100) m ≤ 85 * smN r m
  | 0 => Nat.le_refl _
  | m + 1 => by
    have ih := sm85 m
    rw [smN_s, smN_s]
    omega
theorem smN_mono (h : m ≤ n) : smN f m ≤ smN f n := by
  induction n with
  | zero => rw [Nat.le_zero.mp h]; exact Nat.le_refl _
  | succ n ih =>
    by_cases q : m = n + 1
    · rw [q]; exact Nat.le_refl _
    · rw [smN_s]
      have := ih (by omega)
      omega
theorem acR_6 (hL : ∀ d, d < n → (L d).Nodup ∧ ∀ x, x ∈ L d → x < n) (hr : smN r n ≤ 1000000) (hm : m ≤ n) : smN (acR L r n m) n ≤ 1000000 := by
  have h1 := acR_sm (r := r) hL m hm
  have h2 := sm85 (r := r) m
  have h3 := smN_mono (f := r) hm
  have h4 : n * (150000 / n) ≤ 150000 := Nat.mul_div_le _ _
  omega
theorem rkS_6 (hL : ∀ d, d < n → (L d).Nodup ∧ ∀ x, x ∈ L d → x < n) : ∀ k, smN (rkS L n k) n ≤ 1000000
  | 0 => by
    have h9 : smN (rkS L n 0) n = n * (1000000 / n) := smN_c n
    rw [h9]
    exact Nat.mul_div_le _ _
  | k + 1 => acR_6 hL (rkS_6 hL k) (Nat.le_refl _)
theorem rkS_le (hL : ∀ d, d < n → (L d).Nodup ∧ ∀ x, x ∈ L d → x < n) (he : e < n) : rkS L n k e ≤ 1000000 := Nat.le_trans (smN_le he) (rkS_6 hL k)
end RKS
