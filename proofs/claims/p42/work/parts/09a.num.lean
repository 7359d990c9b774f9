/-! numbers of many digits: the value of the first n of them -/
def vS (d : Nat → Int) : Nat → Int
  | 0 => 0
  | n + 1 => vS d n + d n * 4294967296 ^ n
theorem vB_pos (n : Nat) : (0 : Int) < 4294967296 ^ n := by
  induction n with
  | zero => decide
  | succ n ih => rw [Int.pow_succ]; omega
theorem vS_congr {d e : Nat → Int} {n : Nat} (h : ∀ j, j < n → d j = e j) : vS d n = vS e n := by
  induction n with
  | zero => rfl
  | succ n ih => rw [vS, vS, ih (fun j hj => h j (by omega)), h n (by omega)]
theorem vS_nn {d : Nat → Int} {n : Nat} (h : ∀ j, j < n → 0 ≤ d j) : 0 ≤ vS d n := by
  induction n with
  | zero => exact Int.le_refl 0
  | succ n ih =>
    rw [vS]
    exact Int.add_nonneg (ih (fun j hj => h j (by omega))) (Int.mul_nonneg (h n (by omega)) (Int.le_of_lt (vB_pos n)))
theorem vB_le {i j : Nat} (h : i ≤ j) : (4294967296 : Int) ^ i ≤ 4294967296 ^ j := by
  induction j with
  | zero => rw [Nat.le_zero.mp h]; exact Int.le_refl _
  | succ j ih =>
    rcases Nat.lt_or_eq_of_le h with h1 | h1
    · have h2 := ih (by omega)
      have h3 := vB_pos j
      rw [Int.pow_succ]
      omega
    · rw [h1]; exact Int.le_refl _
theorem vS_lt {d : Nat → Int} {n : Nat} (h : ∀ j, j < n → 0 ≤ d j ∧ d j < 4294967296) : vS d n < 4294967296 ^ n := by
  induction n with
  | zero => exact (by decide : (0 : Int) < 4294967296 ^ 0)
  | succ n ih =>
    have h1 := ih (fun j hj => h j (by omega))
    have h2 := (h n (by omega)).2
    have h3 : (d n + 1) * (4294967296 : Int) ^ n ≤ 4294967296 * 4294967296 ^ n := Int.mul_le_mul_of_nonneg_right (by omega) (Int.le_of_lt (vB_pos n))
    rw [Int.add_mul, Int.one_mul] at h3
    rw [vS, Int.pow_succ, Int.mul_comm (4294967296 ^ n) 4294967296]
    omega
theorem vS_tail {d : Nat → Int} {u n : Nat} (hu : u ≤ n) (h : ∀ j, u ≤ j → j < n → d j = 0) : vS d n = vS d u := by
  induction n with
  | zero => rw [show u = 0 by omega]
  | succ n ih =>
    rcases Nat.lt_or_eq_of_le hu with h1 | h1
    · rw [vS, h n (by omega) (by omega), Int.zero_mul, Int.add_zero]
      exact ih (by omega) (fun j hj hj2 => h j hj (by omega))
    · rw [h1]
theorem vS_zero {d : Nat → Int} {n : Nat} (h : ∀ j, j < n → d j = 0) : vS d n = 0 := (vS_tail (Nat.zero_le n) (fun j _ hj => h j hj)).trans rfl
theorem vS_top {d : Nat → Int} {u : Nat} (hu : 0 < u) (h : ∀ j, j < u → 0 ≤ d j) (ht : d (u - 1) ≠ 0) : (4294967296 : Int) ^ (u - 1) ≤ vS d u := by
  obtain ⟨n, rfl⟩ : ∃ n, u = n + 1 := ⟨u - 1, by omega⟩
  rw [Nat.add_sub_cancel] at ht ⊢
  have h1 := h n (by omega)
  have h2 := vS_nn (n := n) (fun j hj => h j (by omega))
  have h3 : 1 * (4294967296 : Int) ^ n ≤ d n * 4294967296 ^ n := Int.mul_le_mul_of_nonneg_right (by omega) (Int.le_of_lt (vB_pos n))
  rw [Int.one_mul] at h3
  rw [vS]
  omega
/-- numbers with the same digits but from the top on -/
theorem vS_le_of_top {d e : Nat → Int} {n m : Nat} (hnm : n < m) (hd : ∀ j, j < m → 0 ≤ d j ∧ d j < 4294967296) (he : ∀ j, j < m → 0 ≤ e j ∧ e j < 4294967296) (hs : ∀ j, n < j → j < m → d j = e j) (hl : d n < e n) : vS d m < vS e m := by
  have key : ∀ k, n + 1 + k ≤ m → vS d (n + 1 + k) < vS e (n + 1 + k) := by
    intro k
    induction k with
    | zero =>
      intro hk
      have h1 := vS_lt (n := n) (fun j hj => hd j (by omega))
      have h2 := vS_nn (n := n) (fun j hj => (he j (by omega)).1)
      have h3 : (d n + 1) * (4294967296 : Int) ^ n ≤ e n * 4294967296 ^ n := Int.mul_le_mul_of_nonneg_right (by omega) (Int.le_of_lt (vB_pos n))
      rw [Int.add_mul, Int.one_mul] at h3
      show vS d n + d n * 4294967296 ^ n < vS e n + e n * 4294967296 ^ n
      omega
    | succ k ih =>
      intro hk
      have h1 := ih (by omega)
      show vS d (n + 1 + k) + d (n + 1 + k) * 4294967296 ^ (n + 1 + k) < vS e (n + 1 + k) + e (n + 1 + k) * 4294967296 ^ (n + 1 + k)
      rw [hs (n + 1 + k) (by omega) (by omega)]
      omega
  have := key (m - (n + 1)) (by omega)
  rwa [show n + 1 + (m - (n + 1)) = m by omega] at this
/-- one more digit, carried -/
theorem vS_add_step {d e x : Nat → Int} {n : Nat} {c c2 : Int} (h : vS x n + c * 4294967296 ^ n = vS d n + vS e n) (hx : x n + c2 * 4294967296 = d n + e n + c) : vS x (n + 1) + c2 * 4294967296 ^ (n + 1) = vS d (n + 1) + vS e (n + 1) := by
  rw [vS, vS, vS, Int.pow_succ]
  have h1 : (x n + c2 * 4294967296) * 4294967296 ^ n = (d n + e n + c) * 4294967296 ^ n := by rw [hx]
  rw [Int.add_mul, Int.add_mul, Int.add_mul, Int.mul_assoc, Int.mul_comm 4294967296 ((4294967296 : Int) ^ n)] at h1
  omega
theorem vS_sub_step {d e x : Nat → Int} {n : Nat} {c c2 : Int} (h : vS x n + c * 4294967296 ^ n = vS d n - vS e n) (hx : x n + c2 * 4294967296 = d n - e n + c) : vS x (n + 1) + c2 * 4294967296 ^ (n + 1) = vS d (n + 1) - vS e (n + 1) := by
  rw [vS, vS, vS, Int.pow_succ]
  have h1 : (x n + c2 * 4294967296) * 4294967296 ^ n = (d n - e n + c) * 4294967296 ^ n := by rw [hx]
  rw [Int.add_mul, Int.add_mul, Int.sub_mul, Int.mul_assoc, Int.mul_comm 4294967296 ((4294967296 : Int) ^ n)] at h1
  omega
theorem vS_mul_step {d x : Nat → Int} {n : Nat} {c c2 f : Int} (h : vS x n + c * 4294967296 ^ n = vS d n * f) (hx : x n + c2 * 4294967296 = d n * f + c) : vS x (n + 1) + c2 * 4294967296 ^ (n + 1) = vS d (n + 1) * f := by
  rw [vS, vS, Int.pow_succ, Int.add_mul]
  have h1 : (x n + c2 * 4294967296) * 4294967296 ^ n = (d n * f + c) * 4294967296 ^ n := by rw [hx]
  rw [Int.add_mul, Int.add_mul, Int.mul_assoc c2, Int.mul_comm 4294967296 ((4294967296 : Int) ^ n), Int.mul_assoc (d n), Int.mul_comm f, ← Int.mul_assoc (d n)] at h1
  omega
/-- one digit changed -/
theorem vS_up {d e : Nat → Int} {k : Nat} (h : ∀ j, j ≠ k → e j = d j) : ∀ n, vS e n = if k < n then vS d n + (e k - d k) * 4294967296 ^ k else vS d n := by
  intro n
  induction n with
  | zero => rfl
  | succ n ih =>
    rw [vS, vS, ih]
    by_cases h1 : k < n
    · rw [if_pos h1, if_pos (Nat.lt_succ_of_lt h1), h n (by omega)]
      omega
    · rw [if_neg h1]
      by_cases h2 : n = k
      · subst h2
        rw [if_pos (Nat.lt_succ_self _), Int.sub_mul]
        omega
      · rw [if_neg (by omega), h n h2]
theorem vS_quo_step {X X2 e : Nat → Int} {k M : Nat} {r r2 q dv V : Int} (hk : k < M) (hX : ∀ j, j ≠ k → X2 j = X j) (hq : X2 k = q) (h : V = vS e (k + 1) + r * 4294967296 ^ (k + 1) + (vS X M - vS X (k + 1)) * dv) (hs : r * 4294967296 + e k = q * dv + r2) :
    V = vS e k + r2 * 4294967296 ^ k + (vS X2 M - vS X2 k) * dv := by
  have h1 : vS X2 M = vS X M + (q - X k) * 4294967296 ^ k := by rw [vS_up hX M, if_pos hk, hq]
  have h2 : vS X2 k = vS X k := by rw [vS_up hX k, if_neg (Nat.lt_irrefl k)]
  have h3 : vS X (k + 1) = vS X k + X k * 4294967296 ^ k := rfl
  have h4 : vS e (k + 1) = vS e k + e k * 4294967296 ^ k := rfl
  have h5 : r * (4294967296 : Int) ^ (k + 1) = r * 4294967296 * 4294967296 ^ k := by rw [Int.pow_succ, Int.mul_comm (4294967296 ^ k) 4294967296, Int.mul_assoc]
  have h6 : r * 4294967296 * (4294967296 : Int) ^ k + e k * 4294967296 ^ k = (q * dv + r2) * 4294967296 ^ k := by rw [← hs, Int.add_mul]
  have h7 : (vS X M - vS X (k + 1)) * dv = (vS X2 M - vS X2 k) * dv - q * 4294967296 ^ k * dv := by
    rw [← Int.sub_mul]
    congr 1
    rw [h1, h2, h3, Int.sub_mul]
    omega
  have h8 : q * (4294967296 : Int) ^ k * dv = q * dv * 4294967296 ^ k := by rw [Int.mul_assoc, Int.mul_comm (4294967296 ^ k) dv, ← Int.mul_assoc]
  rw [Int.add_mul] at h6
  rw [h, h4, h5, h7, h8]
  omega
/-- the digits above a number's size are 0 -/
theorem vS_small {d : Nat → Int} {u : Nat} : ∀ n, (∀ j, j < n → 0 ≤ d j) → vS d n < 4294967296 ^ u → ∀ j, u ≤ j → j < n → d j = 0 := by
  intro n
  induction n with
  | zero => intro _ _ j _ hj; exact absurd hj (Nat.not_lt_zero _)
  | succ n ih =>
    intro hd hv j hu hj
    have h0 := vS_nn (n := n) (fun i hi => hd i (by omega))
    have h1 : 0 ≤ d n * 4294967296 ^ n := Int.mul_nonneg (hd n (by omega)) (Int.le_of_lt (vB_pos n))
    rw [vS] at hv
    by_cases hjn : j = n
    · subst hjn
      rcases Int.lt_or_le 0 (d j) with h2 | h2
      · exfalso
        have h3 : 1 * (4294967296 : Int) ^ j ≤ d j * 4294967296 ^ j := Int.mul_le_mul_of_nonneg_right (by omega) (Int.le_of_lt (vB_pos j))
        have h4 : (4294967296 : Int) ^ u ≤ 4294967296 ^ j := vB_le hu
        omega
      · have := hd j (by omega)
        omega
    · exact ih (fun i hi => hd i (by omega)) (by omega) j hu (by omega)
theorem vS_16 (d : Nat → Int) : ∃ r, vS d 16 = d 0 + d 1 * 4294967296 + r * 18446744073709551616 := by
  refine ⟨d 2 + d 3 * 4294967296 + d 4 * 4294967296 ^ 2 + d 5 * 4294967296 ^ 3 + d 6 * 4294967296 ^ 4 + d 7 * 4294967296 ^ 5 + d 8 * 4294967296 ^ 6 + d 9 * 4294967296 ^ 7 + d 10 * 4294967296 ^ 8 + d 11 * 4294967296 ^ 9 + d 12 * 4294967296 ^ 10 + d 13 * 4294967296 ^ 11 + d 14 * 4294967296 ^ 12 + d 15 * 4294967296 ^ 13, ?_⟩
  simp only [vS]
  omega
/-- what is carried behind the last digit is 0, as the whole is no greater than what the digits hold -/
theorem vS_carry {X : Nat → Int} {V c : Int} (hX : 0 ≤ vS X 16) (hc : 0 ≤ c) (h : vS X 16 + c * 4294967296 ^ 16 = V) (hV : V < 4294967296 ^ 16) : c = 0 := by
  rcases Int.lt_or_le 0 c with h2 | h2
  · exfalso
    have h3 : 1 * (4294967296 : Int) ^ 16 ≤ c * 4294967296 ^ 16 := Int.mul_le_mul_of_nonneg_right (by omega) (Int.le_of_lt (vB_pos 16))
    omega
  · omega
