/-! what holds of the class between two calls, after t ticks and k calls -/
theorem zShp.wa {κ : Nat → Nat} {g : Nat → Nat → Value} {P c b a q : Nat → Nat} {n B : Nat} (h : zShp κ g P c b a q n) (hw : zWc g c n B) : zWa g (P 1) B := fun j r hj hr => by
  by_cases hn : j < n
  · obtain ⟨-, -, h3, -⟩ := h.co hn
    have e : c j = r := Value.ref.inj (h3.symm.trans hr)
    rw [← e]
    exact hw j hn
  · have h9 := h.2.2.2.2.2.1 j (by omega) hj
    rw [h9] at hr
    cases hr
def zWi (gk : Nat → Nat → Value) (c : Nat → Nat) (n B i : Nat) : Prop := ∀ j, j < n → zWo gk (c j) (if j < i then B + 1 else B)
theorem zWi.skip {gk : Nat → Nat → Value} {c : Nat → Nat} {n B i : Nat} (h : zWi gk c n B i) (hi : n ≤ i) : zWi gk c n B (i + 1) := fun j hj => by
  have h1 := h j hj
  rw [if_pos (by omega)] at h1
  rw [if_pos (by omega)]
  exact h1
theorem zWi.step {gk g2 : Nat → Nat → Value} {c : Nat → Nat} {n B i : Nat} (h : zWi gk c n B i) (hi : i < n) (hc : ∀ i j, i < n → j < n → i ≠ j → c i ≠ c j) (ho : ∀ b j, (b ≠ c i ∨ j ≠ 19) → g2 b j = gk b j) (hs : g2 (c i) 19 = gk (c i) 19 ∨ ∃ w : Int32, gk (c i) 19 = .int w ∧ g2 (c i) 19 = .int (w + 1)) : zWi g2 c n B (i + 1) := fun j hj => by
  by_cases hji : j = i
  · subst hji
    obtain ⟨w, h1, h2⟩ := h j hj
    rw [if_neg (Nat.lt_irrefl j)] at h2
    rw [if_pos (Nat.lt_succ_self j)]
    rcases hs with hs | ⟨w2, e1, e2⟩
    · exact ⟨w, hs.trans h1, by omega⟩
    · have e3 : w2 = nI w := Value.int.inj (e1.symm.trans h1)
      exact ⟨w + 1, by rw [e2, e3, nI_1], by omega⟩
  · have h1 := (h j hj).eq (ho (c j) 19 (Or.inl (hc j i hj hi hji)))
    by_cases h2 : j < i
    · rw [if_pos h2] at h1
      rw [if_pos (by omega)]
      exact h1
    · rw [if_neg h2] at h1
      rw [if_neg (by omega)]
      exact h1
abbrev zTt (g : Nat → Nat → Value) (q : Nat → Nat) (n : Nat) : Int := zV g (q 0) + zHs g q n
def zLg (g : Nat → Nat → Value) (P : Nat → Nat) (A O W B E T : Int) (bt : Nat) : Prop :=
  g (P 3) 2 = .long (Int64.ofInt A) ∧ g (P 0) 9 = .long (Int64.ofInt O) ∧ g (P 4) 6 = .long (Int64.ofInt W) ∧ g (P 4) 7 = .long (Int64.ofInt B) ∧ g (P 4) 8 = .long (Int64.ofInt E) ∧ g (P 4) 9 = .long (Int64.ofInt T) ∧ g (P 4) 1 = .int (nI bt) ∧ bt ≤ 5000 ∧ T = W + B + E
def zSd42 (κ : Nat → Nat) (g : Nat → Nat → Value) (P c b a q : Nat → Nat) (n t k : Nat) : Prop :=
  zShp κ g P c b a q n ∧ zHt g q n ∧ zV g (q 2) = 20 ∧ g (P 0) 8 = .int (nI t) ∧ t ≤ 9999 ∧ zWc g c n (9999 + t) ∧ (∃ A O W B E T bt, zLg g P A O W B E T bt ∧ zTt g q n + A = 4000 + 400 * (n : Int) + T + O) ∧ (zTt g q n + 100000) * 100 ^ t ≤ ((k : Int) + 1) * 1000000 * 103 ^ t
theorem zTt.nn {κ : Nat → Nat} {g : Nat → Nat → Value} {P c b a q : Nat → Nat} {n : Nat} (h : zShp κ g P c b a q n) : 0 ≤ zV g (q 0) ∧ 0 ≤ zHs g q n := ⟨h.af.nn (by omega), zSm_nn (fun j hj => h.af.nn (by omega))⟩
theorem zBig : 513000000 * 103 ^ 9999 < 4294967296 ^ 15 * 1048576 * 100 ^ 9999 := by decide +kernel
theorem zBigT {t : Nat} (ht : t ≤ 9999) : 513000000 * 103 ^ t < 4294967296 ^ 15 * 1048576 * 100 ^ t := by
  have e : ∃ d, t + d = 9999 := ⟨9999 - t, by omega⟩
  obtain ⟨d, hd⟩ := e
  refine Nat.lt_of_mul_lt_mul_right (a := 103 ^ d) ?_
  have h1 := zBig
  rw [← hd, Nat.pow_add, Nat.pow_add, ← Nat.mul_assoc, ← Nat.mul_assoc] at h1
  exact Nat.lt_of_lt_of_le h1 (Nat.mul_le_mul_left _ (Nat.pow_le_pow_left (by decide) d))
/-- so no sum comes near 2 to the 512 -/
theorem zBnd {S : Int} {t k : Nat} (ht : t ≤ 9999) (hk : k ≤ 512) (hS : 0 ≤ S) (h : (S + 100000) * 100 ^ t ≤ ((k : Int) + 1) * 1000000 * 103 ^ t) : S < 4294967296 ^ 15 * 1048576 := by
  rcases Int.lt_or_le S (4294967296 ^ 15 * 1048576) with h1 | h1
  · exact h1
  · exfalso
    have h2 : ((513000000 * 103 ^ t : Nat) : Int) < ((4294967296 ^ 15 * 1048576 * 100 ^ t : Nat) : Int) := Int.ofNat_lt.mpr (zBigT ht)
    rw [Int.natCast_mul, Int.natCast_mul, Int.natCast_pow, Int.natCast_pow] at h2
    have p1 : (0 : Int) ≤ 100 ^ t := Int.le_of_lt (Int.pow_pos (by decide))
    have p2 : (0 : Int) ≤ 103 ^ t := Int.le_of_lt (Int.pow_pos (by decide))
    have h3 : (4294967296 ^ 15 * 1048576 : Int) * 100 ^ t ≤ (S + 100000) * 100 ^ t := Int.mul_le_mul_of_nonneg_right (by omega) p1
    have h4 : ((k : Int) + 1) * 1000000 * 103 ^ t ≤ 513000000 * 103 ^ t := Int.mul_le_mul_of_nonneg_right (by omega) p2
    have h5 := Int.lt_of_lt_of_le h2 (show ((4294967296 ^ 15 * 1048576 : Nat) : Int) * ((100 : Nat) : Int) ^ t ≤ ((513000000 : Nat) : Int) * ((103 : Nat) : Int) ^ t from Int.le_trans h3 (Int.le_trans h h4))
    exact Int.lt_irrefl _ h5
theorem zSd42.bnd {κ : Nat → Nat} {g : Nat → Nat → Value} {P c b a q : Nat → Nat} {n t k : Nat} (h : zSd42 κ g P c b a q n t k) (hk : k ≤ 512) : zTt g q n < 4294967296 ^ 15 * 1048576 := by
  obtain ⟨h1, -, -, -, h5, -, -, h8⟩ := h
  have h9 := zTt.nn h1
  exact zBnd h5 hk (show 0 ≤ zV g (q 0) + zHs g q n by omega) h8
/-- one tick more -/
theorem zGrow {S S2 K : Int} {t : Nat} (h : (S + 100000) * 100 ^ t ≤ K * 103 ^ t) (h2 : (S2 + 100000) * 100 ≤ 103 * (S + 100000)) : (S2 + 100000) * 100 ^ (t + 1) ≤ K * 103 ^ (t + 1) := by
  have p1 : (0 : Int) ≤ 100 ^ t := Int.le_of_lt (Int.pow_pos (by decide))
  rw [Int.pow_succ, Int.pow_succ, ← Int.mul_assoc, ← Int.mul_assoc]
  have h3 : (S2 + 100000) * 100 * 100 ^ t ≤ 103 * (S + 100000) * 100 ^ t := Int.mul_le_mul_of_nonneg_right h2 p1
  have e1 : (S2 + 100000) * 100 ^ t * 100 = (S2 + 100000) * 100 * 100 ^ t := by rw [Int.mul_assoc, Int.mul_comm (100 ^ t) 100, ← Int.mul_assoc]
  have e2 : 103 * (S + 100000) * 100 ^ t = 103 * ((S + 100000) * 100 ^ t) := Int.mul_assoc _ _ _
  rw [e1]
  rw [e2] at h3
  have h4 : 103 * ((S + 100000) * 100 ^ t) ≤ 103 * (K * 103 ^ t) := Int.mul_le_mul_of_nonneg_left h (by decide)
  have e3 : K * 103 ^ t * 103 = 103 * (K * 103 ^ t) := Int.mul_comm _ _
  rw [e3]
  exact Int.le_trans h3 h4
