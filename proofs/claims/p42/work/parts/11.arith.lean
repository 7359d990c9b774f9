/-! numbers of 32 bits in their ranges -/
theorem wi_add {x y : Int32} (h : -2147483648 ≤ x.toInt + y.toInt ∧ x.toInt + y.toInt < 2147483648) : (x + y).toInt = x.toInt + y.toInt := Jvm.Kit.i32_add h.1 h.2
theorem wi_sub {x y : Int32} (h : -2147483648 ≤ x.toInt - y.toInt ∧ x.toInt - y.toInt < 2147483648) : (x - y).toInt = x.toInt - y.toInt := Jvm.Kit.i32_sub h.1 h.2
theorem wi_mul {x y : Int32} (h : -2147483648 ≤ x.toInt * y.toInt ∧ x.toInt * y.toInt < 2147483648) : (x * y).toInt = x.toInt * y.toInt := Jvm.Kit.i32_mul h.1 h.2
theorem wi_div {x y : Int32} (hx : 0 ≤ x.toInt) (hy : 0 < y.toInt) : (x / y).toInt = x.toInt / y.toInt := by
  rw [Jvm.Kit.i32_div (by omega), Int.tdiv_eq_ediv_of_nonneg hx]
theorem wi_lt {x y : Int32} : x < y ↔ x.toInt < y.toInt := Int32.lt_iff_toInt_lt
theorem wi_le {x y : Int32} : x ≤ y ↔ x.toInt ≤ y.toInt := Int32.le_iff_toInt_le
/-- the least, the greatest of two, as the class takes them -/
theorem wi_min {x y r : Int32} (e : r = if y < x then y else x) : r.toInt = min x.toInt y.toInt := by
  rw [e]
  by_cases h : y < x
  · rw [if_pos h]
    have := wi_lt.mp h
    omega
  · rw [if_neg h]
    have : ¬ y.toInt < x.toInt := fun h2 => h (wi_lt.mpr h2)
    omega
theorem wi_max {x y r : Int32} (e : r = if x < y then y else x) : r.toInt = max x.toInt y.toInt := by
  rw [e]
  by_cases h : x < y
  · rw [if_pos h]
    have := wi_lt.mp h
    omega
  · rw [if_neg h]
    have : ¬ x.toInt < y.toInt := fun h2 => h (wi_lt.mpr h2)
    omega
/-- the core at x is not worn beyond B; all in the array at aC; the n cores c -/
def zWo (g : Nat → Nat → Value) (x B : Nat) : Prop := ∃ w : Nat, g x 19 = .int (nI w) ∧ w ≤ B
def zWa (g : Nat → Nat → Value) (aC B : Nat) : Prop := ∀ j r, j < 6 → g aC j = .ref r → zWo g r B
def zWc (g : Nat → Nat → Value) (c : Nat → Nat) (n B : Nat) : Prop := ∀ i, i < n → zWo g (c i) B
theorem zWo.mono {g : Nat → Nat → Value} {x B B2 : Nat} (h : zWo g x B) (hB : B ≤ B2) : zWo g x B2 := h.imp fun w h9 => ⟨h9.1, Nat.le_trans h9.2 hB⟩
theorem zWo.eq {g g2 : Nat → Nat → Value} {x B : Nat} (h : zWo g x B) (he : g2 x 19 = g x 19) : zWo g2 x B := h.imp fun w h9 => ⟨he.trans h9.1, h9.2⟩
theorem zWc.mono {g : Nat → Nat → Value} {c : Nat → Nat} {n B B2 : Nat} (h : zWc g c n B) (hB : B ≤ B2) : zWc g c n B2 := fun i hi => (h i hi).mono hB
theorem w_age {w : Nat} {r : Int32} (h : w ≤ 19998) (e : r = nI w / 10) : 0 ≤ r.toInt ∧ r.toInt < 2000 := by
  have e2 : (nI w).toInt = (w : Int) := nI_toInt (by omega)
  have e3 : (10 : Int32).toInt = 10 := rfl
  rw [e, wi_div (by omega) (by omega), e2, e3]
  omega
theorem w_volts {s a h v1 v2 v3 r : Int32} (hs : 0 ≤ s.toInt ∧ s.toInt < 8) (ha : 0 ≤ a.toInt ∧ a.toInt < 2000) (hh : 0 ≤ h.toInt ∧ h.toInt ≤ 25) (e1 : v1 = 60 * s) (e2 : v2 = 500 + v1) (e3 : v3 = v2 + a) (e4 : r = v3 + h) : 0 ≤ r.toInt ∧ r.toInt < 2945 := by
  have c1 : (60 : Int32).toInt = 60 := rfl
  have c2 : (500 : Int32).toInt = 500 := rfl
  have h1 : v1.toInt = 60 * s.toInt := by rw [e1, wi_mul (by rw [c1]; omega), c1]
  have h2 : v2.toInt = 500 + v1.toInt := by rw [e2, wi_add (by rw [c2]; omega), c2]
  have h3 : v3.toInt = v2.toInt + a.toInt := by rw [e3, wi_add (by omega)]
  rw [e4, wi_add (by omega)]
  omega
theorem w_power {s m d v r : Int32} (hs : 0 ≤ s.toInt ∧ s.toInt < 8) (hm : 0 ≤ m.toInt ∧ m.toInt < 2945) (hd : d.toInt = 50 ∨ d.toInt = 200) (e1 : v = s * m) (e2 : r = v / d) : 0 ≤ r.toInt ∧ r.toInt < 413 := by
  have h0 : 0 ≤ s.toInt * m.toInt := Int.mul_nonneg hs.1 hm.1
  have h1 : s.toInt * m.toInt ≤ 7 * m.toInt := Int.mul_le_mul_of_nonneg_right (by omega) hm.1
  have h2 : v.toInt = s.toInt * m.toInt := by rw [e1, wi_mul (by omega)]
  rw [e2, wi_div (by omega) (by omega)]
  rcases hd with h | h <;> rw [h] <;> omega
theorem w_wish {gr w m r : Int32} (hg : gr.toInt = 7 ∨ gr.toInt = 4) (e1 : m = if w < gr then w else gr) (e2 : r = if 0 < m then m else 0) : 0 ≤ r.toInt ∧ r.toInt < 8 := by
  have h1 := wi_min e1
  have h2 := wi_max e2
  have c : (0 : Int32).toInt = 0 := rfl
  omega
theorem w_mv {m1 m2 t mo le a r : Int32} (h1 : 0 ≤ m1.toInt ∧ m1.toInt < 2945) (h2 : 0 ≤ m2.toInt ∧ m2.toInt < 2945) (ht : 0 ≤ t.toInt ∧ t.toInt < 2945) (e1 : mo = m1 + 20) (e2 : le = m2 - 20) (e3 : a = if t < mo then t else mo) (e4 : r = if le < a then a else le) : 0 ≤ r.toInt ∧ r.toInt < 2945 := by
  have c : (20 : Int32).toInt = 20 := rfl
  have h3 : mo.toInt = m1.toInt + 20 := by rw [e1, wi_add (by omega), c]
  have h4 : le.toInt = m2.toInt - 20 := by rw [e2, wi_sub (by omega), c]
  have h5 := wi_min e3
  have h6 := wi_max e4
  omega
theorem w_max2 {x y r : Int32} {B : Int} (hx : 0 ≤ x.toInt ∧ x.toInt < B) (hy : 0 ≤ y.toInt ∧ y.toInt < B) (e : r = if x < y then y else x) : 0 ≤ r.toInt ∧ r.toInt < B := by
  have h := wi_max e
  omega
theorem wi_nat {i : Int32} (h : 0 ≤ i.toInt) : ∃ k : Nat, i = nI k ∧ (k : Int) = i.toInt ∧ k < 2147483648 := by
  have h2 := Int32.toInt_lt i
  exact ⟨i.toInt.toNat, Int32.toInt_inj.mp (by rw [nI_toInt (by omega)]; omega), by omega, by omega⟩
theorem w_rng {lo x m : Int32} {B : Int} (h : lo ≤ x ∧ x ≤ m) (hm : 0 ≤ lo.toInt ∧ m.toInt < B) : 0 ≤ x.toInt ∧ x.toInt < B := by
  have h1 := wi_le.mp h.1
  have h2 := wi_le.mp h.2
  omega
theorem w_need {x gr : Int32} (h : 0 ≤ x ∧ x ≤ gr) (hg : gr.toInt = 7 ∨ gr.toInt = 4) : 0 ≤ x.toInt ∧ x.toInt < 8 := by
  have h1 : (0 : Int32).toInt ≤ x.toInt := wi_le.mp h.1
  have h2 := wi_le.mp h.2
  have h3 : (0 : Int32).toInt = 0 := rfl
  omega
