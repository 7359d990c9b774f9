/-! what a call of the class leaves outside of it -/
def zOut (κ : Nat → Nat) (P0 : Nat) (g g2 : Nat → Nat → Value) : Prop := (∀ b j, (κ b < 3 ∨ (8 < κ b ∧ κ b < 32 ∧ κ b ≠ 10 ∧ κ b ≠ 31) ∨ 58 < κ b) → g2 b j = g b j) ∧ ∀ j, j < 8 → g2 P0 j = g P0 j
theorem zOut.rf {κ : Nat → Nat} {P0 : Nat} {g : Nat → Nat → Value} : zOut κ P0 g g := ⟨fun _ _ _ => rfl, fun _ _ => rfl⟩
theorem zOut.tr {κ : Nat → Nat} {P0 : Nat} {g g1 g2 : Nat → Nat → Value} (h : zOut κ P0 g g1) (h2 : zOut κ P0 g1 g2) : zOut κ P0 g g2 := ⟨fun b j e => (h2.1 b j e).trans (h.1 b j e), fun j e => (h2.2 j e).trans (h.2 j e)⟩
theorem zQ1.out {κ : Nat → Nat} {P0 x9 j9 k9 : Nat} {g g2 : Nat → Nat → Value} (h : zQ1 κ x9 j9 g g2) (hP : κ P0 = 10) (hk : κ x9 = k9) (h1 : (3 ≤ k9 ∧ k9 ≤ 8) ∨ (k9 = 10 ∧ 8 ≤ j9)) : zOut κ P0 g g2 := by
  refine ⟨fun b j e => h b j (by omega) (by omega) (fun e2 => ?_), fun j hj => h P0 j (by omega) (by omega) (fun e2 => ?_)⟩
  · rw [e2.1, hk] at e
    omega
  · rw [← e2.1, hP] at hk
    omega
/-- a call more -/
theorem zSd42.more {κ : Nat → Nat} {g : Nat → Nat → Value} {P c b a q : Nat → Nat} {n t k : Nat} (h : zSd42 κ g P c b a q n t k) : zSd42 κ g P c b a q n t (k + 1) := by
  obtain ⟨h1, h2, h3, h4, h5, h6, h7, h8⟩ := h
  refine ⟨h1, h2, h3, h4, h5, h6, h7, Int.le_trans h8 ?_⟩
  have p2 : (0 : Int) ≤ 103 ^ t := Int.le_of_lt (Int.pow_pos (by decide))
  exact Int.mul_le_mul_of_nonneg_right (by omega) p2
/-- w more heat -/
theorem zMore {S S2 : Int} {t k : Nat} (h : (S + 100000) * 100 ^ t ≤ ((k : Int) + 1) * 1000000 * 103 ^ t) (h2 : S2 ≤ S + 1000000) : (S2 + 100000) * 100 ^ t ≤ (((k + 1 : Nat) : Int) + 1) * 1000000 * 103 ^ t := by
  have p1 : (0 : Int) ≤ 100 ^ t := Int.le_of_lt (Int.pow_pos (by decide))
  have p3 : (100 : Int) ^ t ≤ 103 ^ t := by
    have h9 : ((100 ^ t : Nat) : Int) ≤ ((103 ^ t : Nat) : Int) := Int.ofNat_le.mpr (Nat.pow_le_pow_left (by decide) t)
    rw [Int.natCast_pow, Int.natCast_pow] at h9
    exact h9
  have h3 : (S2 + 100000) * 100 ^ t ≤ (S + 100000 + 1000000) * 100 ^ t := Int.mul_le_mul_of_nonneg_right (by omega) p1
  have e1 : (S + 100000 + 1000000) * 100 ^ t = (S + 100000) * 100 ^ t + 1000000 * 100 ^ t := Int.add_mul _ _ _
  have e2 : (((k + 1 : Nat) : Int) + 1) * 1000000 * 103 ^ t = ((k : Int) + 1) * 1000000 * 103 ^ t + 1000000 * 103 ^ t := by
    have e : (((k + 1 : Nat) : Int) + 1) * 1000000 = ((k : Int) + 1) * 1000000 + 1000000 := by omega
    rw [e, Int.add_mul]
  rw [e1] at h3
  rw [e2]
  omega
theorem zSd42.heat {κ : Nat → Nat} {g g2 : Nat → Nat → Value} {P c b a q : Nat → Nat} {n t k i : Nat} (h : zSd42 κ g P c b a q n t k) (hi : i < n) {w : Int} (hw : 0 ≤ w ∧ w ≤ 9999) (hS : zShp κ g2 P c b a q n) (h5 : zV g2 (q (5 + 2 * i)) = zV g (q (5 + 2 * i)) + w) (h6 : zV g2 (q (6 + 2 * i)) = zV g2 (q (5 + 2 * i)) / 20)
    (ho : ∀ y, y < 5 + 2 * n → y ≠ 4 → y ≠ 5 + 2 * i → y ≠ 6 + 2 * i → zV g2 (q y) = zV g (q y)) (hf : zQ1 κ (P 0) 9 g g2) (hl : ∀ O : Int, g (P 0) 9 = .long (Int64.ofInt O) → g2 (P 0) 9 = .long (Int64.ofInt (O + w))) : zSd42 κ g2 P c b a q n t (k + 1) := by
  obtain ⟨e1, ⟨⟨a1, a2⟩, a3⟩, e3, e4, e5, e6, ⟨A, O, W, B, E, T, bt, ⟨lA, lO, lW, lB, lE, lT, lb, hbt, hsum⟩, hc⟩, e8⟩ := h
  obtain ⟨k0, -, -, k3, k4, -⟩ := e1.1
  have o : ∀ {x y kk : Nat}, κ x = kk → (kk < 32 ∨ (38 < kk ∧ kk < 52) ∨ 58 < kk) → (kk ≠ 10 ∨ y ≠ 9) → g2 x y = g x y := fun {x y kk} e1 e2 e3 => hf x y (by omega) (by omega) (fun e9 => by rw [e9.1, k0] at e1; omega)
  have hs : zHs g2 q n = zHs g q n + w := by
    have f4 : zHs g2 q n = zSm (fun j => if j = i then zV g2 (q (5 + 2 * i)) else zV g (q (5 + 2 * j))) n := zSm_congr (fun j hj => by
      by_cases hji : j = i
      · simp only [if_pos hji]; rw [hji]
      · simp only [if_neg hji]; exact ho _ (by omega) (by omega) (by omega) (by omega))
    rw [f4, zSm_up (f := fun j => zV g (q (5 + 2 * j))) (k := i) (fun j hj => if_neg hj) n hi]
    simp only [if_true]
    show zHs g q n + (zV g2 (q (5 + 2 * i)) - zV g (q (5 + 2 * i))) = zHs g q n + w
    omega
  have h0 := ho 0 (by omega) (by omega) (by omega) (by omega)
  refine ⟨hS, ⟨by rw [ho 1 (by omega) (by omega) (by omega) (by omega), h0]; exact ⟨a1, a2⟩, fun j hj => ?_⟩, (ho 2 (by omega) (by omega) (by omega) (by omega)).trans e3, (o k0 (by decide) (Or.inr (by decide))).trans e4, e5, fun x hx => (e6 x hx).eq (o (e1.co hx).1 (by decide) (Or.inl (by decide))),
    ⟨A, O + w, W, B, E, T, bt, ⟨(o k3 (by decide) (Or.inl (by decide))).trans lA, hl O lO, (o k4 (by decide) (Or.inl (by decide))).trans lW, (o k4 (by decide) (Or.inl (by decide))).trans lB, (o k4 (by decide) (Or.inl (by decide))).trans lE, (o k4 (by decide) (Or.inl (by decide))).trans lT, (o k4 (by decide) (Or.inl (by decide))).trans lb, hbt, hsum⟩, ?_⟩, zMore e8 ?_⟩
  · by_cases hji : j = i
    · subst hji
      have := a3 j hj
      exact ⟨h6, by omega⟩
    · rw [ho (6 + 2 * j) (by omega) (by omega) (by omega) (by omega), ho (5 + 2 * j) (by omega) (by omega) (by omega) (by omega)]
      exact a3 j hj
  · show zV g2 (q 0) + zHs g2 q n + A = _
    have hc9 : zV g (q 0) + zHs g q n + A = 4000 + 400 * (n : Int) + T + O := hc
    omega
  · show zV g2 (q 0) + zHs g2 q n ≤ zV g (q 0) + zHs g q n + 1000000
    omega
/-- one core worn, to no more than 9999 -/
theorem zSd42.wear {κ : Nat → Nat} {g g2 : Nat → Nat → Value} {P c b a q : Nat → Nat} {n t k x9 w : Nat} (h : zSd42 κ g P c b a q n t k) (hk : κ x9 = 5) (ho : ∀ b j, (b ≠ x9 ∨ j ≠ 19) → g2 b j = g b j) (hs : g2 x9 19 = .int (nI w)) (hw : w ≤ 9999) : zSd42 κ g2 P c b a q n t k ∧ zOut κ (P 0) g g2 := by
  obtain ⟨e1, e2, e3, e4, e5, e6, ⟨A, O, W, B, E, T, bt, ⟨lA, lO, lW, lB, lE, lT, lb, hbt, hsum⟩, hc⟩, e8⟩ := h
  obtain ⟨hS, hv⟩ := e1.put (x9 := x9) (j9 := 19) hk (by unfold zSlot; omega) ho
  obtain ⟨k0, -, -, k3, k4, -⟩ := e1.1
  have hT : zTt g2 q n = zTt g q n := by
    show zV g2 (q 0) + zHs g2 q n = zV g (q 0) + zHs g q n
    rw [hv 0 (by omega), zHs_same (fun y hy _ _ => hv y hy)]
  refine ⟨⟨hS, e2.same (fun y hy _ _ => hv y hy), (hv 2 (by omega)).trans e3, (ho _ 8 (Or.inr (by decide))).trans e4, e5, fun x hx => ?_, ⟨A, O, W, B, E, T, bt, ⟨(ho _ _ (Or.inr (by decide))).trans lA, (ho _ _ (Or.inr (by decide))).trans lO, (ho _ _ (Or.inr (by decide))).trans lW, (ho _ _ (Or.inr (by decide))).trans lB, (ho _ _ (Or.inr (by decide))).trans lE, (ho _ _ (Or.inr (by decide))).trans lT, (ho _ _ (Or.inr (by decide))).trans lb, hbt, hsum⟩, by rw [hT]; exact hc⟩, by rw [hT]; exact e8⟩,
    (zQ1.put ho).out k0 hk (Or.inl (by decide))⟩
  by_cases hx9 : c x = x9
  · exact ⟨w, by rw [hx9]; exact hs, by omega⟩
  · exact (e6 x hx).eq (ho (c x) 19 (Or.inl hx9))
theorem z_wear {w1 t : Nat} {p v1 v2 : Int32} (hb : w1 ≤ 9999 + t) (ht : t ≤ 9999) (hp : 1 ≤ p ∧ p ≤ 999) (e1 : v1 = nI w1 + p) (c : v1 ≤ 9999) (e2 : v2 = nI w1 + p) : ∃ w2 : Nat, v2 = nI w2 ∧ w2 ≤ 9999 := by
  have h1 : (1 : Int32).toInt ≤ p.toInt := wi_le.mp hp.1
  have h2 : p.toInt ≤ (999 : Int32).toInt := wi_le.mp hp.2
  have h3 : v1.toInt ≤ (9999 : Int32).toInt := wi_le.mp c
  have k1 : (1 : Int32).toInt = 1 := rfl
  have k2 : (999 : Int32).toInt = 999 := rfl
  have k3 : (9999 : Int32).toInt = 9999 := rfl
  have e : (nI w1).toInt = (w1 : Int) := nI_toInt (by omega)
  have h4 : v1.toInt = (w1 : Int) + p.toInt := by rw [e1, wi_add (by omega), e]
  have h5 : v2 = v1 := e2.trans e1.symm
  obtain ⟨w2, h6, h7, -⟩ := wi_nat (i := v2) (by rw [h5]; omega)
  exact ⟨w2, h6, by rw [h5] at h7; omega⟩
/-- a core that is found is one of the n -/
theorem zShp.which {κ : Nat → Nat} {g : Nat → Nat → Value} {P c b a q : Nat → Nat} {n r : Nat} {x : Int32} (h : zShp κ g P c b a q n) (hi : vp_in x 6) (hr : g (P 1) x.toNatClampNeg = .ref r) : ∃ i, i < n ∧ c i = r := by
  have h6 : x.toNatClampNeg < 6 := Nat.not_le.mp fun q => hi (Or.inr q)
  by_cases hn : x.toNatClampNeg < n
  · obtain ⟨-, -, h3, -⟩ := h.co hn
    exact ⟨_, hn, Value.ref.inj (h3.symm.trans hr)⟩
  · have h9 := h.2.2.2.2.2.1 x.toNatClampNeg (by omega) h6
    rw [h9] at hr
    cases hr
theorem z_hot {x p v : Int32} {V : Int} (hx : x.toInt = min V 99999) (hp : 1 ≤ p ∧ p ≤ 9999) (e : v = x + p) (c : v ≤ 99999) (h0 : 0 ≤ V) : 0 ≤ p.toInt ∧ p.toInt ≤ 9999 := by
  have h1 : (1 : Int32).toInt ≤ p.toInt := wi_le.mp hp.1
  have h2 : p.toInt ≤ (9999 : Int32).toInt := wi_le.mp hp.2
  have k1 : (1 : Int32).toInt = 1 := rfl
  have k2 : (9999 : Int32).toInt = 9999 := rfl
  omega
theorem z_pass9 {t n : Nat} {p v : Int32} (e : v = nI t + p) (c : v ≤ 9999) (hp : p = nI n) (hn : n ≤ 100) (ht : t ≤ 9999) : t + n ≤ 9999 := by
  rw [e, hp, nI_add] at c
  exact (nI_leI (b := 9999) (by omega) (by decide)).mp c
