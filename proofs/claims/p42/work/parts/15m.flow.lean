/-! heat: degrees follow, none is colder than the air; and what a loop over the cores keeps -/
def zHt (g : Nat → Nat → Value) (q : Nat → Nat) (n : Nat) : Prop :=
  (zV g (q 1) = zV g (q 0) / 200 ∧ 4000 ≤ zV g (q 0)) ∧ ∀ j, j < n → zV g (q (6 + 2 * j)) = zV g (q (5 + 2 * j)) / 20 ∧ 400 ≤ zV g (q (5 + 2 * j))
abbrev zHs (g : Nat → Nat → Value) (q : Nat → Nat) (n : Nat) : Int := zSm (fun j => zV g (q (5 + 2 * j))) n
def zHC (κ : Nat → Nat) (g gk : Nat → Nat → Value) (a q : Nat → Nat) (n i : Nat) : Prop :=
  zAF κ gk a q (5 + 2 * n) ∧ zQ κ g gk ∧ (∀ y, y < 3 → zV gk (q y) = zV g (q y)) ∧ (∀ j, j < n → i ≤ j → zV gk (q (5 + 2 * j)) = zV g (q (5 + 2 * j)) ∧ zV gk (q (6 + 2 * j)) = zV g (q (6 + 2 * j))) ∧
  (∀ j, j < n → j < i → zV gk (q (6 + 2 * j)) = zV gk (q (5 + 2 * j)) / 20 ∧ zV g (q (5 + 2 * j)) ≤ zV gk (q (5 + 2 * j))) ∧ zHs gk q n = zHs g q n + zV gk (q 3) ∧ 100000 * zV gk (q 3) ≤ 2944 * zHs g q (min i n) + 41200000 * (i : Int)
theorem zHC.step {κ : Nat → Nat} {g gk g2 : Nat → Nat → Value} {a q : Nat → Nat} {n i : Nat} (h : zHC κ g gk a q n i) (hi : i < n) (hA : zAF κ g2 a q (5 + 2 * n)) (hQ : zQ κ gk g2) (ho : ∀ y, y < 5 + 2 * n → y ≠ 3 → y ≠ 4 → y ≠ 5 + 2 * i → y ≠ 6 + 2 * i → zV g2 (q y) = zV gk (q y))
    {lk pw : Int} (hl : 0 ≤ lk) (hp : 0 ≤ pw) (h1 : zV g2 (q (5 + 2 * i)) = zV gk (q (5 + 2 * i)) + lk + pw) (h2 : zV g2 (q (6 + 2 * i)) = zV g2 (q (5 + 2 * i)) / 20) (h3 : zV g2 (q 3) = zV gk (q 3) + lk + pw) (hb : 100000 * (lk + pw) ≤ 2944 * zV g (q (5 + 2 * i)) + 41200000) : zHC κ g g2 a q n (i + 1) := by
  obtain ⟨-, a2, a3, a4, a5, a6, a7⟩ := h
  have e5 := (a4 i hi (Nat.le_refl i)).1
  refine ⟨hA, a2.tr hQ, fun y hy => (ho y (by omega) (by omega) (by omega) (by omega) (by omega)).trans (a3 y hy), fun j hj hij => ⟨(ho _ (by omega) (by omega) (by omega) (by omega) (by omega)).trans (a4 j hj (by omega)).1, (ho _ (by omega) (by omega) (by omega) (by omega) (by omega)).trans (a4 j hj (by omega)).2⟩, fun j hj hij => ?_, ?_, ?_⟩
  · by_cases hji : j = i
    · subst hji
      exact ⟨h2, by omega⟩
    · have f1 := ho (6 + 2 * j) (by omega) (by omega) (by omega) (by omega) (by omega)
      have f2 := ho (5 + 2 * j) (by omega) (by omega) (by omega) (by omega) (by omega)
      rw [f1, f2]
      exact a5 j hj (by omega)
  · have f : zHs g2 q n = zHs gk q n + (zV g2 (q (5 + 2 * i)) - zV gk (q (5 + 2 * i))) := by
      have f3 : zHs g2 q n = zSm (fun j => if j = i then zV g2 (q (5 + 2 * i)) else zV gk (q (5 + 2 * j))) n := zSm_congr (fun j hj => by
        by_cases hji : j = i
        · simp only [if_pos hji]; rw [hji]
        · simp only [if_neg hji]; exact ho _ (by omega) (by omega) (by omega) (by omega) (by omega))
      rw [f3, zSm_up (f := fun j => zV gk (q (5 + 2 * j))) (k := i) (fun j hj => if_neg hj) n hi]
      simp only [if_true]
    omega
  · rw [show min (i + 1) n = i + 1 by omega]
    rw [show min i n = i by omega] at a7
    show 100000 * zV g2 (q 3) ≤ 2944 * (zHs g q i + zV g (q (5 + 2 * i))) + 41200000 * ((i + 1 : Nat) : Int)
    omega
theorem zHC.skip {κ : Nat → Nat} {g gk : Nat → Nat → Value} {a q : Nat → Nat} {n i : Nat} (h : zHC κ g gk a q n i) (hi : n ≤ i) : zHC κ g gk a q n (i + 1) := by
  obtain ⟨a1, a2, a3, a4, a5, a6, a7⟩ := h
  refine ⟨a1, a2, a3, fun j hj hij => a4 j hj (by omega), fun j hj _ => a5 j hj (by omega), a6, ?_⟩
  rw [show min (i + 1) n = min i n by omega]
  omega
/-- heat flows between the case and core i -/
theorem zHt.flow {g g2 : Nat → Nat → Value} {q : Nat → Nat} {n i : Nat} (h : zHt g q n) (hi : i < n) (ho : ∀ y, y < 5 + 2 * n → y ≠ 4 → y ≠ 0 → y ≠ 1 → y ≠ 5 + 2 * i → y ≠ 6 + 2 * i → zV g2 (q y) = zV g (q y)) {f : Int}
    (hf : f = zV g (q 1) - zV g (q (6 + 2 * i))) (h0 : zV g2 (q 0) = zV g (q 0) - f) (h1 : zV g2 (q 1) = zV g2 (q 0) / 200) (h5 : zV g2 (q (5 + 2 * i)) = zV g (q (5 + 2 * i)) + f) (h6 : zV g2 (q (6 + 2 * i)) = zV g2 (q (5 + 2 * i)) / 20) :
    zHt g2 q n ∧ zV g2 (q 0) + zHs g2 q n = zV g (q 0) + zHs g q n := by
  obtain ⟨⟨a1, a2⟩, a3⟩ := h
  obtain ⟨b1, b2⟩ := a3 i hi
  refine ⟨⟨⟨h1, by omega⟩, fun j hj => ?_⟩, ?_⟩
  · by_cases hji : j = i
    · subst hji
      exact ⟨h6, by omega⟩
    · have f1 := ho (6 + 2 * j) (by omega) (by omega) (by omega) (by omega) (by omega) (by omega)
      have f2 := ho (5 + 2 * j) (by omega) (by omega) (by omega) (by omega) (by omega) (by omega)
      rw [f1, f2]
      exact a3 j hj
  · have f3 : zHs g2 q n = zHs g q n + (zV g2 (q (5 + 2 * i)) - zV g (q (5 + 2 * i))) := by
      have f4 : zHs g2 q n = zSm (fun j => if j = i then zV g2 (q (5 + 2 * i)) else zV g (q (5 + 2 * j))) n := zSm_congr (fun j hj => by
        by_cases hji : j = i
        · simp only [if_pos hji]; rw [hji]
        · simp only [if_neg hji]; exact ho _ (by omega) (by omega) (by omega) (by omega) (by omega) (by omega))
      rw [f4, zSm_up (f := fun j => zV g (q (5 + 2 * j))) (k := i) (fun j hj => if_neg hj) n hi]
      simp only [if_true]
    omega
/-- the slots that the class's shape speaks of -/
def zSlot (k j : Nat) : Prop := (k = 10 ∧ j ≤ 7) ∨ (k = 4 ∧ j ≤ 1) ∨ k = 31 ∨ k = 3 ∨ (k = 5 ∧ j = 15) ∨ k = 23 ∨ (32 ≤ k ∧ k ≤ 38) ∨ (52 ≤ k ∧ k ≤ 58)
theorem zShp.fr {κ : Nat → Nat} {g g2 : Nat → Nat → Value} {P c b a q : Nat → Nat} {n : Nat} (h : zShp κ g P c b a q n) (hf : ∀ x j, zSlot (κ x) j → g2 x j = g x j) : zShp κ g2 P c b a q n ∧ ∀ y, y < 5 + 2 * n → zV g2 (q y) = zV g (q y) := by
  obtain ⟨⟨k0, k1, k2, k3, k4, k5, k6⟩, ⟨l1, l2, l3, l4, l5, l6, l7⟩, ⟨m0, m1, m2, m3⟩, hn, hc, hz, hi, hA⟩ := h
  have p : ∀ j, j ≤ 7 → g2 (P 0) j = g (P 0) j := fun j hj => hf _ j (by rw [k0]; exact Or.inl ⟨rfl, hj⟩)
  have c4 : ∀ j, j ≤ 1 → g2 (P 3) j = g (P 3) j := fun j hj => hf _ j (by rw [k3]; exact Or.inr (Or.inl ⟨rfl, hj⟩))
  have p6 : ∀ j, g2 (P 6) j = g (P 6) j := fun j => hf _ j (by rw [k6]; exact Or.inr (Or.inr (Or.inl rfl)))
  have p1 : ∀ j, g2 (P 1) j = g (P 1) j := fun j => hf _ j (by rw [k1]; exact Or.inr (Or.inr (Or.inr (Or.inr (Or.inr (Or.inl rfl))))))
  have am : ∀ x j, x < 5 + 2 * n → g2 (a x) j = g (a x) j ∧ g2 (q x) j = g (q x) j := fun x j hx => by
    obtain ⟨e1, e2, -⟩ := hA.1 x hx
    have e3 := kx_b x
    exact ⟨hf _ j (Or.inr (Or.inr (Or.inr (Or.inr (Or.inr (Or.inr (Or.inl (by omega)))))))), hf _ j (Or.inr (Or.inr (Or.inr (Or.inr (Or.inr (Or.inr (Or.inr (by omega))))))))⟩
  have ed : ∀ x j, x < 5 + 2 * n → dg g2 (q x) j = dg g (q x) j := fun x j hx => dg_eq (am x j hx).2
  refine ⟨⟨⟨k0, k1, k2, k3, k4, k5, k6⟩, ⟨(p 1 (by decide)).trans l1, (p 2 (by decide)).trans l2, (p 3 (by decide)).trans l3, (p 4 (by decide)).trans l4, (p 5 (by decide)).trans l5, (p 6 (by decide)).trans l6, (p 7 (by decide)).trans l7⟩,
    ⟨(c4 0 (by decide)).trans m0, (c4 1 (by decide)).trans m1, (p6 1).trans m2, (p6 2).trans m3⟩, hn, fun i h1 => ?_, fun i h1 h2 => (p1 i).trans (hz i h1 h2), hi, fun x hx => ?_, hA.2⟩, fun y hy => vS_congr (fun j _ => ed y j hy)⟩
  · obtain ⟨e1, e2, e3, e4, e5, e6⟩ := hc i h1
    have b3 : ∀ j, g2 (b i) j = g (b i) j := fun j => hf _ j (by rw [e2]; exact Or.inr (Or.inr (Or.inr (Or.inl rfl))))
    exact ⟨e1, e2, (p1 i).trans e3, (hf _ 15 (by rw [e1]; exact Or.inr (Or.inr (Or.inr (Or.inr (Or.inl ⟨rfl, rfl⟩)))))).trans e4, (b3 1).trans e5, (b3 2).trans e6⟩
  · obtain ⟨e1, e2, u, e3⟩ := hA.1 x hx
    exact ⟨e1, e2, u, ⟨(am x 0 hx).1.trans e3.r, (am x 1 hx).1.trans e3.us, e3.le, fun j hj => by rw [ed x j hx]; exact e3.bd j hj, fun j hj hj2 => (ed x j hx).trans (e3.hi j hj hj2)⟩, by rw [ed x _ hx]; exact e3.top⟩
/-- one slot of no such kind -/
theorem zShp.put {κ : Nat → Nat} {g g2 : Nat → Nat → Value} {P c b a q : Nat → Nat} {n : Nat} (h : zShp κ g P c b a q n) {x9 j9 k9 : Nat} (hk : κ x9 = k9) (hn : ¬ zSlot k9 j9) (hf : ∀ x j, (x ≠ x9 ∨ j ≠ j9) → g2 x j = g x j) : zShp κ g2 P c b a q n ∧ ∀ y, y < 5 + 2 * n → zV g2 (q y) = zV g (q y) :=
  h.fr (fun x j hs => hf x j (by
    by_cases hx : x = x9
    · refine Or.inr (fun e => hn ?_)
      rw [← hk, ← hx, ← e]
      exact hs
    · exact Or.inl hx))
theorem zHt.same {g g2 : Nat → Nat → Value} {q : Nat → Nat} {n : Nat} (h : zHt g q n) (hv : ∀ y, y < 5 + 2 * n → y ≠ 4 → y ≠ 3 → zV g2 (q y) = zV g (q y)) : zHt g2 q n := by
  refine ⟨?_, fun j hj => ?_⟩
  · rw [hv 0 (by omega) (by decide) (by decide), hv 1 (by omega) (by decide) (by decide)]; exact h.1
  · rw [hv (6 + 2 * j) (by omega) (by omega) (by omega), hv (5 + 2 * j) (by omega) (by omega) (by omega)]; exact h.2 j hj
theorem zHs_same {g g2 : Nat → Nat → Value} {q : Nat → Nat} {n : Nat} (hv : ∀ y, y < 5 + 2 * n → y ≠ 4 → y ≠ 3 → zV g2 (q y) = zV g (q y)) : zHs g2 q n = zHs g q n := zSm_congr (fun j hj => hv _ (by omega) (by omega) (by omega))
theorem w_i2l (x : Int32) : x.toInt64 = Int64.ofInt x.toInt := Eq.symm ((Int64.ofInt_eq_iff_bmod_eq_toInt x.toInt x.toInt64).mpr (by
  rw [Jvm.Kit.i64_of_i32]
  have h1 := Int32.toInt_lt x
  have h2 := Int32.le_toInt x
  exact Jvm.Kit.bmod64 (by omega) (by omega)))
theorem wl_add (a b : Int) : Int64.ofInt a + Int64.ofInt b = Int64.ofInt (a + b) := (Int64.ofInt_add a b).symm
theorem wl_sub (a b : Int) : Int64.ofInt a - Int64.ofInt b = Int64.ofInt (a - b) := (Int64.ofInt_sub a b).symm
/-- but for the Amounts and one slot, all is as it was -/
def zQ1 (κ : Nat → Nat) (x9 j9 : Nat) (g g2 : Nat → Nat → Value) : Prop := ∀ b j, ¬ (52 ≤ κ b ∧ κ b ≤ 58) → ¬ (32 ≤ κ b ∧ κ b ≤ 38 ∧ j = 1) → ¬ (b = x9 ∧ j = j9) → g2 b j = g b j
theorem zQ.one {κ : Nat → Nat} {x9 j9 : Nat} {g g2 : Nat → Nat → Value} (h : zQ κ g g2) : zQ1 κ x9 j9 g g2 := fun b j e1 e2 _ => h b j e1 e2
theorem zQ1.tr {κ : Nat → Nat} {x9 j9 : Nat} {g g1 g2 : Nat → Nat → Value} (h : zQ1 κ x9 j9 g g1) (h2 : zQ1 κ x9 j9 g1 g2) : zQ1 κ x9 j9 g g2 := fun b j e1 e2 e3 => (h2 b j e1 e2 e3).trans (h b j e1 e2 e3)
theorem zQ1.put {κ : Nat → Nat} {x9 j9 : Nat} {g g2 : Nat → Nat → Value} (ho : ∀ b j, (b ≠ x9 ∨ j ≠ j9) → g2 b j = g b j) : zQ1 κ x9 j9 g g2 := fun b j _ _ e3 => ho b j (by
  by_cases hb : b = x9
  · exact Or.inr (fun e => e3 ⟨hb, e⟩)
  · exact Or.inl hb)
