/-! the family of Amounts: 0 the case's heat, 1 its degrees, 2 the air, 3 the power of all, 4 what passes; 5 + 2 i the heat of core i, 6 + 2 i its degrees -/
def kx (x : Nat) : Nat := if x < 5 then 34 + x else 32 + (x + 1) % 2
theorem kx_ok (x : Nat) : zAK (kx x) (kx x + 20) := by
  unfold kx
  by_cases h : x < 5
  · rw [if_pos h]
    rcases (show x = 0 ∨ x = 1 ∨ x = 2 ∨ x = 3 ∨ x = 4 by omega) with rfl | rfl | rfl | rfl | rfl <;> exact ⟨rfl, rfl, rfl⟩
  · rw [if_neg h]
    rcases (show (x + 1) % 2 = 0 ∨ (x + 1) % 2 = 1 by omega) with h | h <;> rw [h] <;> exact ⟨rfl, rfl, rfl⟩
theorem kx_b (x : Nat) : 32 ≤ kx x ∧ kx x ≤ 38 := by
  unfold kx
  split <;> omega
theorem kx_h (i : Nat) : kx (5 + 2 * i) = 32 := by
  unfold kx
  rw [if_neg (by omega)]
  omega
theorem kx_d (i : Nat) : kx (6 + 2 * i) = 33 := by
  unfold kx
  rw [if_neg (by omega)]
  omega
def zAF (κ : Nat → Nat) (g : Nat → Nat → Value) (a q : Nat → Nat) (N : Nat) : Prop :=
  (∀ x, x < N → κ (a x) = kx x ∧ κ (q x) = kx x + 20 ∧ ∃ u, zN g (a x) (q x) u) ∧ ∀ x y, x < N → y < N → x ≠ y → a x ≠ a y ∧ q x ≠ q y
/-- no other cells than those of Amounts have changed -/
def zQ (κ : Nat → Nat) (g g2 : Nat → Nat → Value) : Prop := ∀ b j, ¬ (52 ≤ κ b ∧ κ b ≤ 58) → ¬ (32 ≤ κ b ∧ κ b ≤ 38 ∧ j = 1) → g2 b j = g b j
theorem zQ.rf {κ : Nat → Nat} {g : Nat → Nat → Value} : zQ κ g g := fun _ _ _ _ => rfl
theorem zQ.tr {κ : Nat → Nat} {g g1 g2 : Nat → Nat → Value} (h : zQ κ g g1) (h2 : zQ κ g1 g2) : zQ κ g g2 := fun b j e1 e2 => (h2 b j e1 e2).trans (h b j e1 e2)
theorem zQ.at {κ : Nat → Nat} {g g2 : Nat → Nat → Value} (h : zQ κ g g2) {b k : Nat} (j : Nat) (hk : κ b = k) (hn : k < 32 ∨ (38 < k ∧ k < 52) ∨ 58 < k) : g2 b j = g b j := h b j (by omega) (by omega)
section ZAF
variable {κ : Nat → Nat} {g g2 : Nat → Nat → Value} {a q : Nat → Nat} {N x : Nat}
theorem zAF.n (h : zAF κ g a q N) (hx : x < N) : ∃ u, zN g (a x) (q x) u := (h.1 x hx).2.2
theorem zAF.nn (h : zAF κ g a q N) (hx : x < N) : 0 ≤ zV g (q x) := by
  obtain ⟨u, hu⟩ := h.n hx
  exact hu.toZN0.nn
theorem zAF.ne (h : zAF κ g a q N) {y : Nat} (hx : x < N) (hy : y < N) : a x ≠ q y := by
  intro e
  have h1 := (h.1 x hx).1
  have h2 := (h.1 y hy).2.1
  have h3 := kx_b x
  have h4 := kx_b y
  rw [e] at h1
  omega
theorem zFr.qq (hf : zFr (a x) (q x) g g2) (h : zAF κ g a q N) (hx : x < N) : zQ κ g g2 := by
  obtain ⟨h1, h2, -⟩ := h.1 x hx
  have h3 := kx_b x
  exact fun b j e1 e2 => hf b j (fun e => e1 (by rw [e]; omega)) (by
    by_cases hb : b = a x
    · exact Or.inr (fun e => e2 (by rw [hb]; omega))
    · exact Or.inl hb)
/-- behind a change of one of them -/
theorem zAF.one (h : zAF κ g a q N) (hx : x < N) {u : Nat} (hf : zFr (a x) (q x) g g2) (hn : zN g2 (a x) (q x) u) : zAF κ g2 a q N ∧ (∀ y, y < N → y ≠ x → zV g2 (q y) = zV g (q y)) ∧ zQ κ g g2 := by
  refine ⟨⟨fun y hy => ?_, h.2⟩, fun y hy hyx => ?_, hf.qq h hx⟩
  · obtain ⟨h1, h2, w, hw⟩ := h.1 y hy
    by_cases hyx : y = x
    · subst hyx; exact ⟨h1, h2, u, hn⟩
    · obtain ⟨e1, e2⟩ := h.2 y x hy hx hyx
      exact ⟨h1, h2, w, hw.o hf (h.ne hy hx) e1 e2 (Ne.symm (h.ne hx hy))⟩
  · obtain ⟨e1, e2⟩ := h.2 y x hy hx hyx
    exact zV_o hf e2 (Ne.symm (h.ne hx hy))
/-- an Amount's method, in the family -/
theorem zAF.am (h : zAF κ g a q N) (hx : x < N) {L : List Nat} {v : Int} {u : zS} (hm : zAm L κ g (a x) (q x) v u) : ∃ g2, u = (L, κ, g2) ∧ zAF κ g2 a q N ∧ zV g2 (q x) = v ∧ (∀ y, y < N → y ≠ x → zV g2 (q y) = zV g (q y)) ∧ zQ κ g g2 := by
  obtain ⟨g2, w, e, hn, hv, hf⟩ := hm
  obtain ⟨h1, h2, h3⟩ := h.one hx hf hn
  exact ⟨g2, e, h1, hv, h2, h3⟩
/-- a Body's method, in the family -/
theorem zAF.bm (h : zAF κ g a q N) {y : Nat} (hx : x < N) (hy : y < N) (hxy : y ≠ x) {L : List Nat} {w : Nat} {v : Int} {u : zS} (hm : zBm L κ g (a x) (q x) (a y) (q y) w v u) :
    ∃ g2, u = (L, κ, g2) ∧ zAF κ g2 a q N ∧ zV g2 (q x) = v ∧ zV g2 (q y) = v / (w : Int) ∧ (∀ z, z < N → z ≠ x → z ≠ y → zV g2 (q z) = zV g (q z)) ∧ zQ κ g g2 := by
  obtain ⟨g2, uh, ud, e, hn, hd, hv, hw, hf⟩ := hm
  have o : ∀ z j, z < N → z ≠ x → z ≠ y → g2 (a z) j = g (a z) j ∧ g2 (q z) j = g (q z) j := fun z j hz h1 h2 => by
    obtain ⟨e1, e2⟩ := h.2 z x hz hx h1
    obtain ⟨e3, e4⟩ := h.2 z y hz hy h2
    exact ⟨hf _ j (h.ne hz hx) (h.ne hz hy) (Or.inl e1) (Or.inl e3), hf _ j e2 e4 (Or.inl (Ne.symm (h.ne hx hz))) (Or.inl (Ne.symm (h.ne hy hz)))⟩
  refine ⟨g2, e, ⟨fun z hz => ?_, h.2⟩, hv, hw, fun z hz h1 h2 => vS_congr (fun j _ => dg_eq (o z j hz h1 h2).2), fun b j e1 e2 => ?_⟩
  · obtain ⟨h1, h2, u9, h3⟩ := h.1 z hz
    by_cases hzx : z = x
    · subst hzx; exact ⟨h1, h2, uh, hn⟩
    · by_cases hzy : z = y
      · subst hzy; exact ⟨h1, h2, ud, hd⟩
      · have e5 : ∀ j, dg g2 (q z) j = dg g (q z) j := fun j => dg_eq (o z j hz hzx hzy).2
        exact ⟨h1, h2, u9, ⟨(o z 0 hz hzx hzy).1.trans h3.r, (o z 1 hz hzx hzy).1.trans h3.us, h3.le, fun j hj => by rw [e5 j]; exact h3.bd j hj, fun j hj hj2 => (e5 j).trans (h3.hi j hj hj2)⟩, by rw [e5]; exact h3.top⟩
  · obtain ⟨h1, h2, -⟩ := h.1 x hx
    obtain ⟨h3, h4, -⟩ := h.1 y hy
    have h5 := kx_b x
    have h6 := kx_b y
    exact hf b j (fun e => e1 (by rw [e]; omega)) (fun e => e1 (by rw [e]; omega))
      (by by_cases hb : b = a x; exact Or.inr (fun e => e2 (by rw [hb]; omega)); exact Or.inl hb) (by by_cases hb : b = a y; exact Or.inr (fun e => e2 (by rw [hb]; omega)); exact Or.inl hb)
end ZAF
/-- the class's objects: P 0 itself, 1 its cores, 2 its threads, 3 the cooling, 4 the supply, 5 the requests, 6 the case; n cores c with their bodies b -/
def zShp (κ : Nat → Nat) (g : Nat → Nat → Value) (P c b a q : Nat → Nat) (n : Nat) : Prop :=
  (κ (P 0) = 10 ∧ κ (P 1) = 23 ∧ κ (P 2) = 24 ∧ κ (P 3) = 4 ∧ κ (P 4) = 8 ∧ κ (P 5) = 7 ∧ κ (P 6) = 31) ∧
  (g (P 0) 1 = .ref (P 1) ∧ g (P 0) 2 = .ref (P 2) ∧ g (P 0) 3 = .ref (P 3) ∧ g (P 0) 4 = .ref (P 4) ∧ g (P 0) 5 = .ref (P 5) ∧ g (P 0) 6 = .ref (a 3) ∧ g (P 0) 7 = .ref (a 4)) ∧
  (g (P 3) 0 = .ref (P 6) ∧ g (P 3) 1 = .ref (a 2) ∧ g (P 6) 1 = .ref (a 0) ∧ g (P 6) 2 = .ref (a 1)) ∧ n ≤ 6 ∧
  (∀ i, i < n → κ (c i) = 5 ∧ κ (b i) = 3 ∧ g (P 1) i = .ref (c i) ∧ g (c i) 15 = .ref (b i) ∧ g (b i) 1 = .ref (a (5 + 2 * i)) ∧ g (b i) 2 = .ref (a (6 + 2 * i))) ∧
  (∀ i, n ≤ i → i < 6 → g (P 1) i = .null) ∧ (∀ i j, i < n → j < n → i ≠ j → c i ≠ c j) ∧ zAF κ g a q (5 + 2 * n)
theorem zShp.af {κ : Nat → Nat} {g : Nat → Nat → Value} {P c b a q : Nat → Nat} {n : Nat} (h : zShp κ g P c b a q n) : zAF κ g a q (5 + 2 * n) := h.2.2.2.2.2.2.2
theorem zShp.n6 {κ : Nat → Nat} {g : Nat → Nat → Value} {P c b a q : Nat → Nat} {n : Nat} (h : zShp κ g P c b a q n) : n ≤ 6 := h.2.2.2.1
theorem zShp.co {κ : Nat → Nat} {g : Nat → Nat → Value} {P c b a q : Nat → Nat} {n i : Nat} (h : zShp κ g P c b a q n) (hi : i < n) : κ (c i) = 5 ∧ κ (b i) = 3 ∧ g (P 1) i = .ref (c i) ∧ g (c i) 15 = .ref (b i) ∧ g (b i) 1 = .ref (a (5 + 2 * i)) ∧ g (b i) 2 = .ref (a (6 + 2 * i)) := h.2.2.2.2.1 i hi
theorem zShp.q {κ : Nat → Nat} {g g2 : Nat → Nat → Value} {P c b a q : Nat → Nat} {n : Nat} (h : zShp κ g P c b a q n) (hq : zQ κ g g2) (hf : zAF κ g2 a q (5 + 2 * n)) : zShp κ g2 P c b a q n := by
  obtain ⟨⟨k0, k1, k2, k3, k4, k5, k6⟩, ⟨l1, l2, l3, l4, l5, l6, l7⟩, ⟨m0, m1, m2, m3⟩, hn, hc, hz, hi, -⟩ := h
  have o : ∀ {b9 k : Nat} (j : Nat), κ b9 = k → (k < 32 ∨ (38 < k ∧ k < 52) ∨ 58 < k) → g2 b9 j = g b9 j := fun j e hk => hq.at j e hk
  refine ⟨⟨k0, k1, k2, k3, k4, k5, k6⟩, ⟨(o 1 k0 (by decide)).trans l1, (o 2 k0 (by decide)).trans l2, (o 3 k0 (by decide)).trans l3, (o 4 k0 (by decide)).trans l4, (o 5 k0 (by decide)).trans l5, (o 6 k0 (by decide)).trans l6, (o 7 k0 (by decide)).trans l7⟩,
    ⟨(o 0 k3 (by decide)).trans m0, (o 1 k3 (by decide)).trans m1, (o 1 k6 (by decide)).trans m2, (o 2 k6 (by decide)).trans m3⟩, hn, fun i h1 => ?_, fun i h1 h2 => (o i k1 (by decide)).trans (hz i h1 h2), hi, hf⟩
  obtain ⟨e1, e2, e3, e4, e5, e6⟩ := hc i h1
  exact ⟨e1, e2, (o i k1 (by decide)).trans e3, (o 15 e1 (by decide)).trans e4, (o 1 e2 (by decide)).trans e5, (o 2 e2 (by decide)).trans e6⟩
/-- sums over the cores -/
def zSm (f : Nat → Int) : Nat → Int
  | 0 => 0
  | n + 1 => zSm f n + f n
theorem zSm_congr {f f2 : Nat → Int} {n : Nat} (h : ∀ i, i < n → f2 i = f i) : zSm f2 n = zSm f n := by
  induction n with
  | zero => rfl
  | succ n ih => rw [zSm, zSm, ih (fun i hi => h i (by omega)), h n (by omega)]
theorem zSm_up {f f2 : Nat → Int} {k : Nat} (h : ∀ i, i ≠ k → f2 i = f i) : ∀ n, k < n → zSm f2 n = zSm f n + (f2 k - f k) := by
  intro n
  induction n with
  | zero => intro hk; exact absurd hk (Nat.not_lt_zero _)
  | succ n ih =>
    intro hk
    rw [zSm, zSm]
    by_cases h1 : k = n
    · subst h1
      rw [zSm_congr (fun i hi => h i (by omega))]
      omega
    · rw [ih (by omega), h n (fun e => h1 e.symm)]
      omega
theorem zSm_nn {f : Nat → Int} {n : Nat} (h : ∀ i, i < n → 0 ≤ f i) : 0 ≤ zSm f n := by
  induction n with
  | zero => exact Int.le_refl 0
  | succ n ih =>
    have h1 := ih (fun i hi => h i (by omega))
    have h2 := h n (by omega)
    rw [zSm]
    omega
theorem zSm_le {f : Nat → Int} {n i : Nat} (h : ∀ j, j < n → 0 ≤ f j) (hi : i < n) : f i ≤ zSm f n := by
  induction n with
  | zero => exact absurd hi (Nat.not_lt_zero _)
  | succ n ih =>
    rw [zSm]
    have h2 := h n (by omega)
    by_cases h1 : i = n
    · subst h1
      have h3 := zSm_nn (n := i) (fun j hj => h j (by omega))
      omega
    · have h3 := ih (fun j hj => h j (by omega)) (by omega)
      omega
theorem zSm_part {f : Nat → Int} {n i : Nat} (h : ∀ j, j < n → 0 ≤ f j) (hi : i ≤ n) : zSm f i ≤ zSm f n := by
  induction n with
  | zero => rw [Nat.le_zero.mp hi]; exact Int.le_refl _
  | succ n ih =>
    by_cases h1 : i = n + 1
    · rw [h1]; exact Int.le_refl _
    · have h3 := ih (fun j hj => h j (by omega)) (by omega)
      have h2 := h n (by omega)
      rw [zSm]
      omega
