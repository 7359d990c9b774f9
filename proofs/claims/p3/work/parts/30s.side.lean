/-! the class's row of objects beside the reference's list: the i-th of r is an object of kind k1, the i-th of the list one of kind k2; the values at the places ps are the same -/
def zSd (κ : Nat → Nat) (g : Nat → Nat → Value) (r n : Nat) (f : Nat → Nat) (k1 k2 M : Nat) (ps : List (Nat × Nat)) : Prop :=
  (∀ i, i < n → ∃ a, g r i = .ref a ∧ κ a = k1 ∧ κ (f i) = k2 ∧ ∀ q ∈ ps, g a q.1 = g (f i) q.2) ∧ (∀ i, n ≤ i → i < M → g r i = .null) ∧ (∀ i j a, i < n → j < n → g r i = .ref a → g r j = .ref a → i = j) ∧ ∀ i j, i < n → j < n → f i = f j → i = j
section ZSIDE
variable {κ κ2 : Nat → Nat} {g g2 : Nat → Nat → Value} {r n k1 k2 M : Nat} {f : Nat → Nat} {ps : List (Nat × Nat)}
theorem zSd.fr (h : zSd κ g r n f k1 k2 M ps) (h1 : k1 < 99) (h2 : k2 < 99) (hκ : ∀ a, κ a < 99 → κ2 a = κ a) (hr : ∀ j, g2 r j = g r j) (ha : ∀ a j, κ a = k1 → g2 a j = g a j) (hb : ∀ a j, κ a = k2 → g2 a j = g a j) : zSd κ2 g2 r n f k1 k2 M ps := by
  obtain ⟨a1, a2, a3, a4⟩ := h
  refine ⟨fun i hi => ?_, fun i hi hj => (hr i).trans (a2 i hi hj), fun i j a hi hj e1 e2 => a3 i j a hi hj ((hr i).symm.trans e1) ((hr j).symm.trans e2), a4⟩
  obtain ⟨a, e1, e2, e3, e4⟩ := a1 i hi
  exact ⟨a, (hr i).trans e1, (hκ a (by rw [e2]; exact h1)).trans e2, (hκ _ (by rw [e3]; exact h2)).trans e3, fun q hq => (ha a q.1 e2).trans ((e4 q hq).trans (hb _ q.2 e3).symm)⟩
/-- a value written on both sides -/
theorem zSd.set (h : zSd κ g r n f k1 k2 M ps) {i a j1 j2 : Nat} (hi : i < n) (hia : g r i = .ref a) (hr : ∀ j, g2 r j = g r j) (ha : ∀ b j, κ b = k1 → ¬ (b = a ∧ j = j1) → g2 b j = g b j) (hb : ∀ b j, κ b = k2 → ¬ (b = f i ∧ j = j2) → g2 b j = g b j) (he : g2 a j1 = g2 (f i) j2)
    (hp : ∀ q ∈ ps, q.1 = j1 ↔ q.2 = j2) : zSd κ g2 r n f k1 k2 M ps := by
  obtain ⟨a1, a2, a3, a4⟩ := h
  refine ⟨fun k hk => ?_, fun i hi hj => (hr i).trans (a2 i hi hj), fun i j a hi hj e1 e2 => a3 i j a hi hj ((hr i).symm.trans e1) ((hr j).symm.trans e2), a4⟩
  obtain ⟨b, e1, e2, e3, e4⟩ := a1 k hk
  refine ⟨b, (hr k).trans e1, e2, e3, fun q hq => ?_⟩
  by_cases hki : k = i
  · have hba : b = a := Value.ref.inj (e1.symm.trans (by rw [hki]; exact hia))
    by_cases hq1 : q.1 = j1
    · rw [hq1, (hp q hq).mp hq1, hba, hki]
      exact he
    · exact (ha b q.1 e2 (fun x => hq1 x.2)).trans ((e4 q hq).trans (hb _ q.2 e3 (fun x => hq1 ((hp q hq).mpr x.2))).symm)
  · exact (ha b q.1 e2 (fun x => hki (a3 k i a hk hi (by rw [← x.1]; exact e1) hia))).trans ((e4 q hq).trans (hb _ q.2 e3 (fun x => hki (a4 k i hk hi x.1))).symm)
/-- one more on both sides -/
theorem zSd.add (h : zSd κ g r n f k1 k2 M ps) (h1 : k1 < 99) (h2 : k2 < 99) (hκ : ∀ a, κ a < 99 → κ2 a = κ a) {q q2 : Nat} (hr1 : g2 r n = .ref q) (hr : ∀ j, j ≠ n → g2 r j = g r j) (ha : ∀ a j, κ a = k1 → g2 a j = g a j) (hb : ∀ a j, κ a = k2 → g2 a j = g a j) (hq : κ2 q = k1) (hq2 : κ2 q2 = k2)
    (hf : ∀ b, κ b < 99 → b ≠ q) (hf2 : ∀ b, κ b < 99 → b ≠ q2) (he : ∀ x ∈ ps, g2 q x.1 = g2 q2 x.2) : zSd κ2 g2 r (n + 1) (va_up f n q2) k1 k2 M ps := by
  obtain ⟨a1, a2, a3, a4⟩ := h
  have fv : ∀ i, i < n → va_up f n q2 i = f i := fun i hi => va_up_ne f q2 (by omega)
  have rn : ∀ i, i < n → g2 r i = g r i := fun i hi => hr i (by omega)
  have hc : ∀ i, i < n + 1 → i < n ∨ i = n := fun i hi => by omega
  have old : ∀ i a, i < n → g2 r i = .ref a → a ≠ q := by
    intro i a hi e1
    obtain ⟨b, e3, e4, -⟩ := a1 i hi
    obtain rfl : b = a := Value.ref.inj (e3.symm.trans ((rn i hi).symm.trans e1))
    exact hf b (by rw [e4]; exact h1)
  have old2 : ∀ i, i < n → f i ≠ q2 := by
    intro i hi
    obtain ⟨b, -, -, e5, -⟩ := a1 i hi
    exact hf2 (f i) (by rw [e5]; exact h2)
  refine ⟨fun i hi => ?_, fun i hi hj => (hr i (by omega)).trans (a2 i (by omega) hj), fun i j a hi hj e1 e2 => ?_, fun i j hi hj e => ?_⟩
  · rcases hc i hi with hi2 | hi2
    · obtain ⟨a, e1, e2, e3, e4⟩ := a1 i hi2
      rw [fv i hi2]
      exact ⟨a, (rn i hi2).trans e1, (hκ a (by rw [e2]; exact h1)).trans e2, (hκ _ (by rw [e3]; exact h2)).trans e3, fun x hx => (ha a x.1 e2).trans ((e4 x hx).trans (hb _ x.2 e3).symm)⟩
    · rw [hi2, va_up_self]
      exact ⟨q, hr1, hq, hq2, he⟩
  · rcases hc i hi with hi2 | hi2 <;> rcases hc j hj with hj2 | hj2
    · exact a3 i j a hi2 hj2 ((rn i hi2).symm.trans e1) ((rn j hj2).symm.trans e2)
    · rw [hj2] at e2
      exact absurd (Value.ref.inj (e2.symm.trans hr1)) (old i a hi2 e1)
    · rw [hi2] at e1
      exact absurd (Value.ref.inj (e1.symm.trans hr1)) (old j a hj2 e2)
    · rw [hi2, hj2]
  · rcases hc i hi with hi2 | hi2 <;> rcases hc j hj with hj2 | hj2
    · rw [fv i hi2, fv j hj2] at e
      exact a4 i j hi2 hj2 e
    · rw [fv i hi2, hj2, va_up_self] at e
      exact absurd e (old2 i hi2)
    · rw [fv j hj2, hi2, va_up_self] at e
      exact absurd e.symm (old2 j hj2)
    · rw [hi2, hj2]
theorem zSd.first (h : zSd κ g r n f k1 k2 M ps) {i : Nat} (hi : i < M) (hno : ∀ j, j < i → g r j ≠ .null) (hnl : g r i = .null) : i = n := by
  rcases Nat.lt_trichotomy i n with h1 | h1 | h1
  · obtain ⟨a, e, -⟩ := h.1 i h1
    rw [hnl] at e
    cases e
  · exact h1
  · exact absurd (h.2.1 n (Nat.le_refl _) (by omega)) (hno n h1)
theorem zSd.full (h : zSd κ g r n f k1 k2 M ps) (hn : n ≤ M) (hno : ∀ j, j < M → g r j ≠ .null) : n = M := by
  rcases Nat.lt_or_eq_of_le hn with h1 | h1
  · exact absurd (h.2.1 n (Nat.le_refl _) h1) (hno n h1)
  · exact h1
theorem zSd.has (h : zSd κ g r n f k1 k2 M ps) (hn : n ≤ M) (hM : M < 2 ^ 31) {x : Int32} : zHas g r M x ↔ ∃ i, i < n ∧ x = nI i := by
  constructor
  · rintro ⟨h1, b, h2⟩
    obtain ⟨i, hi, rfl⟩ := vp_in_of h1 hM
    rw [nI_clamp (by omega)] at h2
    refine ⟨i, Nat.not_le.mp fun q => ?_, rfl⟩
    rw [h.2.1 i q hi] at h2
    cases h2
  · rintro ⟨i, hi, rfl⟩
    obtain ⟨a, e, -⟩ := h.1 i hi
    exact ⟨vp_in_nI (by omega) hM, a, by rw [nI_clamp (by omega)]; exact e⟩
/-- the object that the class's number x names -/
theorem zSd.nth (h : zSd κ g r n f k1 k2 M ps) (hn : n ≤ M) (hM : M < 2 ^ 31) {i a : Nat} (hi : i < n) (ha : g r (nI i).toNatClampNeg = .ref a) : g r i = .ref a ∧ κ a = k1 ∧ κ (f i) = k2 ∧ ∀ q ∈ ps, g a q.1 = g (f i) q.2 := by
  rw [nI_clamp (by omega)] at ha
  obtain ⟨b, e1, e2, e3, e4⟩ := h.1 i hi
  obtain rfl : b = a := Value.ref.inj (e1.symm.trans ha)
  exact ⟨ha, e2, e3, e4⟩
theorem zSd.zero (h : zSd κ g r n f k1 k2 M ps) (hr : ∀ j, g r j = .null) : n = 0 := by
  rcases Nat.eq_zero_or_pos n with h1 | h1
  · exact h1
  · obtain ⟨a, e, -⟩ := h.1 0 h1
    rw [hr] at e
    cases e
theorem zSd.nil (hr : ∀ j, g r j = .null) : zSd κ g r 0 f k1 k2 M ps :=
  ⟨fun i hi => absurd hi (Nat.not_lt_zero _), fun i _ _ => hr i, fun i j a hi => absurd hi (Nat.not_lt_zero _), fun i j hi => absurd hi (Nat.not_lt_zero _)⟩
end ZSIDE
theorem z_in3I {x : Int32} : vp_in x 3 ↔ 0 ≤ x ∧ x ≤ 2 := by
  have h0 : (0 : Int32).toInt = 0 := by decide
  have h2 : (2 : Int32).toInt = 2 := by decide
  rw [vp_in_iff, Int32.le_iff_toInt_le, Int32.le_iff_toInt_le, h0, h2]
  omega
