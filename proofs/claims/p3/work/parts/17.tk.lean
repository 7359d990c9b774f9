/-- what ticks do to what is tracked: the count of ticks at (p, kT); which request holds at (q, kH), which waits at (q, kW) -/
def zTk (p q kT kH kW : Nat) (g g2 : Nat → Nat → Value) (t h w : Int32) : Prop :=
  g2 p kT = .int t ∧ g2 q kH = .int h ∧ g2 q kW = .int w ∧ ∀ a j, ¬ (a = p ∧ j = kT) → ¬ (a = q ∧ (j = kH ∨ j = kW)) → g2 a j = g a j
theorem zTk_0 {p q kT kH kW : Nat} {g : Nat → Nat → Value} {t h w : Int32} (ht : g p kT = .int t) (hh : g q kH = .int h) (hw : g q kW = .int w) : zTk p q kT kH kW g g (t + nI 0) (if 0 = 0 ∨ w ≤ 0 then h else w) (if 0 = 0 ∨ w ≤ 0 then w else 0) := by
  refine ⟨?_, ?_, ?_, fun _ _ _ _ => rfl⟩
  · rw [ht, nI_0, Int32.add_zero]
  · simpa using hh
  · simpa using hw
theorem zTk_of {p q kT kH kW : Nat} {g : Nat → Nat → Value} {t h w : Int32} (h1 : kT ≠ kH) (h2 : kT ≠ kW) (h3 : kH ≠ kW) (hne : q ≠ p) (hh : g q kH = .int h) (hw : g q kW = .int w) :
    zTk p q kT kH kW g (if w ≤ 0 then zup g p kT (.int (t + 1)) else zup (zup (zup g p kT (.int (t + 1))) q kH (.int w)) q kW (.int 0)) (t + 1) (if w ≤ 0 then h else w) (if w ≤ 0 then w else 0) := by
  by_cases hc : w ≤ 0
  · simp only [if_pos hc]
    refine ⟨zup_self _ _ _ _, (zup_a hne).trans hh, (zup_a hne).trans hw, fun a j ha hb => ?_⟩
    refine zup_ne ?_
    by_cases e : a = p
    · exact Or.inr fun e2 => ha ⟨e, e2⟩
    · exact Or.inl e
  · simp only [if_neg hc]
    refine ⟨(zup_a hne.symm).trans ((zup_a hne.symm).trans (zup_self _ _ _ _)), (zup_j h3).trans (zup_self _ _ _ _), zup_self _ _ _ _, fun a j ha hb => ?_⟩
    rw [zup_ne, zup_ne, zup_ne]
    · by_cases e : a = p
      · exact Or.inr fun e2 => ha ⟨e, e2⟩
      · exact Or.inl e
    · by_cases e : a = q
      · exact Or.inr fun e2 => hb ⟨e, Or.inl e2⟩
      · exact Or.inl e
    · by_cases e : a = q
      · exact Or.inr fun e2 => hb ⟨e, Or.inr e2⟩
      · exact Or.inl e
theorem zTk_step {p q kT kH kW : Nat} {g g1 g2 : Nat → Nat → Value} {t h w : Int32} {i : Nat} (h1 : kT ≠ kH) (h2 : kT ≠ kW) (h3 : kH ≠ kW) (hne : q ≠ p) (hk : zTk p q kT kH kW g g1 (t + nI i) (if i = 0 ∨ w ≤ 0 then h else w) (if i = 0 ∨ w ≤ 0 then w else 0))
    (hs : zTk p q kT kH kW g1 g2 ((t + nI i) + 1) (if (if i = 0 ∨ w ≤ 0 then w else 0) ≤ 0 then (if i = 0 ∨ w ≤ 0 then h else w) else (if i = 0 ∨ w ≤ 0 then w else 0)) (if (if i = 0 ∨ w ≤ 0 then w else 0) ≤ 0 then (if i = 0 ∨ w ≤ 0 then w else 0) else 0)) :
    zTk p q kT kH kW g g2 (t + nI (i + 1)) (if i + 1 = 0 ∨ w ≤ 0 then h else w) (if i + 1 = 0 ∨ w ≤ 0 then w else 0) := by
  obtain ⟨a1, a2, a3, a4⟩ := hk
  obtain ⟨b1, b2, b3, b4⟩ := hs
  refine ⟨by rw [b1, nI_succ, Int32.add_assoc], ?_, ?_, fun a j ha hb => (b4 a j ha hb).trans (a4 a j ha hb)⟩
  · rw [b2]
    by_cases hw : w ≤ 0
    · simp [hw]
    · by_cases hi : i = 0
      · simp [hw, hi]
      · have h0 : (0 : Int32) ≤ 0 := by decide
        simp [hw, hi, h0]
  · rw [b3]
    by_cases hw : w ≤ 0
    · simp [hw]
    · by_cases hi : i = 0
      · simp [hw, hi]
      · have h0 : (0 : Int32) ≤ 0 := by decide
        simp [hw, hi, h0]
theorem z_nn {x : Int32} (h : 1 ≤ x) : ¬ x < 0 := fun q => by
  rw [Int32.le_iff_toInt_le] at h
  rw [Int32.lt_iff_toInt_lt] at q
  have e1 : (1 : Int32).toInt = 1 := by decide
  have e0 : (0 : Int32).toInt = 0 := by decide
  omega
theorem z_passend {p q kT kH kW n i : Nat} {g g1 : Nat → Nat → Value} {x t h w r v : Int32} {L : List Nat} {κ : Nat → Nat} (hn : n ≤ 100) (hp : x = nI n) (h1 : 1 ≤ x) (h2 : x ≤ 100) (hv : v ≤ 9999) (hk : zTk p q kT kH kW g g1 (t + nI i) (if i = 0 ∨ w ≤ 0 then h else w) (if i = 0 ∨ w ≤ 0 then w else 0))
    (hi : i = n) (hr : Value.int r = g1 p kT) (hev : v = t + x) : (1 ≤ x ∧ x ≤ 100) ∧ ¬ 9999 < t + x ∧ r = t + x ∧ ∃ g2 : Nat → Nat → Value, (L, κ, g1) = (L, κ, g2) ∧ zTk p q kT kH kW g g2 (t + x) (if w ≤ 0 then h else w) (if w ≤ 0 then w else 0) := by
  subst hi
  have h0 : i ≠ 0 := by
    rintro rfl
    rw [hp, nI_0] at h1
    exact absurd h1 (by decide)
  subst hev
  refine ⟨⟨h1, h2⟩, Int32.not_lt.mpr hv, ?_, g1, rfl, ?_⟩
  · exact Value.int.inj (hr.trans (by rw [hk.1, hp]))
  · rw [hp]
    simpa [h0] using hk
