/-- what was just made is none of the pool's objects -/
theorem z_fresh {D : va_G} {tc : Nat → ClassId} {A : Nat → Prop} {H0 : Heap} {X : va_W} {L : List Nat} {κ : Nat → Nat} {g : Nat → Nat → Value} {H : Heap} {locs : List Loc} {a : Nat} {e1 : va_E} (hI : zI D tc A H0 ((a, e1) :: X) L κ g H locs) : ∀ b : Nat, κ b < 99 → b ≠ a := by
  have haL : a ∉ L := by
    intro h
    obtain ⟨hA, hS, f, hP, hD, hT⟩ := hI
    obtain ⟨i, hi⟩ := List.getElem?_of_mem h
    have h2 : ((a, e1) :: X ++ va_pl L f)[1 + X.length + i]? = some (a, f a) := by
      rw [List.getElem?_append_right (by simp; omega)]
      simp only [List.length_cons, va_pl]
      rw [show 1 + X.length + i - (X.length + 1) = i by omega, List.getElem?_map, hi]
      rfl
    have := hD.1 0 _ _ _ (show ((a, e1) :: X ++ va_pl L f)[0]? = some (a, e1) from rfl) h2 rfl
    omega
  obtain ⟨hA, hS, f, hP, hD, hT⟩ := hI
  exact fun b hb e2 => haL (e2 ▸ (hT b hb).1)
