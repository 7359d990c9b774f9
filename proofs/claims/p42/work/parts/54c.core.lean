/-- a core more: six new objects, and the core in its place -/
theorem zSd42.core {κ κ2 : Nat → Nat} {g g2 : Nat → Nat → Value} {P c b a q : Nat → Nat} {n t k co q1 q2 q3 q4 q5 : Nat} (h : zSd42 κ g P c b a q n t k) (hn6 : n < 6) (hx : zExt κ g κ2 g2) (hk : κ2 co = 5 ∧ κ2 q1 = 3 ∧ κ2 q2 = 32 ∧ κ2 q3 = 33 ∧ κ2 q4 = 52 ∧ κ2 q5 = 53)
    (hfr : (∀ x : Nat, κ x < 99 → x ≠ co) ∧ (∀ x : Nat, κ x < 99 → x ≠ q1) ∧ (∀ x : Nat, κ x < 99 → x ≠ q2) ∧ (∀ x : Nat, κ x < 99 → x ≠ q3) ∧ (∀ x : Nat, κ x < 99 → x ≠ q4) ∧ (∀ x : Nat, κ x < 99 → x ≠ q5))
    (hl : g2 co 15 = .ref q1 ∧ g2 co 19 = .int 0 ∧ g2 q1 1 = .ref q2 ∧ g2 q1 2 = .ref q3) (hA : zN g2 q2 q4 1 ∧ zV g2 q4 = 400) (hB : zN g2 q3 q5 1 ∧ zV g2 q5 = 20) :
    zSd42 κ2 (zup g2 (P 1) n (.ref co)) P (fun i => if i = n then co else c i) (fun i => if i = n then q1 else b i) (fun x => if x = 5 + 2 * n then q2 else if x = 6 + 2 * n then q3 else a x) (fun x => if x = 5 + 2 * n then q4 else if x = 6 + 2 * n then q5 else q x) (n + 1) t (k + 1) := by
  obtain ⟨hS, ⟨⟨t1, t2⟩, t3⟩, h20, hti, ht, hW, ⟨A, O, W, B, E, T, bt, ⟨lA, lO, lW, lB, lE, lT, lb, hbt, hsum⟩, hc⟩, hgr⟩ := h
  obtain ⟨⟨k0, k1, k2, k3, k4, k5, k6⟩, ⟨l1, l2, l3, l4, l5, l6, l7⟩, ⟨m0, m1, m2, m3⟩, hn, hco, hz, hi, hAF⟩ := id hS
  obtain ⟨c0, c1, c2, c3, c4, c5⟩ := hk
  obtain ⟨f0, f1, f2, f3, f4, f5⟩ := hfr
  obtain ⟨g3, hg3⟩ : ∃ g9, g9 = zup g2 (P 1) n (.ref co) := ⟨_, rfl⟩
  have hs3 : g3 (P 1) n = .ref co := by rw [hg3]; exact zup_self _ _ _ _
  have ho3 : ∀ x j, (x ≠ P 1 ∨ j ≠ n) → g3 x j = g2 x j := fun x j h => by rw [hg3]; exact zup_ne h
  rw [← hg3]
  have kk : ∀ {x r : Nat}, κ x = r → r < 99 → κ2 x = r := fun e hr => hx.k e hr
  have o : ∀ {x r : Nat} (j : Nat), κ x = r → r < 99 → r ≠ 23 → g3 x j = g x j := fun j e hr hne => (ho3 _ j (Or.inl (z_apart e k1 hne))).trans (hx.2 _ j (by rw [e]; exact hr))
  have w : ∀ {x r : Nat} (j : Nat), κ2 x = r → r ≠ 23 → g3 x j = g2 x j := fun j e hne => ho3 _ j (Or.inl (z_apart e (kk k1 (by decide)) hne))
  have amO : ∀ x j, x < 5 + 2 * n → g3 (a x) j = g (a x) j ∧ g3 (q x) j = g (q x) j := fun x j hx9 => by
    obtain ⟨e1, e2, -⟩ := hAF.1 x hx9
    have e3 := kx_b x
    exact ⟨o j e1 (by omega) (by omega), o j e2 (by omega) (by omega)⟩
  have vO : ∀ x, x < 5 + 2 * n → zV g3 (q x) = zV g (q x) := fun x hx9 => vS_congr (fun j _ => dg_eq (amO x j hx9).2)
  have nN : ∀ {x y r s u : Nat}, κ2 x = r → r ≠ 23 → κ2 y = s → s ≠ 23 → zN g2 x y u → zN g3 x y u ∧ zV g3 y = zV g2 y := fun e1 h1 e2 h2 hN => by
    have ed : ∀ j, dg g3 _ j = dg g2 _ j := fun j => dg_eq (w j e2 h2)
    exact ⟨⟨⟨(w 0 e1 h1).trans hN.r, (w 1 e1 h1).trans hN.us, hN.le, fun j hj => by rw [ed j]; exact hN.bd j hj, fun j hj hj2 => (ed j).trans (hN.hi j hj hj2)⟩, by rw [ed]; exact hN.top⟩, vS_congr (fun j _ => ed j)⟩
  obtain ⟨nA, vA⟩ := nN c2 (by decide) c4 (by decide) hA.1
  obtain ⟨nB, vB⟩ := nN c3 (by decide) c5 (by decide) hB.1
  obtain ⟨a2, ha2⟩ : ∃ f : Nat → Nat, f = fun x => if x = 5 + 2 * n then q2 else if x = 6 + 2 * n then q3 else a x := ⟨_, rfl⟩
  obtain ⟨qq, hqq⟩ : ∃ f : Nat → Nat, f = fun x => if x = 5 + 2 * n then q4 else if x = 6 + 2 * n then q5 else q x := ⟨_, rfl⟩
  obtain ⟨cc, hcc⟩ : ∃ f : Nat → Nat, f = fun i => if i = n then co else c i := ⟨_, rfl⟩
  obtain ⟨bb, hbb⟩ : ∃ f : Nat → Nat, f = fun i => if i = n then q1 else b i := ⟨_, rfl⟩
  rw [← ha2, ← hqq, ← hcc, ← hbb]
  have aO : ∀ x, x < 5 + 2 * n → a2 x = a x := fun x h => by rw [ha2]; simp only []; rw [if_neg (by omega), if_neg (by omega)]
  have qO : ∀ x, x < 5 + 2 * n → qq x = q x := fun x h => by rw [hqq]; simp only []; rw [if_neg (by omega), if_neg (by omega)]
  have aH : a2 (5 + 2 * n) = q2 := by rw [ha2]; exact if_pos rfl
  have qH : qq (5 + 2 * n) = q4 := by rw [hqq]; exact if_pos rfl
  have aD : a2 (6 + 2 * n) = q3 := by rw [ha2]; simp only []; rw [if_neg (by omega)]; exact if_pos trivial
  have qD : qq (6 + 2 * n) = q5 := by rw [hqq]; simp only []; rw [if_neg (by omega)]; exact if_pos trivial
  have cO : ∀ i, i < n → cc i = c i := fun i h => by rw [hcc]; exact if_neg (by omega)
  have cN : cc n = co := by rw [hcc]; exact if_pos rfl
  have bO : ∀ i, i < n → bb i = b i := fun i h => by rw [hbb]; exact if_neg (by omega)
  have bN : bb n = q1 := by rw [hbb]; exact if_pos rfl
  have hall : ∀ x, x < 5 + 2 * (n + 1) → κ2 (a2 x) = kx x ∧ κ2 (qq x) = kx x + 20 ∧ ∃ u, zN g3 (a2 x) (qq x) u := fun x hx9 => by
    by_cases h1 : x < 5 + 2 * n
    · obtain ⟨e1, e2, u, e3⟩ := hAF.1 x h1
      have e4 := kx_b x
      have ed : ∀ j, dg g3 (q x) j = dg g (q x) j := fun j => dg_eq (amO x j h1).2
      rw [aO x h1, qO x h1]
      exact ⟨kk e1 (by omega), kk e2 (by omega), u, ⟨(amO x 0 h1).1.trans e3.r, (amO x 1 h1).1.trans e3.us, e3.le, fun j hj => by rw [ed j]; exact e3.bd j hj, fun j hj hj2 => (ed j).trans (e3.hi j hj hj2)⟩, by rw [ed]; exact e3.top⟩
    · rcases (show x = 5 + 2 * n ∨ x = 6 + 2 * n by omega) with e | e
      · rw [e, aH, qH, kx_h]; exact ⟨c2, c4, 1, nA⟩
      · rw [e, aD, qD, kx_d]; exact ⟨c3, c5, 1, nB⟩
  have hdis : ∀ x y, x < 5 + 2 * (n + 1) → y < 5 + 2 * (n + 1) → x ≠ y → a2 x ≠ a2 y ∧ qq x ≠ qq y := by
    have one : ∀ x y, x < 5 + 2 * n → 5 + 2 * n ≤ y → y < 5 + 2 * (n + 1) → a2 x ≠ a2 y ∧ qq x ≠ qq y := fun x y h1 h2 h3 => by
      obtain ⟨e1, e2, -⟩ := hAF.1 x h1
      have e4 := kx_b x
      rw [aO x h1, qO x h1]
      rcases (show y = 5 + 2 * n ∨ y = 6 + 2 * n by omega) with e | e
      · rw [e, aH, qH]; exact ⟨f2 _ (by omega), f4 _ (by omega)⟩
      · rw [e, aD, qD]; exact ⟨f3 _ (by omega), f5 _ (by omega)⟩
    intro x y hx9 hy9 hne
    by_cases h1 : x < 5 + 2 * n
    · by_cases h2 : y < 5 + 2 * n
      · rw [aO x h1, aO y h2, qO x h1, qO y h2]; exact hAF.2 x y h1 h2 hne
      · exact one x y h1 (by omega) hy9
    · by_cases h2 : y < 5 + 2 * n
      · have h3 := one y x h2 (by omega) hx9
        exact ⟨Ne.symm h3.1, Ne.symm h3.2⟩
      · have d1 : q2 ≠ q3 := z_apart c2 c3 (by decide)
        have d2 : q4 ≠ q5 := z_apart c4 c5 (by decide)
        rcases (show x = 5 + 2 * n ∨ x = 6 + 2 * n by omega) with e | e
        · rw [e, show y = 6 + 2 * n by omega, aH, aD, qH, qD]; exact ⟨d1, d2⟩
        · rw [e, show y = 5 + 2 * n by omega, aH, aD, qH, qD]; exact ⟨Ne.symm d1, Ne.symm d2⟩
  have p1 : ∀ j, j ≠ n → g3 (P 1) j = g (P 1) j := fun j hj => (ho3 _ j (Or.inr hj)).trans (hx.2 _ j (by rw [k1]; decide))
  have hShp : zShp κ2 g3 P cc bb a2 qq (n + 1) := by
    refine ⟨⟨kk k0 (by decide), kk k1 (by decide), kk k2 (by decide), kk k3 (by decide), kk k4 (by decide), kk k5 (by decide), kk k6 (by decide)⟩,
      ⟨(o 1 k0 (by decide) (by decide)).trans l1, (o 2 k0 (by decide) (by decide)).trans l2, (o 3 k0 (by decide) (by decide)).trans l3, (o 4 k0 (by decide) (by decide)).trans l4, (o 5 k0 (by decide) (by decide)).trans l5, by rw [aO 3 (by omega)]; exact (o 6 k0 (by decide) (by decide)).trans l6, by rw [aO 4 (by omega)]; exact (o 7 k0 (by decide) (by decide)).trans l7⟩,
      ⟨(o 0 k3 (by decide) (by decide)).trans m0, by rw [aO 2 (by omega)]; exact (o 1 k3 (by decide) (by decide)).trans m1, by rw [aO 0 (by omega)]; exact (o 1 k6 (by decide) (by decide)).trans m2, by rw [aO 1 (by omega)]; exact (o 2 k6 (by decide) (by decide)).trans m3⟩, by omega, fun i hi9 => ?_, fun i h1 h2 => (p1 i (by omega)).trans (hz i (by omega) h2), fun i j h1 h2 hne => ?_, hall, hdis⟩
    · by_cases hin : i < n
      · obtain ⟨e1, e2, e3, e4, e5, e6⟩ := hco i hin
        rw [cO i hin, bO i hin, aO (5 + 2 * i) (by omega), aO (6 + 2 * i) (by omega)]
        exact ⟨kk e1 (by decide), kk e2 (by decide), (p1 i (by omega)).trans e3, (o 15 e1 (by decide) (by decide)).trans e4, (o 1 e2 (by decide) (by decide)).trans e5, (o 2 e2 (by decide) (by decide)).trans e6⟩
      · rw [show i = n by omega, cN, bN, aH, aD]
        exact ⟨c0, c1, hs3, (w 15 c0 (by decide)).trans hl.1, (w 1 c1 (by decide)).trans hl.2.2.1, (w 2 c1 (by decide)).trans hl.2.2.2⟩
    · by_cases h3 : i < n
      · by_cases h4 : j < n
        · rw [cO i h3, cO j h4]; exact hi i j h3 h4 hne
        · rw [cO i h3, show j = n by omega, cN]; exact f0 _ (by rw [(hco i h3).1]; decide)
      · by_cases h4 : j < n
        · rw [cO j h4, show i = n by omega, cN]; exact Ne.symm (f0 _ (by rw [(hco j h4).1]; decide))
        · exact absurd (show i = j by omega) hne
  have vQ : ∀ x, x < 5 + 2 * n → zV g3 (qq x) = zV g (q x) := fun x h9 => by rw [qO x h9]; exact vO x h9
  have vH : zV g3 (qq (5 + 2 * n)) = 400 := by rw [qH, vA, hA.2]
  have vD : zV g3 (qq (6 + 2 * n)) = 20 := by rw [qD, vB, hB.2]
  have hs : zHs g3 qq (n + 1) = zHs g q n + 400 := by
    show zSm (fun j => zV g3 (qq (5 + 2 * j))) n + zV g3 (qq (5 + 2 * n)) = _
    rw [vH, zSm_congr (fun j hj => vQ (5 + 2 * j) (by omega))]
  have v0 := vQ 0 (by omega)
  refine ⟨hShp, ⟨by rw [vQ 1 (by omega), v0]; exact ⟨t1, t2⟩, fun j hj => ?_⟩, (vQ 2 (by omega)).trans h20, (o 8 k0 (by decide) (by decide)).trans hti, ht, fun x hx9 => ?_,
    ⟨A, O, W, B, E, T, bt, ⟨(o 2 k3 (by decide) (by decide)).trans lA, (o 9 k0 (by decide) (by decide)).trans lO, (o 6 k4 (by decide) (by decide)).trans lW, (o 7 k4 (by decide) (by decide)).trans lB, (o 8 k4 (by decide) (by decide)).trans lE, (o 9 k4 (by decide) (by decide)).trans lT, (o 1 k4 (by decide) (by decide)).trans lb, hbt, hsum⟩, ?_⟩, zMore hgr ?_⟩
  · by_cases h1 : j < n
    · rw [vQ (6 + 2 * j) (by omega), vQ (5 + 2 * j) (by omega)]; exact t3 j h1
    · rw [show j = n by omega, vH, vD]; decide
  · by_cases hin : x < n
    · rw [cO x hin]; exact (hW x hin).eq (o 19 (hco x hin).1 (by decide) (by decide))
    · rw [show x = n by omega, cN]; exact ⟨0, (w 19 c0 (by decide)).trans hl.2.1, by omega⟩
  · show zV g3 (qq 0) + zHs g3 qq (n + 1) + A = _
    have hc9 : zV g (q 0) + zHs g q n + A = 4000 + 400 * (n : Int) + T + O := hc
    omega
  · show zV g3 (qq 0) + zHs g3 qq (n + 1) ≤ zV g (q 0) + zHs g q n + 1000000
    omega
