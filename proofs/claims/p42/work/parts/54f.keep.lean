/-- what is not the class's own does not matter -/
def zKep (k : Nat) : Prop := k = 3 ∨ k = 4 ∨ k = 5 ∨ k = 8 ∨ k = 10 ∨ k = 23 ∨ k = 31 ∨ (32 ≤ k ∧ k ≤ 38) ∨ (52 ≤ k ∧ k ≤ 58)
theorem zSd42.fr {κ κ2 : Nat → Nat} {g g2 : Nat → Nat → Value} {P c b a q : Nat → Nat} {n t k : Nat} (h : zSd42 κ g P c b a q n t k) (hκ : ∀ x, κ x < 99 → κ2 x = κ x) (hg : ∀ x j, zKep (κ x) → g2 x j = g x j) : zSd42 κ2 g2 P c b a q n t k := by
  obtain ⟨hS, ⟨⟨t1, t2⟩, t3⟩, h20, hti, ht, hW, ⟨A, O, W, B, E, T, bt, ⟨lA, lO, lW, lB, lE, lT, lb, hbt, hsum⟩, hc⟩, hgr⟩ := h
  obtain ⟨⟨k0, k1, k2, k3, k4, k5, k6⟩, ⟨l1, l2, l3, l4, l5, l6, l7⟩, ⟨m0, m1, m2, m3⟩, hn, hco, hz, hi, hAF⟩ := id hS
  have kk : ∀ {x r : Nat}, κ x = r → r < 99 → κ2 x = r := fun e hr => (hκ _ (by rw [e]; exact hr)).trans e
  have o : ∀ {x r : Nat} (j : Nat), κ x = r → zKep r → g2 x j = g x j := fun j e hr => hg _ j (by rw [e]; exact hr)
  have amO : ∀ x j, x < 5 + 2 * n → g2 (a x) j = g (a x) j ∧ g2 (q x) j = g (q x) j := fun x j hx9 => by
    obtain ⟨e1, e2, -⟩ := hAF.1 x hx9
    have e3 := kx_b x
    exact ⟨o j e1 (by unfold zKep; omega), o j e2 (by unfold zKep; omega)⟩
  have vO : ∀ x, x < 5 + 2 * n → zV g2 (q x) = zV g (q x) := fun x hx9 => vS_congr (fun j _ => dg_eq (amO x j hx9).2)
  have z10 : zKep 10 := by unfold zKep; omega
  have z4 : zKep 4 := by unfold zKep; omega
  have z8 : zKep 8 := by unfold zKep; omega
  have z23 : zKep 23 := by unfold zKep; omega
  have z31 : zKep 31 := by unfold zKep; omega
  have z5 : zKep 5 := by unfold zKep; omega
  have z3 : zKep 3 := by unfold zKep; omega
  have hs : zHs g2 q n = zHs g q n := zSm_congr (fun j hj => vO _ (by omega))
  have hT : zTt g2 q n = zTt g q n := by
    show zV g2 (q 0) + zHs g2 q n = zV g (q 0) + zHs g q n
    rw [vO 0 (by omega), hs]
  refine ⟨⟨⟨kk k0 (by decide), kk k1 (by decide), kk k2 (by decide), kk k3 (by decide), kk k4 (by decide), kk k5 (by decide), kk k6 (by decide)⟩,
      ⟨(o 1 k0 z10).trans l1, (o 2 k0 z10).trans l2, (o 3 k0 z10).trans l3, (o 4 k0 z10).trans l4, (o 5 k0 z10).trans l5, (o 6 k0 z10).trans l6, (o 7 k0 z10).trans l7⟩,
      ⟨(o 0 k3 z4).trans m0, (o 1 k3 z4).trans m1, (o 1 k6 z31).trans m2, (o 2 k6 z31).trans m3⟩, hn, fun i hi9 => ?_, fun i h1 h2 => (o i k1 z23).trans (hz i h1 h2), hi, fun x hx9 => ?_, hAF.2⟩,
    ⟨by rw [vO 1 (by omega), vO 0 (by omega)]; exact ⟨t1, t2⟩, fun j hj => by rw [vO (6 + 2 * j) (by omega), vO (5 + 2 * j) (by omega)]; exact t3 j hj⟩, (vO 2 (by omega)).trans h20, (o 8 k0 z10).trans hti, ht, fun i hi9 => (hW i hi9).eq (o 19 (hco i hi9).1 z5),
    ⟨A, O, W, B, E, T, bt, ⟨(o 2 k3 z4).trans lA, (o 9 k0 z10).trans lO, (o 6 k4 z8).trans lW, (o 7 k4 z8).trans lB, (o 8 k4 z8).trans lE, (o 9 k4 z8).trans lT, (o 1 k4 z8).trans lb, hbt, hsum⟩, by rw [hT]; exact hc⟩, by rw [hT]; exact hgr⟩
  · obtain ⟨e1, e2, e3, e4, e5, e6⟩ := hco i hi9
    exact ⟨kk e1 (by decide), kk e2 (by decide), (o i k1 z23).trans e3, (o 15 e1 z5).trans e4, (o 1 e2 z3).trans e5, (o 2 e2 z3).trans e6⟩
  · obtain ⟨e1, e2, u, e3⟩ := hAF.1 x hx9
    have e4 := kx_b x
    have ed : ∀ j, dg g2 (q x) j = dg g (q x) j := fun j => dg_eq (amO x j hx9).2
    exact ⟨kk e1 (by omega), kk e2 (by omega), u, ⟨(amO x 0 hx9).1.trans e3.r, (amO x 1 hx9).1.trans e3.us, e3.le, fun j hj => by rw [ed j]; exact e3.bd j hj, fun j hj hj2 => (ed j).trans (e3.hi j hj hj2)⟩, by rw [ed]; exact e3.top⟩
