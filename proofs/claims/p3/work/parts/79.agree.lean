/-! the law's loop: what holds at its head, where both are held side by side -/
def zLc (κ : Nat → Nat) (g : Nat → Nat → Value) (z0 px pm rq co sp aC aT t : Nat) : Prop :=
  (κ px = 10 ∧ κ pm = 13 ∧ κ rq = 7 ∧ κ co = 4 ∧ κ sp = 8 ∧ κ aC = 23 ∧ κ aT = 24) ∧ (g px 5 = .ref rq ∧ g px 3 = .ref co ∧ g px 4 = .ref sp ∧ g px 1 = .ref aC ∧ g px 2 = .ref aT) ∧ (g pm 4 = .int (nI t) ∧ t ≤ 9999) ∧
  ∃ (lc eC nC : Nat) (mC : Int32) (cf : Nat → Nat) (lt eT nT : Nat) (mT : Int32) (tf : Nat → Nat), zMo κ g z0 pm lc eC nC mC cf lt eT nT mT tf ∧ zSd κ g aC nC cf 5 11 6 [(3, 3), (17, 15)] ∧ zSd κ g aT nT tf 9 12 8 [(1, 1)]
/-- what both of them say alike -/
def zAg (g : Nat → Nat → Value) (px pm rq co sp : Nat) : Prop := g rq 0 = g pm 18 ∧ g rq 1 = g pm 13 ∧ g rq 2 = g pm 14 ∧ g rq 4 = g pm 16 ∧ g rq 6 = g pm 26 ∧ g px 8 = g pm 4 ∧ g co 4 = g pm 25 ∧ g sp 0 = g pm 7
def zJ (κ : Nat → Nat) (g : Nat → Nat → Value) (z0 px pm rq co sp aC aT t : Nat) : Prop := zLc κ g z0 px pm rq co sp aC aT t ∧ zAg g px pm rq co sp
section ZLAW0
variable {κ κ1 κ2 : Nat → Nat} {g g1 g2 g8 : Nat → Nat → Value} {z0 px pm rq co sp aC aT t : Nat}
theorem zLc.fr (h : zLc κ g z0 px pm rq co sp aC aT t) {t2 : Nat} (hκ : ∀ a, κ a < 99 → κ2 a = κ a) (hx : ∀ j, j ≠ 8 → g2 px j = g px j) (ht : g2 pm 4 = .int (nI t2)) (hb : t2 ≤ 9999)
    (hM : ∃ (lc eC nC : Nat) (mC : Int32) (cf : Nat → Nat) (lt eT nT : Nat) (mT : Int32) (tf : Nat → Nat), zMo κ2 g2 z0 pm lc eC nC mC cf lt eT nT mT tf ∧ zSd κ2 g2 aC nC cf 5 11 6 [(3, 3), (17, 15)] ∧ zSd κ2 g2 aT nT tf 9 12 8 [(1, 1)]) : zLc κ2 g2 z0 px pm rq co sp aC aT t2 := by
  obtain ⟨⟨k1, k2, k3, k4, k5, k6, k7⟩, ⟨h1, h3, h4, h5, h6⟩, -, -⟩ := h
  have q : ∀ {a k : Nat}, κ a = k → k < 99 → κ2 a = k := fun e hk => (hκ _ (by rw [e]; exact hk)).trans e
  exact ⟨⟨q k1 (by decide), q k2 (by decide), q k3 (by decide), q k4 (by decide), q k5 (by decide), q k6 (by decide), q k7 (by decide)⟩, ⟨(hx 5 (by decide)).trans h1, (hx 3 (by decide)).trans h3, (hx 4 (by decide)).trans h4, (hx 1 (by decide)).trans h5, (hx 2 (by decide)).trans h6⟩, ⟨ht, hb⟩, hM⟩
/-- objects of unlike kinds are apart -/
theorem z_apart {a b k k2 : Nat} (h1 : κ a = k) (h2 : κ b = k2) (h : k ≠ k2) : a ≠ b := fun e => h (by rw [← h1, e]; exact h2)
theorem zAg.fr (h : zAg g px pm rq co sp) (h1 : ∀ j, j ∈ [0, 1, 2, 4, 6] → g2 rq j = g rq j) (h2 : ∀ j, j ∈ [18, 13, 14, 16, 26, 4, 25, 7] → g2 pm j = g pm j) (h3 : g2 px 8 = g px 8) (h4 : g2 co 4 = g co 4) (h5 : g2 sp 0 = g sp 0) : zAg g2 px pm rq co sp := by
  obtain ⟨a0, a1, a2, a3, a4, a5, a6, a7⟩ := h
  have m : ∀ j (x : Value), j ∈ [18, 13, 14, 16, 26, 4, 25, 7] → x = g pm j → x = g2 pm j := fun j x hj e => e.trans (h2 j hj).symm
  exact ⟨m 18 _ (by decide) ((h1 0 (by decide)).trans a0), m 13 _ (by decide) ((h1 1 (by decide)).trans a1), m 14 _ (by decide) ((h1 2 (by decide)).trans a2), m 16 _ (by decide) ((h1 4 (by decide)).trans a3), m 26 _ (by decide) ((h1 6 (by decide)).trans a4), m 4 _ (by decide) (h3.trans a5), m 25 _ (by decide) (h4.trans a6), m 7 _ (by decide) (h5.trans a7)⟩
theorem zSd.up {r n k1 k2 M kr : Nat} {f : Nat → Nat} {ps : List (Nat × Nat)} (h : zSd κ g r n f k1 k2 M ps) (hr : κ r = kr) {a j k : Nat} {v : Value} (hk : κ a = k) (hn : (k1 < 99 ∧ k2 < 99) ∧ kr ≠ k ∧ k1 ≠ k ∧ k2 ≠ k) : zSd κ (zup g a j v) r n f k1 k2 M ps :=
  h.fr hn.1.1 hn.1.2 (fun _ _ => rfl) (fun _ => zup_a (z_apart hr hk hn.2.1)) (fun _ _ e => zup_a (z_apart e hk hn.2.2.1)) (fun _ _ e => zup_a (z_apart e hk hn.2.2.2))
theorem zSd.ext {r n k1 k2 M kr : Nat} {f : Nat → Nat} {ps : List (Nat × Nat)} (h : zSd κ g r n f k1 k2 M ps) (hr : κ r = kr) (hx : zExt κ g κ2 g2) (hn : kr < 99 ∧ k1 < 99 ∧ k2 < 99) : zSd κ2 g2 r n f k1 k2 M ps :=
  h.fr hn.2.1 hn.2.2 hx.1 (fun j => hx.2 _ j (by rw [hr]; exact hn.1)) (fun _ j e => hx.2 _ j (by rw [e]; exact hn.2.1)) (fun _ j e => hx.2 _ j (by rw [e]; exact hn.2.2))
theorem zLc.up (h : zLc κ g z0 px pm rq co sp aC aT t) {a j k : Nat} {v : Value} (hk : κ a = k) (hn : (k ≠ 13 ∧ k ≠ 1 ∧ k ≠ 25 ∧ k ≠ 14 ∧ k ≠ 26) ∧ k ≠ 10 ∧ ((5 < 99 ∧ 11 < 99) ∧ 23 ≠ k ∧ 5 ≠ k ∧ 11 ≠ k) ∧ ((9 < 99 ∧ 12 < 99) ∧ 24 ≠ k ∧ 9 ≠ k ∧ 12 ≠ k)) : zLc κ (zup g a j v) z0 px pm rq co sp aC aT t := by
  obtain ⟨⟨k1, k2, -, -, -, k6, k7⟩, -, ⟨h2, h3⟩, lc, eC, nC, mC, cf, lt, eT, nT, mT, tf, hM, hc, ht⟩ := id h
  exact h.fr (fun _ _ => rfl) (fun j _ => zup_a (z_apart k1 hk (Ne.symm hn.2.1))) ((zup_a (z_apart k2 hk (Ne.symm hn.1.1))).trans h2) h3 ⟨lc, eC, nC, mC, cf, lt, eT, nT, mT, tf, hM.upO hk hn.1, hc.up k6 hk hn.2.2.1, ht.up k7 hk hn.2.2.2⟩
theorem zLc.upM (h : zLc κ g z0 px pm rq co sp aC aT t) {j : Nat} {v : Value} (hj : 2 ≤ j ∧ j ≠ 4) : zLc κ (zup g pm j v) z0 px pm rq co sp aC aT t := by
  obtain ⟨⟨k1, k2, -, -, -, k6, k7⟩, -, ⟨h2, h3⟩, lc, eC, nC, mC, cf, lt, eT, nT, mT, tf, hM, hc, ht⟩ := id h
  exact h.fr (fun _ _ => rfl) (fun j _ => zup_a (z_apart k1 k2 (by decide))) ((zup_j (fun e => hj.2 e.symm)).trans h2) h3 ⟨lc, eC, nC, mC, cf, lt, eT, nT, mT, tf, hM.upP hj.1, hc.up k6 k2 (by decide), ht.up k7 k2 (by decide)⟩
theorem zJ.up (h : zJ κ g z0 px pm rq co sp aC aT t) {a j k : Nat} {v : Value} (hk : κ a = k) (hn : ((k ≠ 13 ∧ k ≠ 1 ∧ k ≠ 25 ∧ k ≠ 14 ∧ k ≠ 26) ∧ k ≠ 10 ∧ ((5 < 99 ∧ 11 < 99) ∧ 23 ≠ k ∧ 5 ≠ k ∧ 11 ≠ k) ∧ ((9 < 99 ∧ 12 < 99) ∧ 24 ≠ k ∧ 9 ≠ k ∧ 12 ≠ k)) ∧ k ≠ 7 ∧ k ≠ 4 ∧ k ≠ 8) : zJ κ (zup g a j v) z0 px pm rq co sp aC aT t := by
  obtain ⟨k1, k2, k3, k4, k5, -⟩ := h.1.1
  exact ⟨h.1.up hk hn.1, h.2.fr (fun _ _ => zup_a (z_apart k3 hk (Ne.symm hn.2.1))) (fun _ _ => zup_a (z_apart k2 hk (Ne.symm hn.1.1.1))) (zup_a (z_apart k1 hk (Ne.symm hn.1.2.1))) (zup_a (z_apart k4 hk (Ne.symm hn.2.2.1))) (zup_a (z_apart k5 hk (Ne.symm hn.2.2.2)))⟩
theorem zJ.upM (h : zJ κ g z0 px pm rq co sp aC aT t) {j : Nat} {v : Value} (hj : (2 ≤ j ∧ j ≠ 4) ∧ j ∉ [18, 13, 14, 16, 26, 4, 25, 7]) : zJ κ (zup g pm j v) z0 px pm rq co sp aC aT t := by
  obtain ⟨k1, k2, k3, k4, k5, -⟩ := h.1.1
  exact ⟨h.1.upM hj.1, h.2.fr (fun _ _ => zup_a (z_apart k3 k2 (by decide))) (fun i hi => zup_j (fun e => hj.2 (e ▸ hi))) (zup_a (z_apart k1 k2 (by decide))) (zup_a (z_apart k4 k2 (by decide))) (zup_a (z_apart k5 k2 (by decide)))⟩
theorem zJ.ext (h : zJ κ g z0 px pm rq co sp aC aT t) (hx : zExt κ g κ2 g2) : zJ κ2 g2 z0 px pm rq co sp aC aT t := by
  obtain ⟨⟨k1, k2, k3, k4, k5, k6, k7⟩, -, ⟨h2, h3⟩, lc, eC, nC, mC, cf, lt, eT, nT, mT, tf, hM, hc, ht⟩ := id h.1
  have q : ∀ {a k : Nat} (j : Nat), κ a = k → k < 99 → g2 a j = g a j := fun j e hk => hx.2 _ j (by rw [e]; exact hk)
  exact ⟨h.1.fr hx.1 (fun j _ => q j k1 (by decide)) ((q 4 k2 (by decide)).trans h2) h3 ⟨lc, eC, nC, mC, cf, lt, eT, nT, mT, tf, hM.ext hx, hc.ext k6 hx (by decide), ht.ext k7 hx (by decide)⟩, h.2.fr (fun j _ => q j k3 (by decide)) (fun j _ => q j k2 (by decide)) (q 8 k1 (by decide)) (q 4 k4 (by decide)) (q 0 k5 (by decide))⟩
/-- behind ticks of the first -/
theorem zLc.tkC (h : zLc κ g z0 px pm rq co sp aC aT t) {a b c : Int32} (hk : zTk px rq 8 2 4 g g2 a b c) : zLc κ g2 z0 px pm rq co sp aC aT t := by
  obtain ⟨⟨k1, k2, k3, -, -, k6, k7⟩, -, ⟨h2, h3⟩, lc, eC, nC, mC, cf, lt, eT, nT, mT, tf, hM, hc, ht⟩ := id h
  have ot : ∀ {x k : Nat} (j : Nat), κ x = k → k ≠ 10 → k ≠ 7 → g2 x j = g x j := fun j e ha hb => hk.2.2.2 _ j (fun q => ha (by rw [← e, q.1]; exact k1)) (fun q => hb (by rw [← e, q.1]; exact k3))
  have li : ∀ {l K e KA KE n : Nat} {mo : Int32} {f : Nat → Nat}, zLi κ g z0 l K e KA KE n mo f → K ≠ 10 → K ≠ 7 → KA ≠ 10 → KA ≠ 7 → zLi κ g2 z0 l K e KA KE n mo f := by
    intro l K e KA KE n mo f ⟨a1, a2, a3, a4, a5, a6, a7, a8⟩ e1 e2 e3 e4
    exact ⟨a1, (ot 0 a1 e1 e2).trans a2, (ot 1 a1 e1 e2).trans a3, (ot 2 a1 e1 e2).trans a4, a5, a6, a7, fun i hi => ⟨(ot i (a6 (by omega)) e3 e4).trans (a8 i hi).1, (a8 i hi).2⟩⟩
  have pm2 : ∀ j, g2 pm j = g pm j := fun j => ot j k2 (by decide) (by decide)
  exact h.fr (fun _ _ => rfl) (fun j hj => hk.2.2.2 _ j (fun q => hj q.2) (fun q => z_apart k1 k3 (by decide) q.1)) ((pm2 4).trans h2) h3 ⟨lc, eC, nC, mC, cf, lt, eT, nT, mT, tf, ⟨hM.k, (pm2 0).trans hM.gc, (pm2 1).trans hM.gt, li hM.LC (by decide) (by decide) (by decide) (by decide), li hM.LT (by decide) (by decide) (by decide) (by decide), hM.bC, hM.bT⟩,
    hc.fr (by decide) (by decide) (fun _ _ => rfl) (fun j => ot j k6 (by decide) (by decide)) (fun _ j e => ot j e (by decide) (by decide)) (fun _ j e => ot j e (by decide) (by decide)), ht.fr (by decide) (by decide) (fun _ _ => rfl) (fun j => ot j k7 (by decide) (by decide)) (fun _ j e => ot j e (by decide) (by decide)) (fun _ j e => ot j e (by decide) (by decide))⟩
/-- behind ticks of the other -/
theorem zLc.tkM (h : zLc κ g z0 px pm rq co sp aC aT t) {n : Nat} {b c : Int32} (hk : zTk pm pm 4 14 16 g g2 (nI t + nI n) b c) (hb : t + n ≤ 9999) : zLc κ g2 z0 px pm rq co sp aC aT (t + n) := by
  obtain ⟨⟨k1, k2, -, -, -, k6, k7⟩, -, -, lc, eC, nC, mC, cf, lt, eT, nT, mT, tf, hM, hc, ht⟩ := id h
  have ot : ∀ {x k : Nat} (j : Nat), κ x = k → k ≠ 13 → g2 x j = g x j := fun j e ha => hk.2.2.2 _ j (fun q => z_apart e k2 ha q.1) (fun q => z_apart e k2 ha q.1)
  exact h.fr (fun _ _ => rfl) (fun j _ => ot j k1 (by decide)) (hk.1.trans (by rw [nI_add])) hb ⟨lc, eC, nC, mC, cf, lt, eT, nT, mT, tf, hM.tk hk, hc.fr (by decide) (by decide) (fun _ _ => rfl) (fun j => ot j k6 (by decide)) (fun _ j e => ot j e (by decide)) (fun _ j e => ot j e (by decide)), ht.fr (by decide) (by decide) (fun _ _ => rfl) (fun j => ot j k7 (by decide)) (fun _ j e => ot j e (by decide)) (fun _ j e => ot j e (by decide))⟩
/-- both have passed n ticks -/
theorem zJ.pass (h : zJ κ g z0 px pm rq co sp aC aT t) {po n : Nat} {hh ww : Int32} {v v2 : Value} (hko : κ po = 29) (h8 : zTk px rq 8 2 4 g g8 (nI t + nI n) hh ww) (h9 : zTk pm pm 4 14 16 (zup (zup g8 po 0 v) pm 12 v2) g2 (nI t + nI n) hh ww) (hb : t + n ≤ 9999) : zJ κ g2 z0 px pm rq co sp aC aT (t + n) := by
  refine ⟨(((h.1.tkC h8).up hko (by decide)).upM (by decide)).tkM h9 hb, ?_⟩
  obtain ⟨k1, k2, k3, k4, k5, -⟩ := h.1.1
  obtain ⟨a0, a1, a2, a3, a4, a5, a6, a7⟩ := h.2
  have o : ∀ {x k : Nat} (j : Nat), κ x = k → k ≠ 13 → k ≠ 29 → g2 x j = g8 x j := fun j e ha hb => ((h9.2.2.2 _ j (fun q => z_apart e k2 ha q.1) (fun q => z_apart e k2 ha q.1)).trans (zup_a (z_apart e k2 ha))).trans (zup_a (z_apart e hko hb))
  have p8 : ∀ j, g8 pm j = g pm j := fun j => h8.2.2.2 _ j (fun q => z_apart k2 k1 (by decide) q.1) (fun q => z_apart k2 k3 (by decide) q.1)
  have pj : ∀ j, j ≠ 4 → j ≠ 14 → j ≠ 16 → j ≠ 12 → g2 pm j = g pm j := fun j e1 e2 e3 e4 => (((h9.2.2.2 _ j (fun q => e1 q.2) (fun q => by rcases q.2 with e | e; exact e2 e; exact e3 e)).trans (zup_j e4)).trans (zup_a (z_apart k2 hko (by decide)))).trans (p8 j)
  have r8 : ∀ j, j ≠ 2 → j ≠ 4 → g8 rq j = g rq j := fun j e1 e2 => h8.2.2.2 _ j (fun q => z_apart k3 k1 (by decide) q.1) (fun q => by rcases q.2 with e | e; exact e1 e; exact e2 e)
  have x8 : ∀ {x k : Nat} (j : Nat), κ x = k → k ≠ 10 → k ≠ 7 → g8 x j = g x j := fun j e ha hb => h8.2.2.2 _ j (fun q => z_apart e k1 ha q.1) (fun q => z_apart e k3 hb q.1)
  have rr : ∀ j, g2 rq j = g8 rq j := fun j => o j k3 (by decide) (by decide)
  exact ⟨(((rr 0).trans (r8 0 (by decide) (by decide))).trans a0).trans (pj 18 (by decide) (by decide) (by decide) (by decide)).symm, (((rr 1).trans (r8 1 (by decide) (by decide))).trans a1).trans (pj 13 (by decide) (by decide) (by decide) (by decide)).symm,
    ((rr 2).trans h8.2.1).trans h9.2.1.symm, ((rr 4).trans h8.2.2.1).trans h9.2.2.1.symm, (((rr 6).trans (r8 6 (by decide) (by decide))).trans a4).trans (pj 26 (by decide) (by decide) (by decide) (by decide)).symm,
    ((o 8 k1 (by decide) (by decide)).trans h8.1).trans h9.1.symm, (((o 4 k4 (by decide) (by decide)).trans (x8 4 k4 (by decide) (by decide))).trans a6).trans (pj 25 (by decide) (by decide) (by decide) (by decide)).symm, (((o 0 k5 (by decide) (by decide)).trans (x8 0 k5 (by decide) (by decide))).trans a7).trans (pj 7 (by decide) (by decide) (by decide) (by decide)).symm⟩
variable {lc eC nC : Nat} {mC : Int32} {cf : Nat → Nat} {lt eT nT : Nat} {mT : Int32} {tf : Nat → Nat}
/-- a value of a core, written on both sides -/
theorem zJ.setC (h : zJ κ g z0 px pm rq co sp aC aT t) (hM : zMo κ g z0 pm lc eC nC mC cf lt eT nT mT tf) (hc : zSd κ g aC nC cf 5 11 6 [(3, 3), (17, 15)]) (ht : zSd κ g aT nT tf 9 12 8 [(1, 1)]) {i a j1 j2 po : Nat} {v v2 v3 : Value} (hi : i < nC) (hia : g aC i = .ref a) (hka : κ a = 5) (hkc : κ (cf i) = 11) (hko : κ po = 29)
    (hp : ∀ q ∈ [(3, 3), (17, 15)], q.1 = j1 ↔ q.2 = j2) : zJ κ (zup (zup (zup (zup g a j1 v) po 0 v2) pm 12 v3) (cf i) j2 v) z0 px pm rq co sp aC aT t := by
  obtain ⟨k1, k2, k3, k4, k5, k6, k7⟩ := h.1.1
  have o : ∀ {x k : Nat} (j : Nat), κ x = k → k ≠ 5 → k ≠ 29 → k ≠ 13 → k ≠ 11 → zup (zup (zup (zup g a j1 v) po 0 v2) pm 12 v3) (cf i) j2 v x j = g x j := fun j e e1 e2 e3 e4 => (((zup_a (z_apart e hkc e4)).trans (zup_a (z_apart e k2 e3))).trans (zup_a (z_apart e hko e2))).trans (zup_a (z_apart e hka e1))
  have pj : ∀ j, j ≠ 12 → zup (zup (zup (zup g a j1 v) po 0 v2) pm 12 v3) (cf i) j2 v pm j = g pm j := fun j hj => (((zup_a (z_apart k2 hkc (by decide))).trans (zup_j hj)).trans (zup_a (z_apart k2 hko (by decide)))).trans (zup_a (z_apart k2 hka (by decide)))
  refine ⟨h.1.fr (fun _ _ => rfl) (fun j _ => o j k1 (by decide) (by decide) (by decide) (by decide)) ((pj 4 (by decide)).trans h.1.2.2.1.1) h.1.2.2.1.2 ⟨lc, eC, nC, mC, cf, lt, eT, nT, mT, tf, ((((hM.upO hka (by decide)).upO hko (by decide)).upP (by decide)).upO hkc (by decide)), ?_, ?_⟩,
    h.2.fr (fun j _ => o j k3 (by decide) (by decide) (by decide) (by decide)) (fun j hj => pj j (fun e => by rw [e] at hj; exact absurd hj (by decide))) (o 8 k1 (by decide) (by decide) (by decide) (by decide)) (o 4 k4 (by decide) (by decide) (by decide) (by decide)) (o 0 k5 (by decide) (by decide) (by decide) (by decide))⟩
  · refine hc.set (j1 := j1) (j2 := j2) hi hia (fun j => o j k6 (by decide) (by decide) (by decide) (by decide)) (fun b j e hn => ?_) (fun b j e hn => ?_) ?_ hp
    · refine (((zup_a (z_apart e hkc (by decide))).trans (zup_a (z_apart e k2 (by decide)))).trans (zup_a (z_apart e hko (by decide)))).trans (zup_ne ?_)
      by_cases e1 : b = a
      · exact Or.inr fun e2 => hn ⟨e1, e2⟩
      · exact Or.inl e1
    · refine (zup_ne ?_).trans (((zup_a (z_apart e k2 (by decide))).trans (zup_a (z_apart e hko (by decide)))).trans (zup_a (z_apart e hka (by decide))))
      by_cases e1 : b = cf i
      · exact Or.inr fun e2 => hn ⟨e1, e2⟩
      · exact Or.inl e1
    · exact ((((zup_a (z_apart hka hkc (by decide))).trans (zup_a (z_apart hka k2 (by decide)))).trans (zup_a (z_apart hka hko (by decide)))).trans (zup_self _ _ _ _)).trans (zup_self _ _ _ _).symm
  · exact ht.fr (by decide) (by decide) (fun _ _ => rfl) (fun j => o j k7 (by decide) (by decide) (by decide) (by decide)) (fun _ j e => o j e (by decide) (by decide) (by decide) (by decide)) (fun _ j e => o j e (by decide) (by decide) (by decide) (by decide))
/-- a value of a thread, written on both sides -/
theorem zJ.setT (h : zJ κ g z0 px pm rq co sp aC aT t) (hM : zMo κ g z0 pm lc eC nC mC cf lt eT nT mT tf) (hc : zSd κ g aC nC cf 5 11 6 [(3, 3), (17, 15)]) (ht : zSd κ g aT nT tf 9 12 8 [(1, 1)]) {i a po : Nat} {v v2 v3 : Value} (hi : i < nT) (hia : g aT i = .ref a) (hka : κ a = 9) (hkc : κ (tf i) = 12) (hko : κ po = 29) : zJ κ (zup (zup (zup (zup g a 1 v) po 0 v2) pm 12 v3) (tf i) 1 v) z0 px pm rq co sp aC aT t := by
  obtain ⟨k1, k2, k3, k4, k5, k6, k7⟩ := h.1.1
  have o : ∀ {x k : Nat} (j : Nat), κ x = k → k ≠ 9 → k ≠ 29 → k ≠ 13 → k ≠ 12 → zup (zup (zup (zup g a 1 v) po 0 v2) pm 12 v3) (tf i) 1 v x j = g x j := fun j e e1 e2 e3 e4 => (((zup_a (z_apart e hkc e4)).trans (zup_a (z_apart e k2 e3))).trans (zup_a (z_apart e hko e2))).trans (zup_a (z_apart e hka e1))
  have pj : ∀ j, j ≠ 12 → zup (zup (zup (zup g a 1 v) po 0 v2) pm 12 v3) (tf i) 1 v pm j = g pm j := fun j hj => (((zup_a (z_apart k2 hkc (by decide))).trans (zup_j hj)).trans (zup_a (z_apart k2 hko (by decide)))).trans (zup_a (z_apart k2 hka (by decide)))
  refine ⟨h.1.fr (fun _ _ => rfl) (fun j _ => o j k1 (by decide) (by decide) (by decide) (by decide)) ((pj 4 (by decide)).trans h.1.2.2.1.1) h.1.2.2.1.2 ⟨lc, eC, nC, mC, cf, lt, eT, nT, mT, tf, ((((hM.upO hka (by decide)).upO hko (by decide)).upP (by decide)).upO hkc (by decide)), ?_, ?_⟩,
    h.2.fr (fun j _ => o j k3 (by decide) (by decide) (by decide) (by decide)) (fun j hj => pj j (fun e => by rw [e] at hj; exact absurd hj (by decide))) (o 8 k1 (by decide) (by decide) (by decide) (by decide)) (o 4 k4 (by decide) (by decide) (by decide) (by decide)) (o 0 k5 (by decide) (by decide) (by decide) (by decide))⟩
  · exact hc.fr (by decide) (by decide) (fun _ _ => rfl) (fun j => o j k6 (by decide) (by decide) (by decide) (by decide)) (fun _ j e => o j e (by decide) (by decide) (by decide) (by decide)) (fun _ j e => o j e (by decide) (by decide) (by decide) (by decide))
  · refine ht.set (j1 := 1) (j2 := 1) hi hia (fun j => o j k7 (by decide) (by decide) (by decide) (by decide)) (fun b j e hn => ?_) (fun b j e hn => ?_) ?_ (by decide)
    · refine (((zup_a (z_apart e hkc (by decide))).trans (zup_a (z_apart e k2 (by decide)))).trans (zup_a (z_apart e hko (by decide)))).trans (zup_ne ?_)
      by_cases e1 : b = a
      · exact Or.inr fun e2 => hn ⟨e1, e2⟩
      · exact Or.inl e1
    · refine (zup_ne ?_).trans (((zup_a (z_apart e k2 (by decide))).trans (zup_a (z_apart e hko (by decide)))).trans (zup_a (z_apart e hka (by decide))))
      by_cases e1 : b = tf i
      · exact Or.inr fun e2 => hn ⟨e1, e2⟩
      · exact Or.inl e1
    · exact ((((zup_a (z_apart hka hkc (by decide))).trans (zup_a (z_apart hka k2 (by decide)))).trans (zup_a (z_apart hka hko (by decide)))).trans (zup_self _ _ _ _)).trans (zup_self _ _ _ _).symm
/-- a core more on both sides -/
theorem zJ.core (h : zJ κ g z0 px pm rq co sp aC aT t) (hc : zSd κ g aC nC cf 5 11 6 [(3, 3), (17, 15)]) (ht : zSd κ g aT nT tf 9 12 8 [(1, 1)]) {q q9 po e9 : Nat} {m9 : Int32} {v : Value} (hx : zExt κ (zup g aC nC (.ref q)) κ1 g1) (hq : κ1 q = 5) (hq3 : g1 q 3 = .int 108) (hq17 : g1 q 17 = .int 0) (hf : ∀ b, κ b < 99 → b ≠ q) (hko : κ po = 29)
    (hM9 : zMo κ2 g2 z0 pm lc e9 (nC + 1) m9 (va_up cf nC q9) lt eT nT mT tf) (hl : κ lc = 1) (hk9 : κ2 q9 = 11) (h93 : g2 q9 3 = .int 108) (h915 : g2 q9 15 = .int 0) (hκ9 : ∀ a, κ1 a < 99 → κ2 a = κ1 a) (hg9 : ∀ b j, κ1 b < 99 → b ≠ lc → κ1 b ≠ 25 → ¬ (b = pm ∧ j = 12) → g2 b j = zup g1 po 0 v b j) (hf9 : ∀ b, κ1 b < 99 → b ≠ q9) : zJ κ2 g2 z0 px pm rq co sp aC aT t := by
  obtain ⟨⟨k1, k2, k3, k4, k5, k6, k7⟩, -, ⟨h2, h3⟩, -⟩ := id h.1
  have kk : ∀ a, κ a < 99 → κ2 a = κ a := fun a ha => (hκ9 a (by rw [hx.1 a ha]; exact ha)).trans (hx.1 a ha)
  -- an object that was there, but the list, its row, the class's row
  have o1 : ∀ {x k : Nat} (j : Nat), κ1 x = k → k < 99 → x ≠ lc → k ≠ 25 → k ≠ 13 → k ≠ 29 → g2 x j = g1 x j := fun j e e0 e1 e2 e3 e4 => (hg9 _ j (by rw [e]; exact e0) e1 (by rw [e]; exact e2) (fun w => z_apart e (hx.k k2 (by decide)) e3 w.1)).trans (zup_a (z_apart e (hx.k hko (by decide)) e4))
  have ne : ∀ {x k : Nat}, κ x = k → k ≠ 1 → x ≠ lc := fun e e1 => z_apart e hl e1
  have o : ∀ {x k : Nat} (j : Nat), κ x = k → k < 99 → k ≠ 1 → k ≠ 25 → k ≠ 13 → k ≠ 29 → k ≠ 23 → g2 x j = g x j := fun j e e0 e1 e2 e3 e4 e5 => (o1 j (hx.k e e0) e0 (ne e e1) e2 e3 e4).trans ((hx.2 _ j (by rw [e]; exact e0)).trans (zup_a (z_apart e k6 e5)))
  have pj : ∀ j, j ≠ 12 → g2 pm j = g pm j := fun j hj => ((hg9 pm j (by rw [hx.k k2 (by decide)]; decide) (ne k2 (by decide)) (by rw [hx.k k2 (by decide)]; decide) (fun w => hj w.2)).trans (zup_a (z_apart k2 hko (by decide)))).trans ((hx.2 _ j (by rw [k2]; decide)).trans (zup_a (z_apart k2 k6 (by decide))))
  have oC : ∀ j, g2 aC j = zup g aC nC (.ref q) aC j := fun j => (o1 j (hx.k k6 (by decide)) (by decide) (ne k6 (by decide)) (by decide) (by decide) (by decide)).trans (hx.2 _ j (by rw [k6]; decide))
  have hql : q ≠ lc := fun e => hf lc (by rw [hl]; decide) e.symm
  refine ⟨h.1.fr kk (fun j _ => o j k1 (by decide) (by decide) (by decide) (by decide) (by decide) (by decide)) ((pj 4 (by decide)).trans h2) h3 ⟨lc, e9, _, m9, _, lt, eT, nT, mT, tf, hM9, ?_, ?_⟩,
    h.2.fr (fun j _ => o j k3 (by decide) (by decide) (by decide) (by decide) (by decide) (by decide)) (fun j hj => pj j (fun e => by rw [e] at hj; exact absurd hj (by decide))) (o 8 k1 (by decide) (by decide) (by decide) (by decide) (by decide) (by decide)) (o 4 k4 (by decide) (by decide) (by decide) (by decide) (by decide) (by decide)) (o 0 k5 (by decide) (by decide) (by decide) (by decide) (by decide) (by decide))⟩
  · refine hc.add (q := q) (q2 := q9) (by decide) (by decide) kk ((oC _).trans (zup_self _ _ _ _)) (fun j hj => (oC j).trans (zup_j hj)) (fun _ j e => o j e (by decide) (by decide) (by decide) (by decide) (by decide) (by decide)) (fun _ j e => o j e (by decide) (by decide) (by decide) (by decide) (by decide) (by decide)) ((hκ9 q (by rw [hq]; decide)).trans hq) hk9 hf (fun b hb => hf9 b (by rw [hx.1 b hb]; exact hb)) (fun x hx9 => ?_)
    have o9 : ∀ j, g2 q j = g1 q j := fun j => o1 j hq (by decide) hql (by decide) (by decide) (by decide)
    rcases List.mem_cons.mp hx9 with rfl | hx9
    · exact ((o9 3).trans hq3).trans h93.symm
    · rcases List.mem_cons.mp hx9 with rfl | hx9
      · exact ((o9 17).trans hq17).trans h915.symm
      · exact absurd hx9 List.not_mem_nil
  · exact ht.fr (by decide) (by decide) kk (fun j => o j k7 (by decide) (by decide) (by decide) (by decide) (by decide) (by decide)) (fun _ j e => o j e (by decide) (by decide) (by decide) (by decide) (by decide) (by decide)) (fun _ j e => o j e (by decide) (by decide) (by decide) (by decide) (by decide) (by decide))
/-- a thread more on both sides -/
theorem zJ.thread (h : zJ κ g z0 px pm rq co sp aC aT t) (hc : zSd κ g aC nC cf 5 11 6 [(3, 3), (17, 15)]) (ht : zSd κ g aT nT tf 9 12 8 [(1, 1)]) {q q9 po e9 : Nat} {m9 : Int32} {v w9 : Value} (hx : zExt κ (zup g aT nT (.ref q)) κ1 g1) (hq : κ1 q = 9) (hq1 : g1 q 1 = w9) (hf : ∀ b, κ b < 99 → b ≠ q) (hko : κ po = 29)
    (hM9 : zMo κ2 g2 z0 pm lc eC nC mC cf lt e9 (nT + 1) m9 (va_up tf nT q9)) (hl : κ lt = 14) (hk9 : κ2 q9 = 12) (h91 : g2 q9 1 = w9) (hκ9 : ∀ a, κ1 a < 99 → κ2 a = κ1 a) (hg9 : ∀ b j, κ1 b < 99 → b ≠ lt → κ1 b ≠ 26 → ¬ (b = pm ∧ j = 12) → g2 b j = zup g1 po 0 v b j) (hf9 : ∀ b, κ1 b < 99 → b ≠ q9) : zJ κ2 g2 z0 px pm rq co sp aC aT t := by
  obtain ⟨⟨k1, k2, k3, k4, k5, k6, k7⟩, -, ⟨h2, h3⟩, -⟩ := id h.1
  have kk : ∀ a, κ a < 99 → κ2 a = κ a := fun a ha => (hκ9 a (by rw [hx.1 a ha]; exact ha)).trans (hx.1 a ha)
  have o1 : ∀ {x k : Nat} (j : Nat), κ1 x = k → k < 99 → x ≠ lt → k ≠ 26 → k ≠ 13 → k ≠ 29 → g2 x j = g1 x j := fun j e e0 e1 e2 e3 e4 => (hg9 _ j (by rw [e]; exact e0) e1 (by rw [e]; exact e2) (fun w => z_apart e (hx.k k2 (by decide)) e3 w.1)).trans (zup_a (z_apart e (hx.k hko (by decide)) e4))
  have ne : ∀ {x k : Nat}, κ x = k → k ≠ 14 → x ≠ lt := fun e e1 => z_apart e hl e1
  have o : ∀ {x k : Nat} (j : Nat), κ x = k → k < 99 → k ≠ 14 → k ≠ 26 → k ≠ 13 → k ≠ 29 → k ≠ 24 → g2 x j = g x j := fun j e e0 e1 e2 e3 e4 e5 => (o1 j (hx.k e e0) e0 (ne e e1) e2 e3 e4).trans ((hx.2 _ j (by rw [e]; exact e0)).trans (zup_a (z_apart e k7 e5)))
  have pj : ∀ j, j ≠ 12 → g2 pm j = g pm j := fun j hj => ((hg9 pm j (by rw [hx.k k2 (by decide)]; decide) (ne k2 (by decide)) (by rw [hx.k k2 (by decide)]; decide) (fun w => hj w.2)).trans (zup_a (z_apart k2 hko (by decide)))).trans ((hx.2 _ j (by rw [k2]; decide)).trans (zup_a (z_apart k2 k7 (by decide))))
  have oC : ∀ j, g2 aT j = zup g aT nT (.ref q) aT j := fun j => (o1 j (hx.k k7 (by decide)) (by decide) (ne k7 (by decide)) (by decide) (by decide) (by decide)).trans (hx.2 _ j (by rw [k7]; decide))
  have hql : q ≠ lt := fun e => hf lt (by rw [hl]; decide) e.symm
  refine ⟨h.1.fr kk (fun j _ => o j k1 (by decide) (by decide) (by decide) (by decide) (by decide) (by decide)) ((pj 4 (by decide)).trans h2) h3 ⟨lc, eC, nC, mC, cf, lt, e9, _, m9, _, hM9, ?_, ?_⟩,
    h.2.fr (fun j _ => o j k3 (by decide) (by decide) (by decide) (by decide) (by decide) (by decide)) (fun j hj => pj j (fun e => by rw [e] at hj; exact absurd hj (by decide))) (o 8 k1 (by decide) (by decide) (by decide) (by decide) (by decide) (by decide)) (o 4 k4 (by decide) (by decide) (by decide) (by decide) (by decide) (by decide)) (o 0 k5 (by decide) (by decide) (by decide) (by decide) (by decide) (by decide))⟩
  · exact hc.fr (by decide) (by decide) kk (fun j => o j k6 (by decide) (by decide) (by decide) (by decide) (by decide) (by decide)) (fun _ j e => o j e (by decide) (by decide) (by decide) (by decide) (by decide) (by decide)) (fun _ j e => o j e (by decide) (by decide) (by decide) (by decide) (by decide) (by decide))
  · refine ht.add (q := q) (q2 := q9) (by decide) (by decide) kk ((oC _).trans (zup_self _ _ _ _)) (fun j hj => (oC j).trans (zup_j hj)) (fun _ j e => o j e (by decide) (by decide) (by decide) (by decide) (by decide) (by decide)) (fun _ j e => o j e (by decide) (by decide) (by decide) (by decide) (by decide) (by decide)) ((hκ9 q (by rw [hq]; decide)).trans hq) hk9 hf (fun b hb => hf9 b (by rw [hx.1 b hb]; exact hb)) (fun x hx9 => ?_)
    have o9 : ∀ j, g2 q j = g1 q j := fun j => o1 j hq (by decide) hql (by decide) (by decide) (by decide)
    rcases List.mem_cons.mp hx9 with rfl | hx9
    · exact ((o9 1).trans hq1).trans h91.symm
    · exact absurd hx9 List.not_mem_nil
end ZLAW0
/-- a tracked int is an int -/
theorem z_gi {D : va_G} {tc : Nat → ClassId} {A : Nat → Prop} {H0 : Heap} {X : va_W} {L : List Nat} {κ : Nat → Nat} {g : Nat → Nat → Value} {H : Heap} {locs : List Loc} {a k j ci z : Nat} {ts : List (Nat × Nat)} (hI : zI D tc A H0 X L κ g H locs) (hk : κ a = k) (ho : zO k = some (ci, ts)) (ht : ts[j]? = some (10, z)) : ∃ i : Int32, g a j = .int i := by
  obtain ⟨-, -, f, -, -, hT⟩ := hI
  have hlt : κ a < 99 := by rw [hk]; exact zO_lt ho
  obtain ⟨-, hcc⟩ := hT a hlt
  rw [hk] at hcc
  rcases hcc with ⟨ci', ts', fs, h1, h2, h3, h4⟩ | ⟨h0, -⟩
  · cases h1.symm.trans ho
    have hjl : j < fs.length := by rw [h3]; exact (List.getElem?_eq_some_iff.mp ht).1
    obtain ⟨v, hv⟩ : ∃ v, fs[j]? = some v := ⟨fs[j], List.getElem?_eq_getElem hjl⟩
    obtain ⟨e0, i, e1⟩ := h4 j (10, z) v ht hv
    exact ⟨i, e0.symm.trans e1⟩
  · rw [ho] at h0
    cases h0
/-- the law's frame: what the machine and the tables give -/
def lwC (p : Program) (s : State) (m : MethodId) (meth : Method) (c : Code) (b N : Nat) (xs : Nat → Int32) (D : va_G) (tc : Nat → ClassId) (z0 : Nat) : Prop :=
  p.tables.exec = Jvm.exec ∧ c.code = cL_law ∧ c.maxLocals = 9 ∧ s.vm.findClass RL = some m.cls ∧ (∀ w ∈ wsL_law, w.before #[Value.ref b] s = true) ∧ va_K D vwCl (zTy tc) s ∧ zE z0 (zA [] [] s.heap.size) s ∧ va_X b N xs s s.heap ∧ b < s.heap.size
/-- from the loop's foot on: all is well for whatever a case leaves behind -/
def lwN (p : Program) (l : Launch) (e : Env) (s : State) (m : MethodId) (below : List Frame) (meth : Method) (c : Code) (b : Nat) (D : va_G) (tc : Nat → ClassId) (z0 px pm po pd rq co sp aC aT k : Nat) (Q : State → Prop) : Prop :=
  ∀ (d : Drawn) (L : List Nat) (κ : Nat → Nat) (g : Nat → Nat → Value) (H : Heap) (locs : List Loc) (ls : Array Slot) (t : Nat), s.drawn.sameBut d lw_cs → zJ κ g z0 px pm rq co sp aC aT t → κ po = 29 → κ pd = 30 → zI D tc (zA [] [] s.heap.size) s.heap [] L κ g H locs →
    lv_has ls 9 [(0, .ref b), (1, .ref px), (2, .ref pm), (3, .ref po), (4, .ref pd), (5, .int (nI (4 * k)))] → W p l e room_1 (s.setDrawn d) m #[Value.ref b] below meth c H locs (60 + 20 * (k + 1) + 37 * t) (400 + 120 * (k + 1) + 162 * t) Q (F0 m 1392 ls [])
theorem lw_ix (k j : Nat) : nI (4 * k) + nI j = nI (4 * k + j) := nI_add _ _
