/-! the law's loop: what holds at its head, where the class is held against its reference -/
def zLc (κ : Nat → Nat) (g : Nat → Nat → Value) (z0 px pm rq co sp t : Nat) : Prop :=
  (κ px = 10 ∧ κ pm = 13 ∧ κ rq = 7 ∧ κ co = 4 ∧ κ sp = 8) ∧ (g px 5 = .ref rq ∧ g px 3 = .ref co ∧ g px 4 = .ref sp) ∧ (g pm 4 = .int (nI t) ∧ t ≤ 9999) ∧ (∃ a, κ a = 23 ∧ g px 1 = .ref a) ∧ (∃ a, κ a = 24 ∧ g px 2 = .ref a) ∧
  ∃ (lc eC nC : Nat) (mC : Int32) (cf : Nat → Nat) (lt eT nT : Nat) (mT : Int32) (tf : Nat → Nat), zMo κ g z0 pm lc eC nC mC cf lt eT nT mT tf
/-- what both of them say alike -/
def zAg (g : Nat → Nat → Value) (px pm rq co sp : Nat) : Prop := g rq 0 = g pm 18 ∧ g rq 1 = g pm 13 ∧ g rq 2 = g pm 14 ∧ g rq 4 = g pm 16 ∧ g rq 6 = g pm 26 ∧ g px 8 = g pm 4 ∧ g co 4 = g pm 25 ∧ g sp 0 = g pm 7
def zJ (κ : Nat → Nat) (g : Nat → Nat → Value) (z0 px pm rq co sp t : Nat) : Prop := zLc κ g z0 px pm rq co sp t ∧ zAg g px pm rq co sp
section ZLAW0
variable {κ κ2 : Nat → Nat} {g g1 g2 g8 : Nat → Nat → Value} {z0 px pm rq co sp t : Nat}
theorem zLc.fr (h : zLc κ g z0 px pm rq co sp t) {t2 : Nat} (hκ : ∀ a, κ a < 99 → κ2 a = κ a) (hx : ∀ j, j ≠ 8 → g2 px j = g px j) (ht : g2 pm 4 = .int (nI t2)) (hb : t2 ≤ 9999)
    (hM : ∃ (lc eC nC : Nat) (mC : Int32) (cf : Nat → Nat) (lt eT nT : Nat) (mT : Int32) (tf : Nat → Nat), zMo κ2 g2 z0 pm lc eC nC mC cf lt eT nT mT tf) : zLc κ2 g2 z0 px pm rq co sp t2 := by
  obtain ⟨⟨k1, k2, k3, k4, k5⟩, ⟨h1, h3, h4⟩, -, ⟨a1, b1, c1⟩, ⟨a2, b2, c2⟩, -⟩ := h
  have q : ∀ {a k : Nat}, κ a = k → k < 99 → κ2 a = k := fun e hk => (hκ _ (by rw [e]; exact hk)).trans e
  exact ⟨⟨q k1 (by decide), q k2 (by decide), q k3 (by decide), q k4 (by decide), q k5 (by decide)⟩, ⟨(hx 5 (by decide)).trans h1, (hx 3 (by decide)).trans h3, (hx 4 (by decide)).trans h4⟩, ⟨ht, hb⟩, ⟨a1, q b1 (by decide), (hx 1 (by decide)).trans c1⟩, ⟨a2, q b2 (by decide), (hx 2 (by decide)).trans c2⟩, hM⟩
/-- objects of unlike kinds are apart -/
theorem z_apart {a b k k2 : Nat} (h1 : κ a = k) (h2 : κ b = k2) (h : k ≠ k2) : a ≠ b := fun e => h (by rw [← h1, e]; exact h2)
theorem zAg.fr (h : zAg g px pm rq co sp) (h1 : ∀ j, j ∈ [0, 1, 2, 4, 6] → g2 rq j = g rq j) (h2 : ∀ j, j ∈ [18, 13, 14, 16, 26, 4, 25, 7] → g2 pm j = g pm j) (h3 : g2 px 8 = g px 8) (h4 : g2 co 4 = g co 4) (h5 : g2 sp 0 = g sp 0) : zAg g2 px pm rq co sp := by
  obtain ⟨a0, a1, a2, a3, a4, a5, a6, a7⟩ := h
  have m : ∀ j (x : Value), j ∈ [18, 13, 14, 16, 26, 4, 25, 7] → x = g pm j → x = g2 pm j := fun j x hj e => e.trans (h2 j hj).symm
  exact ⟨m 18 _ (by decide) ((h1 0 (by decide)).trans a0), m 13 _ (by decide) ((h1 1 (by decide)).trans a1), m 14 _ (by decide) ((h1 2 (by decide)).trans a2), m 16 _ (by decide) ((h1 4 (by decide)).trans a3), m 26 _ (by decide) ((h1 6 (by decide)).trans a4), m 4 _ (by decide) (h3.trans a5), m 25 _ (by decide) (h4.trans a6), m 7 _ (by decide) (h5.trans a7)⟩
theorem zLc.up (h : zLc κ g z0 px pm rq co sp t) {a j k : Nat} {v : Value} (hk : κ a = k) (hn : (k ≠ 13 ∧ k ≠ 1 ∧ k ≠ 25 ∧ k ≠ 14 ∧ k ≠ 26) ∧ k ≠ 10) : zLc κ (zup g a j v) z0 px pm rq co sp t := by
  obtain ⟨⟨k1, k2, -⟩, -, ⟨h2, h3⟩, -, -, lc, eC, nC, mC, cf, lt, eT, nT, mT, tf, hM⟩ := id h
  exact h.fr (fun _ _ => rfl) (fun j _ => zup_a (z_apart k1 hk (Ne.symm hn.2))) ((zup_a (z_apart k2 hk (Ne.symm hn.1.1))).trans h2) h3 ⟨lc, eC, nC, mC, cf, lt, eT, nT, mT, tf, hM.upO hk hn.1⟩
theorem zLc.upM (h : zLc κ g z0 px pm rq co sp t) {j : Nat} {v : Value} (hj : 2 ≤ j ∧ j ≠ 4) : zLc κ (zup g pm j v) z0 px pm rq co sp t := by
  obtain ⟨⟨k1, k2, -⟩, -, ⟨h2, h3⟩, -, -, lc, eC, nC, mC, cf, lt, eT, nT, mT, tf, hM⟩ := id h
  exact h.fr (fun _ _ => rfl) (fun j _ => zup_a (z_apart k1 k2 (by decide))) ((zup_j (fun e => hj.2 e.symm)).trans h2) h3 ⟨lc, eC, nC, mC, cf, lt, eT, nT, mT, tf, hM.upP hj.1⟩
theorem zJ.up (h : zJ κ g z0 px pm rq co sp t) {a j k : Nat} {v : Value} (hk : κ a = k) (hn : ((k ≠ 13 ∧ k ≠ 1 ∧ k ≠ 25 ∧ k ≠ 14 ∧ k ≠ 26) ∧ k ≠ 10) ∧ k ≠ 7 ∧ k ≠ 4 ∧ k ≠ 8) : zJ κ (zup g a j v) z0 px pm rq co sp t := by
  obtain ⟨k1, k2, k3, k4, k5⟩ := h.1.1
  exact ⟨h.1.up hk hn.1, h.2.fr (fun _ _ => zup_a (z_apart k3 hk (Ne.symm hn.2.1))) (fun _ _ => zup_a (z_apart k2 hk (Ne.symm hn.1.1.1))) (zup_a (z_apart k1 hk (Ne.symm hn.1.2))) (zup_a (z_apart k4 hk (Ne.symm hn.2.2.1))) (zup_a (z_apart k5 hk (Ne.symm hn.2.2.2)))⟩
theorem zJ.upM (h : zJ κ g z0 px pm rq co sp t) {j : Nat} {v : Value} (hj : (2 ≤ j ∧ j ≠ 4) ∧ j ∉ [18, 13, 14, 16, 26, 4, 25, 7]) : zJ κ (zup g pm j v) z0 px pm rq co sp t := by
  obtain ⟨k1, k2, k3, k4, k5⟩ := h.1.1
  exact ⟨h.1.upM hj.1, h.2.fr (fun _ _ => zup_a (z_apart k3 k2 (by decide))) (fun i hi => zup_j (fun e => hj.2 (e ▸ hi))) (zup_a (z_apart k1 k2 (by decide))) (zup_a (z_apart k4 k2 (by decide))) (zup_a (z_apart k5 k2 (by decide)))⟩
theorem zJ.ext (h : zJ κ g z0 px pm rq co sp t) (hx : zExt κ g κ2 g2) : zJ κ2 g2 z0 px pm rq co sp t := by
  obtain ⟨⟨k1, k2, k3, k4, k5⟩, -, ⟨h2, h3⟩, -, -, lc, eC, nC, mC, cf, lt, eT, nT, mT, tf, hM⟩ := id h.1
  have q : ∀ {a k : Nat} (j : Nat), κ a = k → k < 99 → g2 a j = g a j := fun j e hk => hx.2 _ j (by rw [e]; exact hk)
  exact ⟨h.1.fr hx.1 (fun j _ => q j k1 (by decide)) ((q 4 k2 (by decide)).trans h2) h3 ⟨lc, eC, nC, mC, cf, lt, eT, nT, mT, tf, hM.ext hx⟩, h.2.fr (fun j _ => q j k3 (by decide)) (fun j _ => q j k2 (by decide)) (q 8 k1 (by decide)) (q 4 k4 (by decide)) (q 0 k5 (by decide))⟩
/-- behind ticks of the class -/
theorem zLc.tkC (h : zLc κ g z0 px pm rq co sp t) {a b c : Int32} (hk : zTk px rq 8 2 4 g g2 a b c) : zLc κ g2 z0 px pm rq co sp t := by
  obtain ⟨⟨k1, k2, k3, -⟩, -, ⟨h2, h3⟩, -, -, lc, eC, nC, mC, cf, lt, eT, nT, mT, tf, hM⟩ := id h
  have ot : ∀ {x k : Nat} (j : Nat), κ x = k → k ≠ 10 → k ≠ 7 → g2 x j = g x j := fun j e ha hb => hk.2.2.2 _ j (fun q => ha (by rw [← e, q.1]; exact k1)) (fun q => hb (by rw [← e, q.1]; exact k3))
  have li : ∀ {l K e KA KE n : Nat} {mo : Int32} {f : Nat → Nat}, zLi κ g z0 l K e KA KE n mo f → K ≠ 10 → K ≠ 7 → KA ≠ 10 → KA ≠ 7 → zLi κ g2 z0 l K e KA KE n mo f := by
    intro l K e KA KE n mo f ⟨a1, a2, a3, a4, a5, a6, a7, a8⟩ e1 e2 e3 e4
    exact ⟨a1, (ot 0 a1 e1 e2).trans a2, (ot 1 a1 e1 e2).trans a3, (ot 2 a1 e1 e2).trans a4, a5, a6, a7, fun i hi => ⟨(ot i (a6 (by omega)) e3 e4).trans (a8 i hi).1, (a8 i hi).2⟩⟩
  have pm2 : ∀ j, g2 pm j = g pm j := fun j => ot j k2 (by decide) (by decide)
  exact h.fr (fun _ _ => rfl) (fun j hj => hk.2.2.2 _ j (fun q => hj q.2) (fun q => z_apart k1 k3 (by decide) q.1)) ((pm2 4).trans h2) h3 ⟨lc, eC, nC, mC, cf, lt, eT, nT, mT, tf, hM.k, (pm2 0).trans hM.gc, (pm2 1).trans hM.gt, li hM.LC (by decide) (by decide) (by decide) (by decide), li hM.LT (by decide) (by decide) (by decide) (by decide), hM.bC, hM.bT⟩
/-- behind ticks of the reference -/
theorem zLc.tkM (h : zLc κ g z0 px pm rq co sp t) {n : Nat} {b c : Int32} (hk : zTk pm pm 4 14 16 g g2 (nI t + nI n) b c) (hb : t + n ≤ 9999) : zLc κ g2 z0 px pm rq co sp (t + n) := by
  obtain ⟨⟨k1, k2, -⟩, -, -, -, -, lc, eC, nC, mC, cf, lt, eT, nT, mT, tf, hM⟩ := id h
  exact h.fr (fun _ _ => rfl) (fun j _ => hk.2.2.2 _ j (fun q => z_apart k1 k2 (by decide) q.1) (fun q => z_apart k1 k2 (by decide) q.1)) (hk.1.trans (by rw [nI_add])) hb ⟨lc, eC, nC, mC, cf, lt, eT, nT, mT, tf, hM.tk hk⟩
/-- both have passed n ticks -/
theorem zJ.pass (h : zJ κ g z0 px pm rq co sp t) {po n : Nat} {hh ww : Int32} {v v2 : Value} (hko : κ po = 29) (h8 : zTk px rq 8 2 4 g g8 (nI t + nI n) hh ww) (h9 : zTk pm pm 4 14 16 (zup (zup g8 po 0 v) pm 12 v2) g2 (nI t + nI n) hh ww) (hb : t + n ≤ 9999) : zJ κ g2 z0 px pm rq co sp (t + n) := by
  refine ⟨(((h.1.tkC h8).up hko (by decide)).upM (by decide)).tkM h9 hb, ?_⟩
  obtain ⟨k1, k2, k3, k4, k5⟩ := h.1.1
  obtain ⟨a0, a1, a2, a3, a4, a5, a6, a7⟩ := h.2
  -- an object but the reference's own: what it was behind the class's ticks
  have o : ∀ {x k : Nat} (j : Nat), κ x = k → k ≠ 13 → k ≠ 29 → g2 x j = g8 x j := fun j e ha hb => ((h9.2.2.2 _ j (fun q => z_apart e k2 ha q.1) (fun q => z_apart e k2 ha q.1)).trans (zup_a (z_apart e k2 ha))).trans (zup_a (z_apart e hko hb))
  have p8 : ∀ j, g8 pm j = g pm j := fun j => h8.2.2.2 _ j (fun q => z_apart k2 k1 (by decide) q.1) (fun q => z_apart k2 k3 (by decide) q.1)
  have pj : ∀ j, j ≠ 4 → j ≠ 14 → j ≠ 16 → j ≠ 12 → g2 pm j = g pm j := fun j e1 e2 e3 e4 => (((h9.2.2.2 _ j (fun q => e1 q.2) (fun q => by rcases q.2 with e | e; exact e2 e; exact e3 e)).trans (zup_j e4)).trans (zup_a (z_apart k2 hko (by decide)))).trans (p8 j)
  have r8 : ∀ j, j ≠ 2 → j ≠ 4 → g8 rq j = g rq j := fun j e1 e2 => h8.2.2.2 _ j (fun q => z_apart k3 k1 (by decide) q.1) (fun q => by rcases q.2 with e | e; exact e1 e; exact e2 e)
  have x8 : ∀ {x k : Nat} (j : Nat), κ x = k → k ≠ 10 → k ≠ 7 → g8 x j = g x j := fun j e ha hb => h8.2.2.2 _ j (fun q => z_apart e k1 ha q.1) (fun q => z_apart e k3 hb q.1)
  have rr : ∀ j, g2 rq j = g8 rq j := fun j => o j k3 (by decide) (by decide)
  exact ⟨(((rr 0).trans (r8 0 (by decide) (by decide))).trans a0).trans (pj 18 (by decide) (by decide) (by decide) (by decide)).symm, (((rr 1).trans (r8 1 (by decide) (by decide))).trans a1).trans (pj 13 (by decide) (by decide) (by decide) (by decide)).symm,
    ((rr 2).trans h8.2.1).trans h9.2.1.symm, ((rr 4).trans h8.2.2.1).trans h9.2.2.1.symm, (((rr 6).trans (r8 6 (by decide) (by decide))).trans a4).trans (pj 26 (by decide) (by decide) (by decide) (by decide)).symm,
    ((o 8 k1 (by decide) (by decide)).trans h8.1).trans h9.1.symm, (((o 4 k4 (by decide) (by decide)).trans (x8 4 k4 (by decide) (by decide))).trans a6).trans (pj 25 (by decide) (by decide) (by decide) (by decide)).symm, (((o 0 k5 (by decide) (by decide)).trans (x8 0 k5 (by decide) (by decide))).trans a7).trans (pj 7 (by decide) (by decide) (by decide) (by decide)).symm⟩
/-- behind a core or a thread of the reference's -/
theorem zJ.frM (h : zJ κ g z0 px pm rq co sp t) {lx K K2 : Nat} (hl : κ lx = K) (hK : (K ≠ 10 ∧ K ≠ 13 ∧ K ≠ 7 ∧ K ≠ 4 ∧ K ≠ 8) ∧ K2 ≠ 10 ∧ K2 ≠ 13 ∧ K2 ≠ 7 ∧ K2 ≠ 4 ∧ K2 ≠ 8) (hκ : ∀ a, κ a < 99 → κ2 a = κ a) (hg : ∀ b j, κ b < 99 → b ≠ lx → κ b ≠ K2 → ¬ (b = pm ∧ j = 12) → g2 b j = g b j)
    (hM : ∃ (lc eC nC : Nat) (mC : Int32) (cf : Nat → Nat) (lt eT nT : Nat) (mT : Int32) (tf : Nat → Nat), zMo κ2 g2 z0 pm lc eC nC mC cf lt eT nT mT tf) : zJ κ2 g2 z0 px pm rq co sp t := by
  obtain ⟨⟨k1, k2, k3, k4, k5⟩, -, ⟨h2, h3⟩, -⟩ := id h.1
  have o : ∀ {x k : Nat} (j : Nat), κ x = k → k < 99 → k ≠ K → k ≠ K2 → k ≠ 13 → g2 x j = g x j := fun j e e0 e1 e2 e3 => hg _ j (by rw [e]; exact e0) (z_apart e hl e1) (by rw [e]; exact e2) (fun q => z_apart e k2 e3 q.1)
  have pm2 : ∀ j, j ≠ 12 → g2 pm j = g pm j := fun j hj => hg pm j (by rw [k2]; decide) (z_apart k2 hl (Ne.symm hK.1.2.1)) (by rw [k2]; exact Ne.symm hK.2.2.1) (fun q => hj q.2)
  refine ⟨h.1.fr hκ (fun j _ => o j k1 (by decide) (Ne.symm hK.1.1) (Ne.symm hK.2.1) (by decide)) ((pm2 4 (by decide)).trans h2) h3 hM, h.2.fr (fun j _ => o j k3 (by decide) (Ne.symm hK.1.2.2.1) (Ne.symm hK.2.2.2.1) (by decide)) (fun j hj => pm2 j (fun e => by rw [e] at hj; exact absurd hj (by decide))) (o 8 k1 (by decide) (Ne.symm hK.1.1) (Ne.symm hK.2.1) (by decide)) (o 4 k4 (by decide) (Ne.symm hK.1.2.2.2.1) (Ne.symm hK.2.2.2.2.1) (by decide)) (o 0 k5 (by decide) (Ne.symm hK.1.2.2.2.2) (Ne.symm hK.2.2.2.2.2) (by decide))⟩
end ZLAW0
/-- a tracked int is an int -/
theorem z_gi {D : va_G} {tc : Nat → ClassId} {A : Nat → Prop} {H0 : Heap} {X : va_W} {L : List Nat} {κ : Nat → Nat} {g : Nat → Nat → Value} {H : Heap} {locs : List Loc} {a k j ci z : Nat} {ts : List (Nat × Nat)} (hI : zI D tc A H0 X L κ g H locs) (hk : κ a = k) (ho : zO k = some (ci, ts)) (ht : ts[j]? = some (10, z)) : ∃ i : Int32, g a j = .int i := by
  obtain ⟨-, -, f, -, -, hT⟩ := hI
  have hlt : κ a < 99 := by rw [hk]; exact zO_lt ho
  obtain ⟨-, hcc⟩ := hT a hlt
  rw [hk] at hcc
  rcases hcc with ⟨ci', ts', fs, h1, h2, h3, h4⟩ | ⟨h0, -⟩
  · cases h1.symm.trans ho
    have hjl : j < fs.length := by rw [h3]; exact (List.getElem?_eq_some_iff.mp ht).1
    obtain ⟨v, hv⟩ : ∃ v, fs[j]? = some v := ⟨fs[j], List.getElem?_eq_getElem hjl⟩
    obtain ⟨e0, i, e1⟩ := h4 j (10, z) v ht hv
    exact ⟨i, e0.symm.trans e1⟩
  · rw [ho] at h0
    cases h0
/-- the law's frame: what the machine and the tables give -/
def lwC (p : Program) (s : State) (m : MethodId) (meth : Method) (c : Code) (b N : Nat) (xs : Nat → Int32) (D : va_G) (tc : Nat → ClassId) (z0 : Nat) : Prop :=
  p.tables.exec = Jvm.exec ∧ c.code = cL_law ∧ c.maxLocals = 9 ∧ s.vm.findClass RL = some m.cls ∧ (∀ w ∈ wsL_law, w.before #[Value.ref b] s = true) ∧ va_K D vwCl (zTy tc) s ∧ zE z0 (zA [] [] s.heap.size) s ∧ va_X b N xs s s.heap ∧ b < s.heap.size
/-- from the loop's foot on: all is well for whatever a case leaves behind -/
def lwN (p : Program) (l : Launch) (e : Env) (s : State) (m : MethodId) (below : List Frame) (meth : Method) (c : Code) (b : Nat) (D : va_G) (tc : Nat → ClassId) (z0 px pm po pd rq co sp k : Nat) (Q : State → Prop) : Prop :=
  ∀ (d : Drawn) (L : List Nat) (κ : Nat → Nat) (g : Nat → Nat → Value) (H : Heap) (locs : List Loc) (ls : Array Slot) (t : Nat), s.drawn.sameBut d lw_cs → zJ κ g z0 px pm rq co sp t → κ po = 29 → κ pd = 30 → zI D tc (zA [] [] s.heap.size) s.heap [] L κ g H locs →
    lv_has ls 9 [(0, .ref b), (1, .ref px), (2, .ref pm), (3, .ref po), (4, .ref pd), (5, .int (nI (4 * k)))] → W p l e room_1 (s.setDrawn d) m #[Value.ref b] below meth c H locs (60 + 20 * (k + 1) + 37 * t) (400 + 120 * (k + 1) + 162 * t) Q (F0 m 1392 ls [])
theorem lw_ix (k j : Nat) : nI (4 * k) + nI j = nI (4 * k + j) := nI_add _ _
