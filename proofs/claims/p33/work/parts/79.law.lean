/-! the law's loop: what holds at its head, in every law that holds the class against its reference -/
def zLc (κ : Nat → Nat) (g : Nat → Nat → Value) (z0 px pm rq t : Nat) : Prop :=
  (κ px = 10 ∧ κ pm = 13 ∧ κ rq = 7) ∧ g px 5 = .ref rq ∧ (g pm 4 = .int (nI t) ∧ t ≤ 9999) ∧ (∃ a, κ a = 23 ∧ g px 1 = .ref a) ∧ (∃ a, κ a = 24 ∧ g px 2 = .ref a) ∧ (∃ a, κ a = 4 ∧ g px 3 = .ref a) ∧ (∃ a, κ a = 8 ∧ g px 4 = .ref a) ∧
  ∃ (lc eC nC : Nat) (mC : Int32) (cf : Nat → Nat) (lt eT nT : Nat) (mT : Int32) (tf : Nat → Nat), zMo κ g z0 pm lc eC nC mC cf lt eT nT mT tf
/-- what both of them say alike: the last request's number, and why the last one was refused -/
def zAg (g : Nat → Nat → Value) (pm rq : Nat) : Prop := g rq 1 = g pm 13 ∧ g rq 6 = g pm 26
def zJ (κ : Nat → Nat) (g : Nat → Nat → Value) (z0 px pm rq t : Nat) : Prop := zLc κ g z0 px pm rq t ∧ zAg g pm rq
section ZLAW0
variable {κ κ2 : Nat → Nat} {g g2 : Nat → Nat → Value} {z0 px pm rq t : Nat}
theorem zLc.fr (h : zLc κ g z0 px pm rq t) {t2 : Nat} (hκ : ∀ a, κ a < 99 → κ2 a = κ a) (hx : ∀ j, j ≠ 8 → g2 px j = g px j) (ht : g2 pm 4 = .int (nI t2)) (hb : t2 ≤ 9999)
    (hM : ∃ (lc eC nC : Nat) (mC : Int32) (cf : Nat → Nat) (lt eT nT : Nat) (mT : Int32) (tf : Nat → Nat), zMo κ2 g2 z0 pm lc eC nC mC cf lt eT nT mT tf) : zLc κ2 g2 z0 px pm rq t2 := by
  obtain ⟨⟨k1, k2, k3⟩, h1, -, ⟨a1, b1, c1⟩, ⟨a2, b2, c2⟩, ⟨a3, b3, c3⟩, ⟨a4, b4, c4⟩, -⟩ := h
  have q : ∀ {a k : Nat}, κ a = k → k < 99 → κ2 a = k := fun e hk => (hκ _ (by rw [e]; exact hk)).trans e
  exact ⟨⟨q k1 (by decide), q k2 (by decide), q k3 (by decide)⟩, (hx 5 (by decide)).trans h1, ⟨ht, hb⟩, ⟨a1, q b1 (by decide), (hx 1 (by decide)).trans c1⟩, ⟨a2, q b2 (by decide), (hx 2 (by decide)).trans c2⟩, ⟨a3, q b3 (by decide), (hx 3 (by decide)).trans c3⟩, ⟨a4, q b4 (by decide), (hx 4 (by decide)).trans c4⟩, hM⟩
theorem zAg.fr (h : zAg g pm rq) (h1 : ∀ j, j = 1 ∨ j = 6 → g2 rq j = g rq j) (h2 : ∀ j, j = 13 ∨ j = 26 → g2 pm j = g pm j) : zAg g2 pm rq :=
  ⟨(h1 1 (Or.inl rfl)).trans (h.1.trans (h2 13 (Or.inl rfl)).symm), (h1 6 (Or.inr rfl)).trans (h.2.trans (h2 26 (Or.inr rfl)).symm)⟩
theorem zLc.up (h : zLc κ g z0 px pm rq t) {a j k : Nat} {v : Value} (hk : κ a = k) (hn : (k ≠ 13 ∧ k ≠ 1 ∧ k ≠ 25 ∧ k ≠ 14 ∧ k ≠ 26) ∧ k ≠ 10) : zLc κ (zup g a j v) z0 px pm rq t := by
  obtain ⟨⟨k1, k2, k3⟩, -, ⟨h2, h3⟩, -, -, -, -, lc, eC, nC, mC, cf, lt, eT, nT, mT, tf, hM⟩ := id h
  have n1 : px ≠ a := fun e => hn.2 (by rw [← hk, ← e]; exact k1)
  have n2 : pm ≠ a := fun e => hn.1.1 (by rw [← hk, ← e]; exact k2)
  exact h.fr (fun _ _ => rfl) (fun j _ => zup_a n1) ((zup_a n2).trans h2) h3 ⟨lc, eC, nC, mC, cf, lt, eT, nT, mT, tf, hM.upO hk hn.1⟩
theorem zLc.upM (h : zLc κ g z0 px pm rq t) {j : Nat} {v : Value} (hj : 2 ≤ j ∧ j ≠ 4) : zLc κ (zup g pm j v) z0 px pm rq t := by
  obtain ⟨⟨k1, k2, k3⟩, -, ⟨h2, h3⟩, -, -, -, -, lc, eC, nC, mC, cf, lt, eT, nT, mT, tf, hM⟩ := id h
  have n1 : px ≠ pm := fun e => absurd (k1.symm.trans (e ▸ k2)) (by decide)
  exact h.fr (fun _ _ => rfl) (fun j _ => zup_a n1) ((zup_j (fun e => hj.2 e.symm)).trans h2) h3 ⟨lc, eC, nC, mC, cf, lt, eT, nT, mT, tf, hM.upP hj.1⟩
theorem zJ.up (h : zJ κ g z0 px pm rq t) {a j k : Nat} {v : Value} (hk : κ a = k) (hn : (k ≠ 13 ∧ k ≠ 1 ∧ k ≠ 25 ∧ k ≠ 14 ∧ k ≠ 26) ∧ k ≠ 10 ∧ k ≠ 7) : zJ κ (zup g a j v) z0 px pm rq t := by
  have n3 : rq ≠ a := fun e => hn.2.2 (by rw [← hk, ← e]; exact h.1.1.2.2)
  have n2 : pm ≠ a := fun e => hn.1.1 (by rw [← hk, ← e]; exact h.1.1.2.1)
  exact ⟨h.1.up hk ⟨hn.1, hn.2.1⟩, h.2.fr (fun _ _ => zup_a n3) (fun _ _ => zup_a n2)⟩
theorem zJ.upQ (h : zJ κ g z0 px pm rq t) {j : Nat} {v : Value} (hj : j ≠ 1 ∧ j ≠ 6) : zJ κ (zup g rq j v) z0 px pm rq t := by
  have n2 : pm ≠ rq := fun e => absurd (h.1.1.2.1.symm.trans (e ▸ h.1.1.2.2)) (by decide)
  exact ⟨h.1.up h.1.1.2.2 (by decide), h.2.fr (fun i hi => zup_j (by rcases hi with rfl | rfl; exact fun e => hj.1 e.symm; exact fun e => hj.2 e.symm)) (fun _ _ => zup_a n2)⟩
theorem zJ.upM (h : zJ κ g z0 px pm rq t) {j : Nat} {v : Value} (hj : (2 ≤ j ∧ j ≠ 4) ∧ j ≠ 13 ∧ j ≠ 26) : zJ κ (zup g pm j v) z0 px pm rq t := by
  have n3 : rq ≠ pm := fun e => absurd (h.1.1.2.2.symm.trans (e ▸ h.1.1.2.1)) (by decide)
  exact ⟨h.1.upM hj.1, h.2.fr (fun _ _ => zup_a n3) (fun i hi => zup_j (by rcases hi with rfl | rfl; exact fun e => hj.2.1 e.symm; exact fun e => hj.2.2 e.symm))⟩
theorem zJ.ext (h : zJ κ g z0 px pm rq t) (hx : zExt κ g κ2 g2) : zJ κ2 g2 z0 px pm rq t := by
  obtain ⟨⟨k1, k2, k3⟩, -, ⟨h2, h3⟩, -, -, -, -, lc, eC, nC, mC, cf, lt, eT, nT, mT, tf, hM⟩ := id h.1
  have q : ∀ {a k : Nat} (j : Nat), κ a = k → k < 99 → g2 a j = g a j := fun j e hk => hx.2 _ j (by rw [e]; exact hk)
  exact ⟨h.1.fr hx.1 (fun j _ => q j k1 (by decide)) ((q 4 k2 (by decide)).trans h2) h3 ⟨lc, eC, nC, mC, cf, lt, eT, nT, mT, tf, hM.ext hx⟩, h.2.fr (fun j _ => q j k3 (by decide)) (fun j _ => q j k2 (by decide))⟩
/-- behind ticks of the class -/
theorem zJ.tkC (h : zJ κ g z0 px pm rq t) {a b c : Int32} (hk : zTk px rq 8 2 4 g g2 a b c) : zJ κ g2 z0 px pm rq t := by
  obtain ⟨⟨k1, k2, k3⟩, -, ⟨h2, h3⟩, -, -, -, -, lc, eC, nC, mC, cf, lt, eT, nT, mT, tf, hM⟩ := id h.1
  have n1 : rq ≠ px := fun e => absurd (k3.symm.trans (e ▸ k1)) (by decide)
  have ot : ∀ {x k : Nat} (j : Nat), κ x = k → k ≠ 10 → k ≠ 7 → g2 x j = g x j := fun j e ha hb => hk.2.2.2 _ j (fun q => ha (by rw [← e, q.1]; exact k1)) (fun q => hb (by rw [← e, q.1]; exact k3))
  have fx : ∀ j, j ≠ 8 → g2 px j = g px j := fun j hj => hk.2.2.2 _ j (fun q => hj q.2) (fun q => n1 q.1.symm)
  have li : ∀ {l K e KA KE n : Nat} {mo : Int32} {f : Nat → Nat}, zLi κ g z0 l K e KA KE n mo f → K ≠ 10 → K ≠ 7 → KA ≠ 10 → KA ≠ 7 → zLi κ g2 z0 l K e KA KE n mo f := by
    intro l K e KA KE n mo f ⟨a1, a2, a3, a4, a5, a6, a7, a8⟩ e1 e2 e3 e4
    exact ⟨a1, (ot 0 a1 e1 e2).trans a2, (ot 1 a1 e1 e2).trans a3, (ot 2 a1 e1 e2).trans a4, a5, a6, a7, fun i hi => ⟨(ot i (a6 (by omega)) e3 e4).trans (a8 i hi).1, (a8 i hi).2⟩⟩
  have pm2 : ∀ j, g2 pm j = g pm j := fun j => ot j k2 (by decide) (by decide)
  exact ⟨h.1.fr (fun _ _ => rfl) fx ((pm2 4).trans h2) h3 ⟨lc, eC, nC, mC, cf, lt, eT, nT, mT, tf, hM.k, (pm2 0).trans hM.gc, (pm2 1).trans hM.gt, li hM.LC (by decide) (by decide) (by decide) (by decide), li hM.LT (by decide) (by decide) (by decide) (by decide), hM.bC, hM.bT⟩,
    h.2.fr (fun j hj => hk.2.2.2 _ j (fun q => n1 q.1) (fun q => by rcases hj with rfl | rfl <;> rcases q.2 with e | e <;> exact absurd e (by decide))) (fun j _ => pm2 j)⟩
/-- behind ticks of the reference -/
theorem zJ.tkM (h : zJ κ g z0 px pm rq t) {n : Nat} {b c : Int32} (hk : zTk pm pm 4 14 16 g g2 (nI t + nI n) b c) (hb : t + n ≤ 9999) : zJ κ g2 z0 px pm rq (t + n) := by
  obtain ⟨⟨k1, k2, k3⟩, -, -, -, -, -, -, lc, eC, nC, mC, cf, lt, eT, nT, mT, tf, hM⟩ := id h.1
  have n1 : px ≠ pm := fun e => absurd (k1.symm.trans (e ▸ k2)) (by decide)
  have n3 : rq ≠ pm := fun e => absurd (k3.symm.trans (e ▸ k2)) (by decide)
  have ot : ∀ {x : Nat} (j : Nat), x ≠ pm → g2 x j = g x j := fun j e => hk.2.2.2 _ j (fun q => e q.1) (fun q => e q.1)
  exact ⟨h.1.fr (fun _ _ => rfl) (fun j _ => ot j n1) (hk.1.trans (by rw [nI_add])) hb ⟨lc, eC, nC, mC, cf, lt, eT, nT, mT, tf, hM.tk hk⟩,
    h.2.fr (fun j _ => ot j n3) (fun j hj => hk.2.2.2 _ j (fun q => by rcases hj with rfl | rfl <;> exact absurd q.2 (by decide)) (fun q => by rcases hj with rfl | rfl <;> rcases q.2 with e | e <;> exact absurd e (by decide)))⟩
/-- behind a core or a thread of the reference's -/
theorem zJ.frM (h : zJ κ g z0 px pm rq t) {lx K K2 : Nat} (hl : κ lx = K) (hK : (K ≠ 10 ∧ K ≠ 13 ∧ K ≠ 7) ∧ K2 ≠ 10 ∧ K2 ≠ 13 ∧ K2 ≠ 7) (hκ : ∀ a, κ a < 99 → κ2 a = κ a) (hg : ∀ b j, κ b < 99 → b ≠ lx → κ b ≠ K2 → ¬ (b = pm ∧ j = 12) → g2 b j = g b j)
    (hM : ∃ (lc eC nC : Nat) (mC : Int32) (cf : Nat → Nat) (lt eT nT : Nat) (mT : Int32) (tf : Nat → Nat), zMo κ2 g2 z0 pm lc eC nC mC cf lt eT nT mT tf) : zJ κ2 g2 z0 px pm rq t := by
  obtain ⟨⟨k1, k2, k3⟩, -, ⟨h2, h3⟩, -⟩ := id h.1
  have n1 : px ≠ pm := fun e => absurd (k1.symm.trans (e ▸ k2)) (by decide)
  have n3 : rq ≠ pm := fun e => absurd (k3.symm.trans (e ▸ k2)) (by decide)
  have px2 : ∀ j, g2 px j = g px j := fun j => hg px j (by rw [k1]; decide) (fun e => hK.1.1 (by rw [← hl, ← e]; exact k1)) (by rw [k1]; exact fun e => hK.2.1 e.symm) (fun q => n1 q.1)
  have rq2 : ∀ j, g2 rq j = g rq j := fun j => hg rq j (by rw [k3]; decide) (fun e => hK.1.2.2 (by rw [← hl, ← e]; exact k3)) (by rw [k3]; exact fun e => hK.2.2.2 e.symm) (fun q => n3 q.1)
  have pm2 : ∀ j, j ≠ 12 → g2 pm j = g pm j := fun j hj => hg pm j (by rw [k2]; decide) (fun e => hK.1.2.1 (by rw [← hl, ← e]; exact k2)) (by rw [k2]; exact fun e => hK.2.2.1 e.symm) (fun q => hj q.2)
  exact ⟨h.1.fr hκ (fun j _ => px2 j) ((pm2 4 (by decide)).trans h2) h3 hM, h.2.fr (fun j _ => rq2 j) (fun j hj => pm2 j (by rcases hj with rfl | rfl <;> decide))⟩
end ZLAW0
/-- a tracked int is an int -/
theorem z_gi {D : va_G} {tc : Nat → ClassId} {A : Nat → Prop} {H0 : Heap} {X : va_W} {L : List Nat} {κ : Nat → Nat} {g : Nat → Nat → Value} {H : Heap} {locs : List Loc} {a k j ci z : Nat} {ts : List (Nat × Nat)} (hI : zI D tc A H0 X L κ g H locs) (hk : κ a = k) (ho : zO k = some (ci, ts)) (ht : ts[j]? = some (10, z)) : ∃ i : Int32, g a j = .int i := by
  obtain ⟨-, -, f, -, -, hT⟩ := hI
  have hlt : κ a < 99 := by rw [hk]; exact zO_lt ho
  obtain ⟨-, hcc⟩ := hT a hlt
  rw [hk] at hcc
  rcases hcc with ⟨ci', ts', fs, h1, h2, h3, h4⟩ | ⟨h0, -⟩
  · cases h1.symm.trans ho
    have hjl : j < fs.length := by rw [h3]; exact (List.getElem?_eq_some_iff.mp ht).1
    obtain ⟨v, hv⟩ : ∃ v, fs[j]? = some v := ⟨fs[j], List.getElem?_eq_getElem hjl⟩
    obtain ⟨e0, i, e1⟩ := h4 j (10, z) v ht hv
    exact ⟨i, e0.symm.trans e1⟩
  · rw [ho] at h0
    cases h0
/-- the law's frame: what the machine and the tables give -/
def lwC (p : Program) (s : State) (m : MethodId) (meth : Method) (c : Code) (b N : Nat) (xs : Nat → Int32) (D : va_G) (tc : Nat → ClassId) (z0 : Nat) : Prop :=
  p.tables.exec = Jvm.exec ∧ c.code = cL_law ∧ c.maxLocals = 9 ∧ s.vm.findClass RL = some m.cls ∧ (∀ w ∈ wsL_law, w.before #[Value.ref b] s = true) ∧ va_K D vwCl (zTy tc) s ∧ zE z0 (zA [] [] s.heap.size) s ∧ va_X b N xs s s.heap ∧ b < s.heap.size
/-- from the loop's foot on: all is well for whatever a case leaves behind -/
def lwN (p : Program) (l : Launch) (e : Env) (s : State) (m : MethodId) (below : List Frame) (meth : Method) (c : Code) (b : Nat) (D : va_G) (tc : Nat → ClassId) (z0 px pm po pd rq k : Nat) (Q : State → Prop) : Prop :=
  ∀ (d : Drawn) (L : List Nat) (κ : Nat → Nat) (g : Nat → Nat → Value) (H : Heap) (locs : List Loc) (ls : Array Slot) (t : Nat), s.drawn.sameBut d lw_cs → zJ κ g z0 px pm rq t → κ po = 29 → κ pd = 30 → zI D tc (zA [] [] s.heap.size) s.heap [] L κ g H locs →
    lv_has ls 9 [(0, .ref b), (1, .ref px), (2, .ref pm), (3, .ref po), (4, .ref pd), (5, .int (nI (4 * k)))] → W p l e room_1 (s.setDrawn d) m #[Value.ref b] below meth c H locs (60 + 20 * (k + 1) + 37 * t) (400 + 120 * (k + 1) + 162 * t) Q (F0 m 1364 ls [])
theorem lw_ix (k j : Nat) : nI (4 * k) + nI j = nI (4 * k + j) := nI_add _ _
