/-! the law's loop: what holds at its head, in every law that holds the class against its reference -/
def zLc (κ : Nat → Nat) (g : Nat → Nat → Value) (z0 px pm rq t : Nat) : Prop :=
  (κ px = 10 ∧ κ pm = 13 ∧ κ rq = 7) ∧ g px 5 = .ref rq ∧ (g pm 4 = .int (nI t) ∧ t ≤ 9999) ∧ (∃ a, κ a = 23 ∧ g px 1 = .ref a) ∧ (∃ a, κ a = 24 ∧ g px 2 = .ref a) ∧ (∃ a, κ a = 4 ∧ g px 3 = .ref a) ∧ (∃ a, κ a = 8 ∧ g px 4 = .ref a) ∧
  ∃ (lc eC nC : Nat) (mC : Int32) (cf : Nat → Nat) (lt eT nT : Nat) (mT : Int32) (tf : Nat → Nat), zMo κ g z0 pm lc eC nC mC cf lt eT nT mT tf
/-- and the class is sound, after k calls -/
def zJ (κ : Nat → Nat) (g : Nat → Nat → Value) (z0 px pm rq t k : Nat) : Prop := zLc κ g z0 px pm rq t ∧ ∃ (P cf bf a q : Nat → Nat) (n t9 : Nat), P 0 = px ∧ zSd42 κ g P cf bf a q n t9 k
section ZLAW0
variable {κ κ2 : Nat → Nat} {g g2 : Nat → Nat → Value} {z0 px pm rq t k : Nat}
theorem zLc.fr (h : zLc κ g z0 px pm rq t) {t2 : Nat} (hκ : ∀ a, κ a < 99 → κ2 a = κ a) (hx : ∀ j, j ≠ 8 → g2 px j = g px j) (ht : g2 pm 4 = .int (nI t2)) (hb : t2 ≤ 9999)
    (hM : ∃ (lc eC nC : Nat) (mC : Int32) (cf : Nat → Nat) (lt eT nT : Nat) (mT : Int32) (tf : Nat → Nat), zMo κ2 g2 z0 pm lc eC nC mC cf lt eT nT mT tf) : zLc κ2 g2 z0 px pm rq t2 := by
  obtain ⟨⟨k1, k2, k3⟩, h1, -, ⟨a1, b1, c1⟩, ⟨a2, b2, c2⟩, ⟨a3, b3, c3⟩, ⟨a4, b4, c4⟩, -⟩ := h
  have q : ∀ {a k : Nat}, κ a = k → k < 99 → κ2 a = k := fun e hk => (hκ _ (by rw [e]; exact hk)).trans e
  exact ⟨⟨q k1 (by decide), q k2 (by decide), q k3 (by decide)⟩, (hx 5 (by decide)).trans h1, ⟨ht, hb⟩, ⟨a1, q b1 (by decide), (hx 1 (by decide)).trans c1⟩, ⟨a2, q b2 (by decide), (hx 2 (by decide)).trans c2⟩, ⟨a3, q b3 (by decide), (hx 3 (by decide)).trans c3⟩, ⟨a4, q b4 (by decide), (hx 4 (by decide)).trans c4⟩, hM⟩
theorem zLc.up (h : zLc κ g z0 px pm rq t) {a j k : Nat} {v : Value} (hk : κ a = k) (hn : (k ≠ 13 ∧ k ≠ 1 ∧ k ≠ 25 ∧ k ≠ 14 ∧ k ≠ 26) ∧ k ≠ 10) : zLc κ (zup g a j v) z0 px pm rq t := by
  obtain ⟨⟨k1, k2, k3⟩, -, ⟨h2, h3⟩, -, -, -, -, lc, eC, nC, mC, cf, lt, eT, nT, mT, tf, hM⟩ := id h
  have n1 : px ≠ a := fun e => hn.2 (by rw [← hk, ← e]; exact k1)
  have n2 : pm ≠ a := fun e => hn.1.1 (by rw [← hk, ← e]; exact k2)
  exact h.fr (fun _ _ => rfl) (fun j _ => zup_a n1) ((zup_a n2).trans h2) h3 ⟨lc, eC, nC, mC, cf, lt, eT, nT, mT, tf, hM.upO hk hn.1⟩
theorem zLc.upM (h : zLc κ g z0 px pm rq t) {j : Nat} {v : Value} (hj : 2 ≤ j ∧ j ≠ 4) : zLc κ (zup g pm j v) z0 px pm rq t := by
  obtain ⟨⟨k1, k2, k3⟩, -, ⟨h2, h3⟩, -, -, -, -, lc, eC, nC, mC, cf, lt, eT, nT, mT, tf, hM⟩ := id h
  have n1 : px ≠ pm := fun e => absurd (k1.symm.trans (e ▸ k2)) (by decide)
  exact h.fr (fun _ _ => rfl) (fun j _ => zup_a n1) ((zup_j (fun e => hj.2 e.symm)).trans h2) h3 ⟨lc, eC, nC, mC, cf, lt, eT, nT, mT, tf, hM.upP hj.1⟩
theorem zWa.mono2 {g : Nat → Nat → Value} {aC B B2 : Nat} (h : zWa g aC B) (hB : B ≤ B2) : zWa g aC B2 := fun j r hj hr => (h j r hj hr).mono hB
theorem zLc.ext (h : zLc κ g z0 px pm rq t) (hx : zExt κ g κ2 g2) : zLc κ2 g2 z0 px pm rq t := by
  obtain ⟨⟨k1, k2, k3⟩, -, ⟨h2, h3⟩, -, -, -, -, lc, eC, nC, mC, cf, lt, eT, nT, mT, tf, hM⟩ := id h
  have q : ∀ {a k : Nat} (j : Nat), κ a = k → k < 99 → g2 a j = g a j := fun j e hk => hx.2 _ j (by rw [e]; exact hk)
  exact h.fr hx.1 (fun j _ => q j k1 (by decide)) ((q 4 k2 (by decide)).trans h2) h3 ⟨lc, eC, nC, mC, cf, lt, eT, nT, mT, tf, hM.ext hx⟩
/-- behind a call of the class that changes its own -/
theorem zLc.out (h : zLc κ g z0 px pm rq t) (ho : zOut κ px g g2) : zLc κ g2 z0 px pm rq t := by
  obtain ⟨⟨k1, k2, k3⟩, ⟨q1, q2, q3, q4, q5, q6, q7⟩⟩ := id h
  obtain ⟨h2, h3⟩ := q2
  obtain ⟨a1, b1, c1⟩ := q3
  obtain ⟨a2, b2, c2⟩ := q4
  obtain ⟨a3, b3, c3⟩ := q5
  obtain ⟨a4, b4, c4⟩ := q6
  obtain ⟨lc, eC, nC, mC, cf, lt, eT, nT, mT, tf, hM⟩ := q7
  have ot : ∀ {x k : Nat} (j : Nat), κ x = k → (k < 3 ∨ (8 < k ∧ k < 32 ∧ k ≠ 10 ∧ k ≠ 31) ∨ 58 < k) → g2 x j = g x j := fun j e hk => ho.1 _ j (by rw [e]; exact hk)
  have li : ∀ {l K e KA KE n : Nat} {mo : Int32} {f : Nat → Nat}, zLi κ g z0 l K e KA KE n mo f → (K < 3 ∨ (8 < K ∧ K < 32 ∧ K ≠ 10 ∧ K ≠ 31) ∨ 58 < K) → (KA < 3 ∨ (8 < KA ∧ KA < 32 ∧ KA ≠ 10 ∧ KA ≠ 31) ∨ 58 < KA) → zLi κ g2 z0 l K e KA KE n mo f := by
    intro l K e KA KE n mo f ⟨a1, a2, a3, a4, a5, a6, a7, a8⟩ e1 e3
    exact ⟨a1, (ot 0 a1 e1).trans a2, (ot 1 a1 e1).trans a3, (ot 2 a1 e1).trans a4, a5, a6, a7, fun i hi => ⟨(ot i (a6 (by omega)) e3).trans (a8 i hi).1, (a8 i hi).2⟩⟩
  have pm2 : ∀ j, g2 pm j = g pm j := fun j => ot j k2 (by decide)
  exact ⟨⟨k1, k2, k3⟩, (ho.2 5 (by decide)).trans q1, ⟨(pm2 4).trans h2, h3⟩, ⟨a1, b1, (ho.2 1 (by decide)).trans c1⟩, ⟨a2, b2, (ho.2 2 (by decide)).trans c2⟩, ⟨a3, b3, (ho.2 3 (by decide)).trans c3⟩, ⟨a4, b4, (ho.2 4 (by decide)).trans c4⟩,
    lc, eC, nC, mC, cf, lt, eT, nT, mT, tf, hM.k, (pm2 0).trans hM.gc, (pm2 1).trans hM.gt, li hM.LC (by decide) (by decide), li hM.LT (by decide) (by decide), hM.bC, hM.bT⟩
theorem zJ.mk {P cf bf a q : Nat → Nat} {n t9 : Nat} (h : zLc κ g z0 (P 0) pm rq t) (h2 : zSd42 κ g P cf bf a q n t9 k) : zJ κ g z0 (P 0) pm rq t k := ⟨h, P, cf, bf, a, q, n, t9, rfl, h2⟩
theorem zJ.more (h : zJ κ g z0 px pm rq t k) : zJ κ g z0 px pm rq t (k + 1) := by
  obtain ⟨h1, P, cf, bf, a, q, n, t9, hP, h2⟩ := h
  exact ⟨h1, P, cf, bf, a, q, n, t9, hP, h2.more⟩
/-- what is not the class's own changes -/
theorem zJ.fr (h : zJ κ g z0 px pm rq t k) {t2 : Nat} (hL : zLc κ2 g2 z0 px pm rq t2) (hκ : ∀ x, κ x < 99 → κ2 x = κ x) (hg : ∀ x j, zKep (κ x) → g2 x j = g x j) : zJ κ2 g2 z0 px pm rq t2 k := by
  obtain ⟨-, P, cf, bf, a, q, n, t9, hP, h2⟩ := h
  exact ⟨hL, P, cf, bf, a, q, n, t9, hP, h2.fr hκ hg⟩
theorem zJ.up (h : zJ κ g z0 px pm rq t k) {a j k9 : Nat} {v : Value} (hk : κ a = k9) (hn : ((k9 ≠ 13 ∧ k9 ≠ 1 ∧ k9 ≠ 25 ∧ k9 ≠ 14 ∧ k9 ≠ 26) ∧ k9 ≠ 10) ∧ k9 ≠ 3 ∧ k9 ≠ 4 ∧ k9 ≠ 5 ∧ k9 ≠ 8 ∧ k9 ≠ 23 ∧ (9 ≤ k9 ∧ k9 ≤ 30)) : zJ κ (zup g a j v) z0 px pm rq t k :=
  h.fr (h.1.up hk hn.1) (fun _ _ => rfl) (fun x i hx => zup_a (fun e => by rw [e, hk] at hx; unfold zKep at hx; omega))
theorem zJ.upM (h : zJ κ g z0 px pm rq t k) {j : Nat} {v : Value} (hj : 2 ≤ j ∧ j ≠ 4) : zJ κ (zup g pm j v) z0 px pm rq t k :=
  h.fr (h.1.upM hj) (fun _ _ => rfl) (fun x i hx => zup_a (fun e => by rw [e, h.1.1.2.1] at hx; unfold zKep at hx; omega))
theorem zKep.lt {k : Nat} (h : zKep k) : k < 99 := by
  unfold zKep at h
  omega
theorem zJ.ext (h : zJ κ g z0 px pm rq t k) (hx : zExt κ g κ2 g2) : zJ κ2 g2 z0 px pm rq t k := h.fr (h.1.ext hx) hx.1 (fun x j hz => hx.2 x j hz.lt)
/-- behind a thread of the class's -/
theorem zJ.thr (h : zJ κ g z0 px pm rq t k) {aT i : Nat} {v : Value} (hk : κ aT = 24) (hx : zExt κ (zup g aT i v) κ2 g2) : zJ κ2 g2 z0 px pm rq t k := (h.up (j := i) (v := v) hk (by decide)).ext hx
/-- behind a core of the class's -/
theorem zLc.coreC {P : Nat → Nat} {n : Nat} (h : zLc κ g z0 (P 0) pm rq t) (hP : κ (P 1) = 23) (hκ : ∀ b, κ b < 99 → κ2 b = κ b) (hg : ∀ b j, κ b < 99 → ¬ (b = P 1 ∧ j = n) → g2 b j = g b j) : zLc κ2 g2 z0 (P 0) pm rq t := by
  refine (h.up (a := P 1) (j := n) (v := g2 (P 1) n) hP (by decide)).ext ⟨hκ, fun b j hb => ?_⟩
  by_cases e : b = P 1 ∧ j = n
  · rw [e.1, e.2, zup_self]
  · rw [hg b j hb e]
    exact (zup_ne (by by_cases h9 : b = P 1; exact Or.inr (fun h8 => e ⟨h9, h8⟩); exact Or.inl h9)).symm
/-- behind ticks of the reference -/
theorem zJ.tkM (h : zJ κ g z0 px pm rq t k) {n : Nat} {b c : Int32} (hk : zTk pm pm 4 14 16 g g2 (nI t + nI n) b c) (hb : t + n ≤ 9999) : zJ κ g2 z0 px pm rq (t + n) k := by
  obtain ⟨⟨k1, k2, k3⟩, -, -, -, -, -, -, lc, eC, nC, mC, cf, lt, eT, nT, mT, tf, hM⟩ := id h.1
  have n1 : px ≠ pm := fun e => absurd (k1.symm.trans (e ▸ k2)) (by decide)
  have ot : ∀ {x : Nat} (j : Nat), x ≠ pm → g2 x j = g x j := fun j e => hk.2.2.2 _ j (fun q => e q.1) (fun q => e q.1)
  exact h.fr (h.1.fr (fun _ _ => rfl) (fun j _ => ot j n1) (hk.1.trans (by rw [nI_add])) hb ⟨lc, eC, nC, mC, cf, lt, eT, nT, mT, tf, hM.tk hk⟩) (fun _ _ => rfl) (fun x j hz => ot j (fun e => by rw [e, k2] at hz; unfold zKep at hz; omega))
/-- behind a core or a thread of the reference's -/
theorem zJ.frM (h : zJ κ g z0 px pm rq t k) {lx K K2 : Nat} (hl : κ lx = K) (hK : (K ≠ 10 ∧ K ≠ 13 ∧ ¬ (K = 3 ∨ K = 4 ∨ K = 5 ∨ K = 8 ∨ K = 23 ∨ 31 ≤ K)) ∧ K2 ≠ 10 ∧ K2 ≠ 13 ∧ ¬ (K2 = 3 ∨ K2 = 4 ∨ K2 = 5 ∨ K2 = 8 ∨ K2 = 23 ∨ 31 ≤ K2)) (hκ : ∀ a, κ a < 99 → κ2 a = κ a) (hg : ∀ b j, κ b < 99 → b ≠ lx → κ b ≠ K2 → ¬ (b = pm ∧ j = 12) → g2 b j = g b j)
    (hM : ∃ (lc eC nC : Nat) (mC : Int32) (cf : Nat → Nat) (lt eT nT : Nat) (mT : Int32) (tf : Nat → Nat), zMo κ2 g2 z0 pm lc eC nC mC cf lt eT nT mT tf) : zJ κ2 g2 z0 px pm rq t k := by
  obtain ⟨⟨k1, k2, k3⟩, -, ⟨h2, h3⟩, -⟩ := id h.1
  have n1 : px ≠ pm := fun e => absurd (k1.symm.trans (e ▸ k2)) (by decide)
  have px2 : ∀ j, g2 px j = g px j := fun j => hg px j (by rw [k1]; decide) (fun e => hK.1.1 (by rw [← hl, ← e]; exact k1)) (by rw [k1]; exact fun e => hK.2.1 e.symm) (fun q => n1 q.1)
  have pm2 : ∀ j, j ≠ 12 → g2 pm j = g pm j := fun j hj => hg pm j (by rw [k2]; decide) (fun e => hK.1.2.1 (by rw [← hl, ← e]; exact k2)) (by rw [k2]; exact fun e => hK.2.2.1 e.symm) (fun q => hj q.2)
  refine h.fr (h.1.fr hκ (fun j _ => px2 j) ((pm2 4 (by decide)).trans h2) h3 hM) hκ (fun x j hz => hg x j hz.lt (fun e => ?_) (fun e => ?_) (fun e => ?_))
  · rw [e, hl] at hz
    unfold zKep at hz
    omega
  · rw [e] at hz
    unfold zKep at hz
    omega
  · rw [e.1, k2] at hz
    unfold zKep at hz
    omega
end ZLAW0
/-- a tracked int is an int -/
theorem z_gi {D : va_G} {tc : Nat → ClassId} {A : Nat → Prop} {H0 : Heap} {X : va_W} {L : List Nat} {κ : Nat → Nat} {g : Nat → Nat → Value} {H : Heap} {locs : List Loc} {a k j ci z : Nat} {ts : List (Nat × Nat)} (hI : zI D tc A H0 X L κ g H locs) (hk : κ a = k) (ho : zO k = some (ci, ts)) (ht : ts[j]? = some (10, z)) : ∃ i : Int32, g a j = .int i := by
  obtain ⟨-, -, f, -, -, hT⟩ := hI
  have hlt : κ a < 99 := by rw [hk]; exact zO_lt ho
  obtain ⟨-, hcc⟩ := hT a hlt
  rw [hk] at hcc
  rcases hcc with ⟨ci', ts', fs, h1, h2, h3, h4⟩ | ⟨h0, -⟩
  · cases h1.symm.trans ho
    have hjl : j < fs.length := by rw [h3]; exact (List.getElem?_eq_some_iff.mp ht).1
    obtain ⟨v, hv⟩ : ∃ v, fs[j]? = some v := ⟨fs[j], List.getElem?_eq_getElem hjl⟩
    obtain ⟨e0, i, e1⟩ := h4 j (10, z) v ht hv
    exact ⟨i, e0.symm.trans e1⟩
  · rw [ho] at h0
    cases h0
/-- the law's frame: what the machine and the tables give -/
def lwC (p : Program) (s : State) (m : MethodId) (meth : Method) (c : Code) (b N : Nat) (xs : Nat → Int32) (D : va_G) (tc : Nat → ClassId) (z0 : Nat) : Prop :=
  p.tables.exec = Jvm.exec ∧ c.code = cL_law ∧ c.maxLocals = 9 ∧ s.vm.findClass RL = some m.cls ∧ (∀ w ∈ wsL_law, w.before #[Value.ref b] s = true) ∧ va_K D vwCl (zTy tc) s ∧ zE z0 (zA [] [] s.heap.size) s ∧ va_X b N xs s s.heap ∧ b < s.heap.size
/-- from the loop's foot on: all is well for whatever a case leaves behind -/
def lwN (p : Program) (l : Launch) (e : Env) (s : State) (m : MethodId) (below : List Frame) (meth : Method) (c : Code) (b : Nat) (D : va_G) (tc : Nat → ClassId) (z0 px pm po pd rq k : Nat) (Q : State → Prop) : Prop :=
  ∀ (d : Drawn) (L : List Nat) (κ : Nat → Nat) (g : Nat → Nat → Value) (H : Heap) (locs : List Loc) (ls : Array Slot) (t : Nat), s.drawn.sameBut d lw_cs → zJ κ g z0 px pm rq t (k + 1) → κ po = 29 → κ pd = 30 → zI D tc (zA [] [] s.heap.size) s.heap [] L κ g H locs →
    lv_has ls 9 [(0, .ref b), (1, .ref px), (2, .ref pm), (3, .ref po), (4, .ref pd), (5, .int (nI (4 * k)))] → W p l e room_1 (s.setDrawn d) m #[Value.ref b] below meth c H locs (60 + 20 * (k + 1) + 37 * t) (400 + 120 * (k + 1) + 162 * t) Q (F0 m 1364 ls [])
theorem lw_ix (k j : Nat) : nI (4 * k) + nI j = nI (4 * k + j) := nI_add _ _
