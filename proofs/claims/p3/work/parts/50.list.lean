/-! the reference's lists over the pool, the reference's own state, and rows for cells of the walk's own. -/
/-- a list of the pool: its object, its array, how many, its cells -/
def zLi (κ : Nat → Nat) (g : Nat → Nat → Value) (z0 l K e KA KE n : Nat) (mo : Int32) (f : Nat → Nat) : Prop :=
  κ l = K ∧ g l 0 = .int mo ∧ g l 1 = .ref e ∧ g l 2 = .int (nI n) ∧ n ≤ 9 ∧ (0 < n → κ e = KA) ∧ (n = 0 → e = z0) ∧ ∀ j, j < n → g e j = .ref (f j) ∧ κ (f j) = KE
theorem zLi.n9 {κ : Nat → Nat} {g : Nat → Nat → Value} {z0 l K e KA KE n : Nat} {mo : Int32} {f : Nat → Nat} (h : zLi κ g z0 l K e KA KE n mo f) : n ≤ 9 := h.2.2.2.2.1
theorem zLi.el {κ : Nat → Nat} {g : Nat → Nat → Value} {z0 l K e KA KE n : Nat} {mo : Int32} {f : Nat → Nat} (h : zLi κ g z0 l K e KA KE n mo f) {i : Nat} (hi : i < n) : κ (f i) = KE := (h.2.2.2.2.2.2.2 i hi).2
theorem zLi.at {κ : Nat → Nat} {g : Nat → Nat → Value} {z0 l K e KA KE n : Nat} {mo : Int32} {f : Nat → Nat} (h : zLi κ g z0 l K e KA KE n mo f) {i : Nat} (hi : i < n) : g e i = .ref (f i) := (h.2.2.2.2.2.2.2 i hi).1
theorem zLi.ka {κ : Nat → Nat} {g : Nat → Nat → Value} {z0 l K e KA KE n : Nat} {mo : Int32} {f : Nat → Nat} (h : zLi κ g z0 l K e KA KE n mo f) {i : Nat} (hi : i < n) : κ e = KA := h.2.2.2.2.2.1 (by omega)
theorem zLi.up {κ : Nat → Nat} {g : Nat → Nat → Value} {z0 l K e KA KE n : Nat} {mo : Int32} {f : Nat → Nat} (h : zLi κ g z0 l K e KA KE n mo f) {a j : Nat} {v : Value} (h1 : κ a ≠ K) (h2 : κ a ≠ KA) : zLi κ (zup g a j v) z0 l K e KA KE n mo f := by
  obtain ⟨a1, a2, a3, a4, a5, a6, a7, a8⟩ := h
  have hl : l ≠ a := fun q => h1 (by rw [← q]; exact a1)
  refine ⟨a1, (zup_a hl).trans a2, (zup_a hl).trans a3, (zup_a hl).trans a4, a5, a6, a7, fun i hi => ⟨(zup_a (fun q => h2 (by rw [← q]; exact a6 (by omega)))).trans (a8 i hi).1, (a8 i hi).2⟩⟩
/-- the reference's own state -/
def zMo (κ : Nat → Nat) (g : Nat → Nat → Value) (z0 p lc eC nC : Nat) (mC : Int32) (cf : Nat → Nat) (lt eT nT : Nat) (mT : Int32) (tf : Nat → Nat) : Prop :=
  κ p = 13 ∧ g p 0 = .ref lc ∧ g p 1 = .ref lt ∧ zLi κ g z0 lc 1 eC 25 11 nC mC cf ∧ zLi κ g z0 lt 14 eT 26 12 nT mT tf ∧ nC ≤ 6 ∧ nT ≤ 8
section
variable {κ : Nat → Nat} {g : Nat → Nat → Value} {z0 p lc eC nC : Nat} {mC : Int32} {cf : Nat → Nat} {lt eT nT : Nat} {mT : Int32} {tf : Nat → Nat}
theorem zMo.k (h : zMo κ g z0 p lc eC nC mC cf lt eT nT mT tf) : κ p = 13 := h.1
theorem zMo.gc (h : zMo κ g z0 p lc eC nC mC cf lt eT nT mT tf) : g p 0 = .ref lc := h.2.1
theorem zMo.gt (h : zMo κ g z0 p lc eC nC mC cf lt eT nT mT tf) : g p 1 = .ref lt := h.2.2.1
theorem zMo.LC (h : zMo κ g z0 p lc eC nC mC cf lt eT nT mT tf) : zLi κ g z0 lc 1 eC 25 11 nC mC cf := h.2.2.2.1
theorem zMo.LT (h : zMo κ g z0 p lc eC nC mC cf lt eT nT mT tf) : zLi κ g z0 lt 14 eT 26 12 nT mT tf := h.2.2.2.2.1
theorem zMo.bC (h : zMo κ g z0 p lc eC nC mC cf lt eT nT mT tf) : nC ≤ 6 := h.2.2.2.2.2.1
theorem zMo.bT (h : zMo κ g z0 p lc eC nC mC cf lt eT nT mT tf) : nT ≤ 8 := h.2.2.2.2.2.2
/-- a value of the reference's own that is not a list -/
theorem zMo.upP (h : zMo κ g z0 p lc eC nC mC cf lt eT nT mT tf) {j : Nat} {v : Value} (hj : 2 ≤ j) : zMo κ (zup g p j v) z0 p lc eC nC mC cf lt eT nT mT tf :=
  ⟨h.k, (zup_j (by omega)).trans h.gc, (zup_j (by omega)).trans h.gt, h.LC.up (by rw [h.k]; decide) (by rw [h.k]; decide), h.LT.up (by rw [h.k]; decide) (by rw [h.k]; decide), h.bC, h.bT⟩
/-- a value of one of its cores or threads -/
theorem zMo.upO (h : zMo κ g z0 p lc eC nC mC cf lt eT nT mT tf) {a j k : Nat} {v : Value} (hk : κ a = k) (hn : k ≠ 13 ∧ k ≠ 1 ∧ k ≠ 25 ∧ k ≠ 14 ∧ k ≠ 26) : zMo κ (zup g a j v) z0 p lc eC nC mC cf lt eT nT mT tf := by
  have hp : p ≠ a := fun q => hn.1 (by rw [← hk, ← q]; exact h.k)
  exact ⟨h.k, (zup_a hp).trans h.gc, (zup_a hp).trans h.gt, h.LC.up (by rw [hk]; exact hn.2.1) (by rw [hk]; exact hn.2.2.1), h.LT.up (by rw [hk]; exact hn.2.2.2.1) (by rw [hk]; exact hn.2.2.2.2), h.bC, h.bT⟩
end
section ZLIST
variable {p : Program} {l : Launch} {e : Env} {R : Room} {s : State} {m : MethodId} {args : Array Value} {below : List Frame} {meth : Method} {c : Code} {H : Heap} {locs : List Loc} {cells slots mc ms : Nat} {Q : State → Prop}
variable {a0 : Array Value} {pc : Nat} {ls : Array Slot} {rest st0 : List Value} {D : va_G} {tc : Nat → ClassId} {A : Nat → Prop} {H0 : Heap} {X : va_W} {L : List Nat} {κ : Nat → Nat} {g : Nat → Nat → Value} {cc : ByteArray} {Ts : List Cond} {own : String} {a n ti i : Nat}
/-- a call through an interface that hands back an object, with cells of the walk's own -/
theorem z_qFX {S : Type} {sel : S → zS} {rxf : S → va_W} {post : Option Nat → S → Prop} {Xc wr : va_W} (isC isR : List Nat) (hC : isC.map (fun i => X[i]?) = Xc.map some) (hR : isR.map (fun i => X[i]?) = wr.map some) (hnC : va_nd isC = true) (hn : va_nd isR = true) (hdis : ∀ i ∈ isR, i ∉ isC) (hI : zI D tc A s.heap X L κ g H locs) (hr : va_Run5 p l e R s m args below meth c H locs cells slots mc ms (F0 m pc ls st0) rest (va_Qq post (fun (u : S) (t : State) => zB D tc (zA Xc L H.size) (rxf u) (sel u) t) (zA Xc L H.size) a0) (zA Xc L H.size))
    (kk : ∀ (r : Option Nat) (u : S) (H1 : Heap) (locs1 : List Loc), post r u → zI D tc A s.heap (wr ++ rxf u) (sel u).1 (sel u).2.1 (sel u).2.2 H1 locs1 → W p l e R s m args below meth c H1 locs1 (cells + mc) (slots + ms) Q (F0 m (pc + 5) ls (va_rf r :: rest))) : W p l e R s m args below meth c H locs cells slots Q (F0 m pc ls st0) :=
  va_callFq hr hI.2.1 (fun q _ h => z_sub hI isC hnC hC q h) (z_sub hI isC hnC hC) (fun r u t H1 locs1 ht hvm hw hB hz1 hk1 hS1 => kk r u H1 locs1 hw (z_backX hI isC isR hC hR hnC hn hdis hk1 ht hB hS1))
theorem z_iFX {S : Type} {sel : S → zS} {rxf : S → va_W} {post : Int32 → S → Prop} {Xc wr : va_W} (isC isR : List Nat) (hC : isC.map (fun i => X[i]?) = Xc.map some) (hR : isR.map (fun i => X[i]?) = wr.map some) (hnC : va_nd isC = true) (hn : va_nd isR = true) (hdis : ∀ i ∈ isR, i ∉ isC) (hI : zI D tc A s.heap X L κ g H locs) (hr : va_Run5 p l e R s m args below meth c H locs cells slots mc ms (F0 m pc ls st0) rest (va_Qi post (fun (u : S) (t : State) => zB D tc (zA Xc L H.size) (rxf u) (sel u) t) (zA Xc L H.size) a0) (zA Xc L H.size))
    (kk : ∀ (r : Int32) (u : S) (H1 : Heap) (locs1 : List Loc), post r u → zI D tc A s.heap (wr ++ rxf u) (sel u).1 (sel u).2.1 (sel u).2.2 H1 locs1 → W p l e R s m args below meth c H1 locs1 (cells + mc) (slots + ms) Q (F0 m (pc + 5) ls (.int r :: rest))) : W p l e R s m args below meth c H locs cells slots Q (F0 m pc ls st0) :=
  va_callFi hr hI.2.1 (fun q _ h => z_sub hI isC hnC hC q h) (z_sub hI isC hnC hC) (fun r u t H1 locs1 ht hvm hw hB hz1 hk1 hS1 => kk r u H1 locs1 hw (z_backX hI isC isR hC hR hnC hn hdis hk1 ht hB hS1))
/-- .. an int, an object, nothing; with cells of the walk's own -/
theorem z_ciX {post : Int32 → zS → Prop} {Xc wr rx : va_W} (isC isR : List Nat) (hC : isC.map (fun i => X[i]?) = Xc.map some) (hR : isR.map (fun i => X[i]?) = wr.map some) (hnC : va_nd isC = true) (hn : va_nd isR = true) (hdis : ∀ i ∈ isR, i ∉ isC) (hI : zI D tc A s.heap X L κ g H locs) (hr : va_Run p l e R s m args below meth c H locs cells slots mc ms (F0 m pc ls st0) rest (va_Qi post (fun (u : zS) (t : State) => zB D tc (zA Xc L H.size) rx u t) (zA Xc L H.size) a0) (zA Xc L H.size))
    (kk : ∀ (r : Int32) (u : zS) (H1 : Heap) (locs1 : List Loc), post r u → zI D tc A s.heap (wr ++ rx) u.1 u.2.1 u.2.2 H1 locs1 → W p l e R s m args below meth c H1 locs1 (cells + mc) (slots + ms) Q (F0 m (pc + 3) ls (.int r :: rest))) : W p l e R s m args below meth c H locs cells slots Q (F0 m pc ls st0) :=
  va_calli hr hI.2.1 (fun q _ h => z_sub hI isC hnC hC q h) (z_sub hI isC hnC hC) (fun r u t H1 locs1 ht hvm hw hB hz1 hk1 hS1 => kk r u H1 locs1 hw (z_backX hI isC isR hC hR hnC hn hdis hk1 ht hB hS1))
theorem z_cqX {S : Type} {sel : S → zS} {rxf : S → va_W} {post : Option Nat → S → Prop} {Xc wr : va_W} (isC isR : List Nat) (hC : isC.map (fun i => X[i]?) = Xc.map some) (hR : isR.map (fun i => X[i]?) = wr.map some) (hnC : va_nd isC = true) (hn : va_nd isR = true) (hdis : ∀ i ∈ isR, i ∉ isC) (hI : zI D tc A s.heap X L κ g H locs) (hr : va_Run p l e R s m args below meth c H locs cells slots mc ms (F0 m pc ls st0) rest (va_Qq post (fun (u : S) (t : State) => zB D tc (zA Xc L H.size) (rxf u) (sel u) t) (zA Xc L H.size) a0) (zA Xc L H.size))
    (kk : ∀ (r : Option Nat) (u : S) (H1 : Heap) (locs1 : List Loc), post r u → zI D tc A s.heap (wr ++ rxf u) (sel u).1 (sel u).2.1 (sel u).2.2 H1 locs1 → W p l e R s m args below meth c H1 locs1 (cells + mc) (slots + ms) Q (F0 m (pc + 3) ls (va_rf r :: rest))) : W p l e R s m args below meth c H locs cells slots Q (F0 m pc ls st0) :=
  va_callq hr hI.2.1 (fun q _ h => z_sub hI isC hnC hC q h) (z_sub hI isC hnC hC) (fun r u t H1 locs1 ht hvm hw hB hz1 hk1 hS1 => kk r u H1 locs1 hw (z_backX hI isC isR hC hR hnC hn hdis hk1 ht hB hS1))
/-- ints of the walk's own array, and of an array of the pool -/
theorem z_ialdX {hf : Nat → Int32} {j : Int32} (hM : zM p s m c cc args Ts own D tc) (hI : zI D tc A H0 X L κ g H locs) (hX : X[i]? = some (a, .inl (tc 0, n, .inl hf))) (hin : vp_in j n) (hdg : decode cc pc = .ok (.iaload, 1))
    (kk : ∀ x : Int32, W p l e R s m args below meth c H locs cells slots Q (F0 m (pc + 1) ls (.int x :: rest))) : W p l e R s m args below meth c H locs cells slots Q (F0 m pc ls (.int j :: .ref a :: rest)) := by
  obtain ⟨hx, hb, hts, hown, hK⟩ := hM
  obtain ⟨-, -, f, hP, -, -⟩ := hI
  have hlt : i < X.length := (List.getElem?_eq_some_iff.mp hX).1
  exact va_iald hx hb hK hP i 0 (by rw [List.getElem?_append_left hlt]; exact hX) rfl hin hdg (kk _)
theorem z_iastX {hf : Nat → Int32} {j v : Int32} (hM : zM p s m c cc args Ts own D tc) (hI : zI D tc A H0 X L κ g H locs) (hX : X[i]? = some (a, .inl (tc 0, n, .inl hf))) (hin : vp_in j n) (hdg : decode cc pc = .ok (.iastore, 1))
    (kk : ∀ (h1 : Nat → Int32) (H1 : Heap) (locs1 : List Loc), zI D tc A H0 (X.set i (a, .inl (tc 0, n, .inl h1))) L κ g H1 locs1 → W p l e R s m args below meth c H1 locs1 cells slots Q (F0 m (pc + 1) ls rest)) : W p l e R s m args below meth c H locs cells slots Q (F0 m pc ls (.int v :: .int j :: .ref a :: rest)) := by
  obtain ⟨hx, hb, hts, hown, hK⟩ := hM
  obtain ⟨hA, hS, f, hP, hD, hT⟩ := hI
  have hlt : i < X.length := (List.getElem?_eq_some_iff.mp hX).1
  refine va_iast hx hb hK hP hD hS i 0 (by rw [List.getElem?_append_left hlt]; exact hX) rfl hin hdg (fun H1 locs1 hP1 hD1 hS1 => ?_)
  rw [List.set_append_left _ _ hlt] at hP1 hD1
  exact kk _ H1 locs1 ⟨hA, hS1, f, hP1, hD1, hT⟩
theorem z_recvX {C : String} {T : u_T} {N ci : Nat} {fs : List Value} (hK : va_K D vwCl (zTy tc) s) (hI : zI D tc A s.heap X L κ g H locs) (hX : X[i]? = some (a, .inr (ci, fs))) (hc : vwCl[ci]? = some (C, T, N)) : ∃ cell : Cell, H[a]? = some cell ∧ cell.vm.isStatics = false ∧ s.vm.findClass C = some cell.cls := by
  obtain ⟨-, -, f, hP, -, -⟩ := hI
  have hlt : i < X.length := (List.getElem?_eq_some_iff.mp hX).1
  exact va_recv hK hP (q0 := i) hc (by rw [List.getElem?_append_left hlt]; exact hX)
end ZLIST
section ZFN
variable {p : Program} {l : Launch} {e : Env} {R : Room} {s : State} {m : MethodId} {args : Array Value} {below : List Frame} {meth : Method} {c : Code} {H : Heap} {locs : List Loc} {cells slots : Nat} {Q : State → Prop}
variable {cc : ByteArray} {pc : Nat} {ls : Array Slot} {rest : List Value} {D : va_G} {tc : Nat → ClassId} {A : Nat → Prop} {H0 : Heap} {X : va_W} {L : List Nat} {κ : Nat → Nat} {g : Nat → Nat → Value} {Ts : List Cond} {own : String} {f : Nat → va_E}
variable {a k ci j N index : Nat} {ts : List (Nat × Nat)} {t : Nat × Nat} {C ref : String} {T : u_T}
theorem z_getFN {host : String} {A2 : Nat → Prop} {z0 : Nat} (hM : zM p s m c cc args Ts own D tc) (hE : zE z0 A2 s) (hI : zIF D tc A H0 X L κ g f H locs) (hk : κ a = k) (ho : zO k = some (ci, ts)) (ht : ts[j]? = some t)
    (hin : ∀ w ∈ u_ws C T N, w ∈ Ts) (hc : vwCl[ci]? = some (C, T, N)) (hj : j < N) (hlink : (Cond.fieldLinkNest own index ref (T j).2.1 (T j).2.2.1 host) ∈ tables_1) (hsame : ∀ x, s.fieldFound? (T j).1 (T j).2.1 (T j).2.2.1 = some x → s.fieldFound? ref (T j).2.1 (T j).2.2.1 = some x)
    (hdg : decode cc pc = .ok (.getfield index, 3)) (kk : ∀ v, zF f a j = v → zv κ g a j t v → W p l e R s m args below meth c H locs cells slots Q (F0 m (pc + 3) ls (v :: rest))) : W p l e R s m args below meth c H locs cells slots Q (F0 m pc ls (.ref a :: rest)) := by
  obtain ⟨hx, hb, hts, hown, hK⟩ := hM
  obtain ⟨-, -, hP, -, hT⟩ := hI
  have hlt : κ a < 99 := by rw [hk]; exact zO_lt ho
  obtain ⟨haL, hcc⟩ := hT a hlt
  rw [hk] at hcc
  rcases hcc with ⟨ci', ts', fs, h1, h2, h3, h4⟩ | ⟨h0, -⟩
  · cases h1.symm.trans ho
    have hjl : j < fs.length := by rw [h3]; exact (List.getElem?_eq_some_iff.mp ht).1
    obtain ⟨v, hv⟩ : ∃ v, fs[j]? = some v := ⟨fs[j], List.getElem?_eq_getElem hjl⟩
    obtain ⟨q0, hq⟩ := va_pl_get (X := X) (f := f) haL
    rw [h2] at hq
    exact va_getN hx hb hts hin hown hK hP q0 hq hc j hj (va_Nw.use rfl (hE.1 _ hlink rfl)) hsame hv hdg (kk v (by simp [zF, h2, hv]) (h4 j t v ht hv))
  · rw [ho] at h0
    cases h0
theorem z_putFN {host : String} {A2 : Nat → Prop} {z0 : Nat} {v : Value} (hM : zM p s m c cc args Ts own D tc) (hE : zE z0 A2 s) (hI : zIF D tc A H0 X L κ g f H locs) (hk : κ a = k) (ho : zO k = some (ci, ts)) (ht : ts[j]? = some t)
    (hin : ∀ w ∈ u_ws C T N, w ∈ Ts) (ty0 : Nat → FieldType) (hty : ∀ k, k < N → parseFieldDescriptor (T k).2.2.1 = some (ty0 k)) (hnm : ∀ a, a < N → ∀ b, b < N → a ≠ b → (T a).2.1 ≠ (T b).2.1) (hc : vwCl[ci]? = some (C, T, N)) (hj : j < N)
    (hlink : (Cond.fieldLinkNest own index ref (T j).2.1 (T j).2.2.1 host) ∈ tables_1) (hsame : ∀ x, s.fieldFound? (T j).1 (T j).2.1 (T j).2.2.1 = some x → s.fieldFound? ref (T j).2.1 (T j).2.2.1 = some x) (hfin : (T j).2.2.2 = false)
    {ty : FieldType} (hd : parseFieldDescriptor (T j).2.2.1 = some ty) (hn : narrow ty v = v) (hfit : fits ty v = true) (hv : zv κ g a j t v)
    (hdg : decode cc pc = .ok (.putfield index, 3)) (kk : ∀ (f1 : Nat → va_E) (H1 : Heap) (locs1 : List Loc), zIF D tc A H0 X L κ g f1 H1 locs1 → zF f1 a j = v → W p l e R s m args below meth c H1 locs1 cells slots Q (F0 m (pc + 3) ls rest)) : W p l e R s m args below meth c H locs cells slots Q (F0 m pc ls (v :: .ref a :: rest)) := by
  obtain ⟨hx, hb, hts, hown, hK⟩ := hM
  obtain ⟨hA, hS, hP, hD, hT⟩ := hI
  have hlt : κ a < 99 := by rw [hk]; exact zO_lt ho
  obtain ⟨haL, hcc⟩ := hT a hlt
  rw [hk] at hcc
  rcases hcc with ⟨ci', ts', fs, h1, h2, h3, h4⟩ | ⟨h0, -⟩
  · cases h1.symm.trans ho
    have hjl : j < fs.length := by rw [h3]; exact (List.getElem?_eq_some_iff.mp ht).1
    obtain ⟨q0, hq⟩ := va_pl_get (X := X) (f := f) haL
    have hq' := hq
    rw [h2] at hq
    refine va_putN hx hb hts hin ty0 hty hnm hown hK hP hD hS q0 hq hc j hj (va_Nw.use rfl (hE.1 _ hlink rfl)) hsame hfin hd hn hfit hjl hdg (fun H1 locs1 hP1 hD1 hS1 => ?_)
    rw [va_pl_set hD haL hq'] at hP1 hD1
    refine kk _ H1 locs1 ⟨hA, hS1, hP1, hD1, fun b hb9 => ?_⟩ (by simp [zF, va_up, hjl])
    obtain ⟨hbL, hcb⟩ := hT b hb9
    refine ⟨hbL, ?_⟩
    by_cases hba : b = a
    · subst hba
      rw [va_up_self, hk]
      refine Or.inl ⟨ci, ts, fs.set j v, ho, rfl, by rw [List.length_set]; exact h3, fun i t' v' e1 e2 => ?_⟩
      by_cases hij : i = j
      · subst hij
        rw [List.getElem?_set_self hjl] at e2
        cases e2
        cases ht.symm.trans e1
        exact hv
      · rw [List.getElem?_set_ne (Ne.symm hij)] at e2
        exact h4 i t' v' e1 e2
    · rw [va_up_ne _ _ hba]
      exact hcb
  · rw [ho] at h0
    cases h0
end ZFN
theorem z_isC {r x : Int32} {n : Nat} (hn : n ≤ 9) (h : r = 0 ↔ ¬ (0 ≤ x ∧ x ≤ nI n - 1)) (hz : r = 0 ∨ r = 1) : (r = 1 ∧ ∃ i, i < n ∧ x = nI i) ∨ (r = 0 ∧ ∀ i, i < n → x ≠ nI i) := by
  rcases hz with h0 | h1
  · refine Or.inr ⟨h0, fun i hi hx => ?_⟩
    refine h.mp h0 ⟨by rw [hx]; exact nI_pos' (by omega), ?_⟩
    obtain ⟨k, rfl⟩ : ∃ k, n = k + 1 := ⟨n - 1, by omega⟩
    rw [hx, nI_pred]
    exact nI_le (by omega) (by omega)
  · refine Or.inl ⟨h1, ?_⟩
    have hb : 0 ≤ x ∧ x ≤ nI n - 1 := Classical.not_not.mp (fun q => absurd (h1.symm.trans (h.mpr q)) (by decide))
    rcases n with _ | k
    · exact absurd (Int32.le_trans hb.1 hb.2) (by decide)
    · rw [nI_pred] at hb
      obtain ⟨j, hj, rfl⟩ := nI_of (x := x) (Int32.not_lt.mpr hb.1)
      exact ⟨j, Nat.lt_succ_of_le ((nI_leI (by omega) (by omega)).mp hb.2), rfl⟩
theorem z_in02 {r x : Int32} (h : r = 0 ↔ ¬ (0 ≤ x ∧ x ≤ 2)) (hc : ¬ r = 0) : vp_in x 3 := by
  have hb : 0 ≤ x ∧ x ≤ 2 := Classical.not_not.mp (fun q => hc (h.mpr q))
  obtain ⟨j, hj, rfl⟩ := nI_of (x := x) (Int32.not_lt.mpr hb.1)
  exact vp_in_nI (Nat.lt_succ_of_le ((nI_leI (b := 2) (by omega) (by omega)).mp hb.2)) (by omega)
section ZLA
variable {p : Program} {l : Launch} {e : Env} {R : Room} {s : State} {m : MethodId} {args : Array Value} {below : List Frame} {meth : Method} {c : Code} {H : Heap} {locs : List Loc} {cells slots : Nat} {Q : State → Prop}
variable {pc : Nat} {ls : Array Slot} {rest : List Value} {D : va_G} {tc : Nat → ClassId} {A : Nat → Prop} {H0 : Heap} {X : va_W} {L : List Nat} {κ : Nat → Nat} {g : Nat → Nat → Value} {cc : ByteArray} {Ts : List Cond} {own : String} {a n i : Nat}
theorem z_laldX {hf : Nat → Int64} {j : Int32} (hM : zM p s m c cc args Ts own D tc) (hI : zI D tc A H0 X L κ g H locs) (hX : X[i]? = some (a, .inl (tc 1, n, .inr (.inl hf)))) (hin : vp_in j n) (hdg : decode cc pc = .ok (.laload, 1))
    (kk : ∀ x : Int64, W p l e R s m args below meth c H locs cells slots Q (F0 m (pc + 1) ls (.long x :: rest))) : W p l e R s m args below meth c H locs cells slots Q (F0 m pc ls (.int j :: .ref a :: rest)) := by
  obtain ⟨hx, hb, hts, hown, hK⟩ := hM
  obtain ⟨-, -, f, hP, -, -⟩ := hI
  have hlt : i < X.length := (List.getElem?_eq_some_iff.mp hX).1
  exact va_lald hx hb hK hP i 1 (by rw [List.getElem?_append_left hlt]; exact hX) rfl hin hdg (kk _)
theorem z_lastX {hf : Nat → Int64} {j : Int32} {v : Int64} (hM : zM p s m c cc args Ts own D tc) (hI : zI D tc A H0 X L κ g H locs) (hX : X[i]? = some (a, .inl (tc 1, n, .inr (.inl hf)))) (hin : vp_in j n) (hdg : decode cc pc = .ok (.lastore, 1))
    (kk : ∀ (h1 : Nat → Int64) (H1 : Heap) (locs1 : List Loc), zI D tc A H0 (X.set i (a, .inl (tc 1, n, .inr (.inl h1)))) L κ g H1 locs1 → W p l e R s m args below meth c H1 locs1 cells slots Q (F0 m (pc + 1) ls rest)) : W p l e R s m args below meth c H locs cells slots Q (F0 m pc ls (.long v :: .int j :: .ref a :: rest)) := by
  obtain ⟨hx, hb, hts, hown, hK⟩ := hM
  obtain ⟨hA, hS, f, hP, hD, hT⟩ := hI
  have hlt : i < X.length := (List.getElem?_eq_some_iff.mp hX).1
  refine va_last hx hb hK hP hD hS i 1 (by rw [List.getElem?_append_left hlt]; exact hX) rfl hin hdg (fun H1 locs1 hP1 hD1 hS1 => ?_)
  rw [List.set_append_left _ _ hlt] at hP1 hD1
  exact kk _ H1 locs1 ⟨hA, hS1, f, hP1, hD1, hT⟩
end ZLA
/-- what ticks do to the reference -/
theorem zTkM_A {p : Nat} {g : Nat → Nat → Value} {t h w : Int32} (hc : ¬ w ≤ 0) : zTk p p 4 14 16 g (zup (zup (zup g p 4 (.int (t + 1))) p 14 (.int w)) p 16 (.int 0)) (t + 1) (if w ≤ 0 then h else w) (if w ≤ 0 then w else 0) := by
  simp only [if_neg hc]
  refine ⟨(zup_j (by decide)).trans ((zup_j (by decide)).trans (zup_self _ _ _ _)), (zup_j (by decide)).trans (zup_self _ _ _ _), zup_self _ _ _ _, fun a j ha hb => ?_⟩
  rw [zup_ne, zup_ne, zup_ne]
  all_goals by_cases e : a = p
  all_goals first | exact Or.inl e | exact Or.inr (fun e2 => ha ⟨e, e2⟩) | exact Or.inr (fun e2 => hb ⟨e, Or.inl e2⟩) | exact Or.inr (fun e2 => hb ⟨e, Or.inr e2⟩)
theorem zTkM_B {p : Nat} {g : Nat → Nat → Value} {t h w : Int32} (hc : w ≤ 0) (hh : g p 14 = .int h) (hw : g p 16 = .int w) : zTk p p 4 14 16 g (zup g p 4 (.int (t + 1))) (t + 1) (if w ≤ 0 then h else w) (if w ≤ 0 then w else 0) := by
  simp only [if_pos hc]
  refine ⟨zup_self _ _ _ _, (zup_j (by decide)).trans hh, (zup_j (by decide)).trans hw, fun a j ha hb => zup_ne ?_⟩
  by_cases e : a = p
  · exact Or.inr (fun e2 => ha ⟨e, e2⟩)
  · exact Or.inl e
theorem zTkM_step {p : Nat} {g g1 g2 : Nat → Nat → Value} {t h w : Int32} {i : Nat} (hk : zTk p p 4 14 16 g g1 (t + nI i) (if i = 0 ∨ w ≤ 0 then h else w) (if i = 0 ∨ w ≤ 0 then w else 0))
    (hs : zTk p p 4 14 16 g1 g2 ((t + nI i) + 1) (if (if i = 0 ∨ w ≤ 0 then w else 0) ≤ 0 then (if i = 0 ∨ w ≤ 0 then h else w) else (if i = 0 ∨ w ≤ 0 then w else 0)) (if (if i = 0 ∨ w ≤ 0 then w else 0) ≤ 0 then (if i = 0 ∨ w ≤ 0 then w else 0) else 0)) :
    zTk p p 4 14 16 g g2 (t + nI (i + 1)) (if i + 1 = 0 ∨ w ≤ 0 then h else w) (if i + 1 = 0 ∨ w ≤ 0 then w else 0) := by
  obtain ⟨a1, a2, a3, a4⟩ := hk
  obtain ⟨b1, b2, b3, b4⟩ := hs
  refine ⟨by rw [b1, nI_succ, Int32.add_assoc], ?_, ?_, fun a j ha hb => (b4 a j ha hb).trans (a4 a j ha hb)⟩
  · rw [b2]
    by_cases hw : w ≤ 0
    · simp [hw]
    · by_cases hi : i = 0
      · simp [hw, hi]
      · have h0 : (0 : Int32) ≤ 0 := by decide
        simp [hw, hi, h0]
  · rw [b3]
    by_cases hw : w ≤ 0
    · simp [hw]
    · by_cases hi : i = 0
      · simp [hw, hi]
      · have h0 : (0 : Int32) ≤ 0 := by decide
        simp [hw, hi, h0]
theorem zLi.tk {κ : Nat → Nat} {g g2 : Nat → Nat → Value} {z0 l K e KA KE n p : Nat} {mo t h w : Int32} {f : Nat → Nat} (hL : zLi κ g z0 l K e KA KE n mo f) (hp : κ p = 13) (hK : K ≠ 13) (hKA : KA ≠ 13) (hk : zTk p p 4 14 16 g g2 t h w) : zLi κ g2 z0 l K e KA KE n mo f := by
  obtain ⟨a1, a2, a3, a4, a5, a6, a7, a8⟩ := hL
  have hl : l ≠ p := fun q => hK (by rw [← a1, q]; exact hp)
  have fr : ∀ a j, a ≠ p → g2 a j = g a j := fun a j ha => hk.2.2.2 a j (fun q => ha q.1) (fun q => ha q.1)
  exact ⟨a1, (fr _ _ hl).trans a2, (fr _ _ hl).trans a3, (fr _ _ hl).trans a4, a5, a6, a7, fun i hi => ⟨(fr _ _ (fun q => hKA (by rw [← a6 (by omega), q]; exact hp))).trans (a8 i hi).1, (a8 i hi).2⟩⟩
theorem zMo.tk {κ : Nat → Nat} {g g2 : Nat → Nat → Value} {z0 p lc eC nC : Nat} {mC : Int32} {cf : Nat → Nat} {lt eT nT : Nat} {mT t h w : Int32} {tf : Nat → Nat} (hM : zMo κ g z0 p lc eC nC mC cf lt eT nT mT tf) (hk : zTk p p 4 14 16 g g2 t h w) : zMo κ g2 z0 p lc eC nC mC cf lt eT nT mT tf :=
  ⟨hM.k, (hk.2.2.2 p 0 (fun q => absurd q.2 (by decide)) (fun q => absurd q.2 (by decide))).trans hM.gc, (hk.2.2.2 p 1 (fun q => absurd q.2 (by decide)) (fun q => absurd q.2 (by decide))).trans hM.gt, hM.LC.tk hM.k (by decide) (by decide) hk, hM.LT.tk hM.k (by decide) (by decide) hk, hM.bC, hM.bT⟩
theorem zTkM_end {p n i : Nat} {g g1 : Nat → Nat → Value} {t h w r : Int32} {L : List Nat} {κ : Nat → Nat} (h1 : 1 ≤ n) (hi : i ≤ n) (hge : n ≤ i) (hk : zTk p p 4 14 16 g g1 (t + nI i) (if i = 0 ∨ w ≤ 0 then h else w) (if i = 0 ∨ w ≤ 0 then w else 0)) (hr : Value.int r = g1 p 4) :
    r = t + nI n ∧ ∃ g2 : Nat → Nat → Value, (L, κ, g1) = (L, κ, g2) ∧ zTk p p 4 14 16 g g2 (t + nI n) (if w ≤ 0 then h else w) (if w ≤ 0 then w else 0) := by
  obtain rfl : i = n := by omega
  have h0 : i ≠ 0 := by omega
  refine ⟨Value.int.inj (hr.trans hk.1), g1, rfl, ?_⟩
  simpa [h0] using hk
theorem z_ixin {r : Int32} (h : r < 0 ∨ ∃ j : Nat, j < 6 ∧ r = nI j) (hc : 0 ≤ r) : vp_in r 6 := by
  rcases h with h | ⟨j, hj, rfl⟩
  · exact absurd h (Int32.not_lt.mpr hc)
  · exact vp_in_nI hj (by omega)
section ZAO
variable {p : Program} {l : Launch} {e : Env} {R : Room} {s : State} {m : MethodId} {args : Array Value} {below : List Frame} {meth : Method} {c : Code} {H : Heap} {locs : List Loc} {cells slots mc ms : Nat} {Q : State → Prop}
variable {cc : ByteArray} {a0 : Array Value} {pc : Nat} {ls : Array Slot} {rest st0 : List Value} {D : va_G} {tc : Nat → ClassId} {A : Nat → Prop} {H0 : Heap} {X : va_W} {L : List Nat} {κ : Nat → Nat} {g : Nat → Nat → Value} {Ts : List Cond} {own : String} {z0 : Nat}
variable {a k ci ti n index q : Nat} {fs : List Value} {t : Nat × Nat}
theorem z_aastO {C E : String} {T : u_T} {N k2 : Nat} {ts : List (Nat × Nat)} {v : Nat} {j : Int32} {g' : Nat → Nat → Value} (hM : zM p s m c cc args Ts own D tc) (hI : zI D tc A H0 X L κ g H locs) (hk : κ a = k) (hO : zO k = none) (hR : zR k = some (ti, n, 4, t)) (hti : (zTy tc)[ti]? = some (tc ti, .object E)) (hk2 : κ v = k2) (ho : zO k2 = some (ci, ts)) (hc : vwCl[ci]? = some (C, T, N)) (hca : va_Nw (.castable C E) s)
    (hin : vp_in j n) (hw : zv κ g' a j.toNatClampNeg t (.ref v)) (hg : ∀ b i, (b ≠ a ∨ i ≠ j.toNatClampNeg) → g' b i = g b i) (hdg : decode cc pc = .ok (.aastore, 1))
    (kk : ∀ (H1 : Heap) (locs1 : List Loc), zI D tc A H0 X L κ g' H1 locs1 → W p l e R s m args below meth c H1 locs1 cells slots Q (F0 m (pc + 1) ls rest)) : W p l e R s m args below meth c H locs cells slots Q (F0 m pc ls (.ref v :: .int j :: .ref a :: rest)) := by
  obtain ⟨hx, hb, hts, hown, hK⟩ := hM
  have hr := z_recv hK hI hk2 ho hc
  obtain ⟨f, hv, q0, hP, hD, hT, haL, hq, ⟨h, e1, e2⟩, h3⟩ := z_arr hI hk hO hR
  have hq' := hq
  rw [e1] at hq
  refine vb_astq hx hb hK hP hD hI.2.1 q0 ti hq hti hr (vb_asgC hca) hin hdg (fun H1 locs1 hP1 hD1 hS1 => kk H1 locs1 (z_up hI hk hO hR hD hT haL hq' h3 (i := j.toNatClampNeg) (w := .ref v) ⟨_, rfl, fun i hi => ?_⟩ hw hg hP1 hD1 hS1))
  by_cases hij : i = j.toNatClampNeg
  · simp [va_up, hij, va_rf]
  · simp [va_up, hij, e2 i hi]
end ZAO
