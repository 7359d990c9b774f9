/-! THE POOL: all objects of class and reference, typed by kinds; what a method does not speak of is hidden. -/
/-- what a value of type t, in slot j of the cell at a, may be; 10 and on: it is the one that g tracks -/
def zv (κ : Nat → Nat) (g : Nat → Nat → Value) (a j : Nat) (t : Nat × Nat) (v : Value) : Prop :=
  match t.1 with
  | 0 => ∃ i, v = .int i
  | 1 => ∃ r, v = .ref r ∧ κ r = t.2
  | 2 => v = .null ∨ ∃ r, v = .ref r ∧ κ r = t.2
  | 3 => ∃ i, v = .long i
  | 4 => ∃ n : Nat, n < t.2 ∧ v = .int (nI n)
  | 6 => v = .int 0 ∨ v = .int 1
  | 7 => ∃ i : Int32, v = .int i ∧ fits .char (.int i) = true
  | 8 => ∃ x, v = .double x
  | 10 => v = g a j ∧ ∃ i, v = .int i
  | 11 => v = g a j ∧ ∃ r, v = .ref r ∧ κ r = t.2
  | 12 => v = g a j ∧ (v = .null ∨ ∃ r, v = .ref r ∧ κ r = t.2)
  | 13 => v = g a j ∧ ∃ i, v = .long i
  | 16 => v = g a j ∧ (v = .int 0 ∨ v = .int 1)
  | 17 => v = g a j ∧ ∃ i : Int32, v = .int i ∧ fits .char (.int i) = true
  | 18 => v = g a j ∧ ∃ r, v = .ref r
  | _ => False
theorem zv_g {κ : Nat → Nat} {g g' : Nat → Nat → Value} {a j : Nat} {t : Nat × Nat} {v : Value} (h : zv κ g a j t v) (hg : g' a j = g a j) : zv κ g' a j t v := by
  unfold zv at h ⊢
  rw [hg]
  exact h
/-- the objects' kinds: the class's place in vwCl, its fields' types -/
def zO (k : Nat) : Option (Nat × List (Nat × Nat)) := match k with
  | 1 => some (1, [(10, 0), (18, 0), (10, 0)])
  | 2 => some (2, [(1, 21), (4, 17)])
  | 3 => some (3, [(0, 0), (1, 2), (1, 2)])
  | 4 => some (4, [(1, 3), (1, 2), (3, 0), (0, 0), (16, 0)])
  | 5 => some (5, [(0, 0), (1, 6), (6, 0), (17, 0), (0, 0), (0, 0), (0, 0), (0, 0), (7, 0), (7, 0), (0, 0), (0, 0), (6, 0), (6, 0), (6, 0), (1, 3), (0, 0), (16, 0), (6, 0), (0, 0)])
  | 6 => some (6, [(0, 0), (0, 0)])
  | 7 => some (7, [(10, 0), (10, 0), (10, 0), (0, 0), (10, 0), (0, 0), (17, 0)])
  | 8 => some (8, [(10, 0), (0, 0), (0, 0), (3, 0), (3, 0), (6, 0), (3, 0), (3, 0), (3, 0), (3, 0)])
  | 9 => some (9, [(0, 0), (10, 0), (0, 0), (0, 0)])
  | 10 => some (10, [(11, 22), (11, 23), (11, 24), (11, 4), (11, 8), (11, 7), (1, 2), (1, 2), (10, 0), (3, 0)])
  | 11 => some (11, [(4, 3), (0, 0), (6, 0), (17, 0), (7, 0), (7, 0), (0, 0), (0, 0), (0, 0), (0, 0), (0, 0), (0, 0), (0, 0), (0, 0), (0, 0), (16, 0), (6, 0), (6, 0), (6, 0)])
  | 12 => some (12, [(0, 0), (10, 0), (0, 0), (0, 0)])
  | 13 => some (13, [(11, 1), (11, 14), (11, 27), (11, 28), (10, 0), (0, 0), (0, 0), (10, 0), (0, 0), (0, 0), (0, 0), (0, 0), (10, 0), (10, 0), (10, 0), (0, 0), (10, 0), (0, 0), (10, 0), (3, 0), (3, 0), (3, 0), (3, 0), (3, 0), (3, 0), (16, 0), (17, 0)])
  | 14 => some (1, [(10, 0), (18, 0), (10, 0)])
  | _ => none
/-- the arrays' kinds: the place of their class among the tc, their length, ints 0, longs 1, doubles 3, references 4, their cells' type -/
def zR (k : Nat) : Option (Nat × Nat × Nat × (Nat × Nat)) := match k with
  | 21 => some (1, 16, 1, (3, 0))
  | 22 => some (4, 3, 4, (1, 6))
  | 23 => some (3, 6, 4, (12, 5))
  | 24 => some (5, 8, 4, (12, 9))
  | 25 => some (6, 10, 4, (12, 11))
  | 26 => some (6, 10, 4, (12, 12))
  | 27 => some (0, 3, 0, (0, 0))
  | 28 => some (0, 6, 0, (0, 0))
  | 29 => some (1, 1, 1, (13, 0))
  | 30 => some (2, 1, 3, (8, 0))
  | _ => none
theorem zO_lt {k : Nat} {q : Nat × List (Nat × Nat)} (h : zO k = some q) : k < 99 := by
  by_cases hk : k < 99
  · exact hk
  · obtain ⟨j, rfl⟩ : ∃ j, k = j + 99 := ⟨k - 99, by omega⟩
    simp [zO] at h
theorem zR_lt {k : Nat} {q : Nat × Nat × Nat × (Nat × Nat)} (h : zR k = some q) : k < 99 := by
  by_cases hk : k < 99
  · exact hk
  · obtain ⟨j, rfl⟩ : ∃ j, k = j + 99 := ⟨k - 99, by omega⟩
    simp [zR] at h
/-- the cells of an array of this kind -/
def zh (tc : Nat → ClassId) (ti n z : Nat) (hv : Nat → Value) (e : va_E) : Prop := match z with
  | 0 => ∃ h : Nat → Int32, e = .inl (tc ti, n, .inl h) ∧ ∀ j, j < n → hv j = .int (h j)
  | 1 => ∃ h : Nat → Int64, e = .inl (tc ti, n, .inr (.inl h)) ∧ ∀ j, j < n → hv j = .long (h j)
  | 3 => ∃ h : Nat → UInt64, e = .inl (tc ti, n, .inr (.inr (.inr (.inl h)))) ∧ ∀ j, j < n → hv j = .double (h j)
  | 4 => ∃ h : Nat → Option Nat, e = .inl (tc ti, n, .inr (.inr (.inr (.inr h)))) ∧ ∀ j, j < n → hv j = va_rf (h j)
  | _ => False
/-- a cell of kind k -/
def zc (tc : Nat → ClassId) (κ : Nat → Nat) (g : Nat → Nat → Value) (a k : Nat) (e : va_E) : Prop :=
  (∃ ci ts fs, zO k = some (ci, ts) ∧ e = .inr (ci, fs) ∧ fs.length = ts.length ∧ ∀ j t v, ts[j]? = some t → fs[j]? = some v → zv κ g a j t v) ∨
  (zO k = none ∧ ∃ ti n z t hv, zR k = some (ti, n, z, t) ∧ zh tc ti n z hv e ∧ ∀ j, j < n → zv κ g a j t (hv j))
theorem zc_g {tc : Nat → ClassId} {κ : Nat → Nat} {g g' : Nat → Nat → Value} {a k : Nat} {e : va_E} (h : zc tc κ g a k e) (hg : ∀ j, g' a j = g a j) : zc tc κ g' a k e := by
  rcases h with ⟨ci, ts, fs, h1, h2, h3, h4⟩ | ⟨h0, ti, n, z, t, hv, h1, h2, h3⟩
  · exact Or.inl ⟨ci, ts, fs, h1, h2, h3, fun j t v a1 a2 => zv_g (h4 j t v a1 a2) (hg j)⟩
  · exact Or.inr ⟨h0, ti, n, z, t, hv, h1, h2, fun j hj => zv_g (h3 j hj) (hg j)⟩
def zT (tc : Nat → ClassId) (L : List Nat) (κ : Nat → Nat) (g : Nat → Nat → Value) (f : Nat → va_E) : Prop := ∀ a, κ a < 99 → a ∈ L ∧ zc tc κ g a (κ a) (f a)
abbrev zTy (tc : Nat → ClassId) : List (ClassId × FieldType) := [(tc 0, .int), (tc 1, .long), (tc 2, .double), (tc 3, .object "Wattgovern$Core"), (tc 4, .object "Wattgovern$Rail"), (tc 5, .object "Wattgovern$Task"), (tc 6, .object "java/lang/Object")]
/-- the world at a point of a walk: explicit cells X, the pool -/
def zI (D : va_G) (tc : Nat → ClassId) (A : Nat → Prop) (H0 : Heap) (X : va_W) (L : List Nat) (κ : Nat → Nat) (g : Nat → Nat → Value) (H : Heap) (locs : List Loc) : Prop :=
  (∀ q, H0.size ≤ q → A q) ∧ va_S A H0 H locs ∧ ∃ f, va_P D vwCl (X ++ va_pl L f) H ∧ va_D A (X ++ va_pl L f) ∧ zT tc L κ g f
/-- what a method's walk takes with it -/
def zM (p : Program) (s : State) (m : MethodId) (c : Code) (cc : ByteArray) (args : Array Value) (Ts : List Cond) (own : String) (D : va_G) (tc : Nat → ClassId) : Prop :=
  p.tables.exec = Jvm.exec ∧ c.code = cc ∧ (∀ w ∈ Ts, w.before args s = true) ∧ s.vm.findClass own = some m.cls ∧ va_K D vwCl (zTy tc) s
/-- g with one value changed -/
def zup (g : Nat → Nat → Value) (a j : Nat) (v : Value) : Nat → Nat → Value := fun b i => if b = a ∧ i = j then v else g b i
theorem zup_self (g : Nat → Nat → Value) (a j : Nat) (v : Value) : zup g a j v a j = v := by simp [zup]
theorem zup_a {g : Nat → Nat → Value} {a j b i : Nat} {v : Value} (h : b ≠ a) : zup g a j v b i = g b i := by simp [zup, h]
theorem zup_j {g : Nat → Nat → Value} {a j b i : Nat} {v : Value} (h : i ≠ j) : zup g a j v b i = g b i := by simp [zup, h]
section ZROWS
variable {p : Program} {l : Launch} {e : Env} {R : Room} {s : State} {m : MethodId} {args : Array Value} {below : List Frame} {meth : Method} {c : Code} {H : Heap} {locs : List Loc} {cells slots : Nat} {Q : State → Prop}
variable {cc : ByteArray} {pc : Nat} {ls : Array Slot} {rest : List Value} {D : va_G} {tc : Nat → ClassId} {A : Nat → Prop} {H0 : Heap} {X : va_W} {L : List Nat} {κ : Nat → Nat} {g : Nat → Nat → Value} {Ts : List Cond} {own : String}
variable {a k ci j N index : Nat} {ts : List (Nat × Nat)} {t : Nat × Nat} {C ref : String} {T : u_T}
theorem z_get (hM : zM p s m c cc args Ts own D tc) (hI : zI D tc A H0 X L κ g H locs) (hk : κ a = k) (ho : zO k = some (ci, ts)) (ht : ts[j]? = some t)
    (hin : ∀ w ∈ u_ws C T N, w ∈ Ts) (hc : vwCl[ci]? = some (C, T, N)) (hj : j < N) (hlink : (Cond.fieldLink own index ref (T j).2.1 (T j).2.2.1) ∈ Ts) (hsame : ∀ x, s.fieldFound? (T j).1 (T j).2.1 (T j).2.2.1 = some x → s.fieldFound? ref (T j).2.1 (T j).2.2.1 = some x)
    (hdg : decode cc pc = .ok (.getfield index, 3)) (kk : ∀ v, zv κ g a j t v → W p l e R s m args below meth c H locs cells slots Q (F0 m (pc + 3) ls (v :: rest))) : W p l e R s m args below meth c H locs cells slots Q (F0 m pc ls (.ref a :: rest)) := by
  obtain ⟨hx, hb, hts, hown, hK⟩ := hM
  obtain ⟨-, -, f, hP, -, hT⟩ := hI
  have hlt : κ a < 99 := by rw [hk]; exact zO_lt ho
  obtain ⟨haL, hcc⟩ := hT a hlt
  rw [hk] at hcc
  rcases hcc with ⟨ci', ts', fs, h1, h2, h3, h4⟩ | ⟨h0, -⟩
  · cases h1.symm.trans ho
    have hjl : j < fs.length := by rw [h3]; exact (List.getElem?_eq_some_iff.mp ht).1
    obtain ⟨v, hv⟩ : ∃ v, fs[j]? = some v := ⟨fs[j], List.getElem?_eq_getElem hjl⟩
    obtain ⟨q0, hq⟩ := va_pl_get (X := X) (f := f) haL
    rw [h2] at hq
    exact va_get hx hb hts hin hown hK hP q0 hq hc j hj (hts _ hlink) hsame hv hdg (kk v (h4 j t v ht hv))
  · rw [ho] at h0
    cases h0
theorem z_put {g' : Nat → Nat → Value} {v : Value} (hM : zM p s m c cc args Ts own D tc) (hI : zI D tc A H0 X L κ g H locs) (hk : κ a = k) (ho : zO k = some (ci, ts)) (ht : ts[j]? = some t)
    (hin : ∀ w ∈ u_ws C T N, w ∈ Ts) (ty0 : Nat → FieldType) (hty : ∀ k, k < N → parseFieldDescriptor (T k).2.2.1 = some (ty0 k)) (hnm : ∀ a, a < N → ∀ b, b < N → a ≠ b → (T a).2.1 ≠ (T b).2.1) (hc : vwCl[ci]? = some (C, T, N)) (hj : j < N)
    (hlink : (Cond.fieldLink own index ref (T j).2.1 (T j).2.2.1) ∈ Ts) (hsame : ∀ x, s.fieldFound? (T j).1 (T j).2.1 (T j).2.2.1 = some x → s.fieldFound? ref (T j).2.1 (T j).2.2.1 = some x) (hfin : (T j).2.2.2 = false)
    {ty : FieldType} (hd : parseFieldDescriptor (T j).2.2.1 = some ty) (hn : narrow ty v = v) (hfit : fits ty v = true) (hv : zv κ g' a j t v) (hg : ∀ b i, (b ≠ a ∨ i ≠ j) → g' b i = g b i)
    (hdg : decode cc pc = .ok (.putfield index, 3)) (kk : ∀ (H1 : Heap) (locs1 : List Loc), zI D tc A H0 X L κ g' H1 locs1 → W p l e R s m args below meth c H1 locs1 cells slots Q (F0 m (pc + 3) ls rest)) : W p l e R s m args below meth c H locs cells slots Q (F0 m pc ls (v :: .ref a :: rest)) := by
  obtain ⟨hx, hb, hts, hown, hK⟩ := hM
  obtain ⟨hA, hS, f, hP, hD, hT⟩ := hI
  have hlt : κ a < 99 := by rw [hk]; exact zO_lt ho
  obtain ⟨haL, hcc⟩ := hT a hlt
  rw [hk] at hcc
  rcases hcc with ⟨ci', ts', fs, h1, h2, h3, h4⟩ | ⟨h0, -⟩
  · cases h1.symm.trans ho
    have hjl : j < fs.length := by rw [h3]; exact (List.getElem?_eq_some_iff.mp ht).1
    obtain ⟨q0, hq⟩ := va_pl_get (X := X) (f := f) haL
    have hq' := hq
    rw [h2] at hq
    refine va_put hx hb hts hin ty0 hty hnm hown hK hP hD hS q0 hq hc j hj (hts _ hlink) hsame hfin hd hn hfit hjl hdg (fun H1 locs1 hP1 hD1 hS1 => ?_)
    rw [va_pl_set hD haL hq'] at hP1 hD1
    refine kk H1 locs1 ⟨hA, hS1, _, hP1, hD1, fun b hb9 => ?_⟩
    obtain ⟨hbL, hcb⟩ := hT b hb9
    refine ⟨hbL, ?_⟩
    by_cases hba : b = a
    · subst hba
      rw [va_up_self, hk]
      refine Or.inl ⟨ci, ts, fs.set j v, ho, rfl, by rw [List.length_set]; exact h3, fun i t' v' e1 e2 => ?_⟩
      by_cases hij : i = j
      · subst hij
        rw [List.getElem?_set_self hjl] at e2
        cases e2
        cases ht.symm.trans e1
        exact hv
      · rw [List.getElem?_set_ne (Ne.symm hij)] at e2
        exact zv_g (h4 i t' v' e1 e2) (hg b i (Or.inr hij))
    · rw [va_up_ne _ _ hba]
      exact zc_g hcb (fun i => hg b i (Or.inl hba))
  · rw [ho] at h0
    cases h0
end ZROWS
section ZARR
variable {p : Program} {l : Launch} {e : Env} {R : Room} {s : State} {m : MethodId} {args : Array Value} {below : List Frame} {meth : Method} {c : Code} {H : Heap} {locs : List Loc} {cells slots : Nat} {Q : State → Prop}
variable {cc : ByteArray} {pc : Nat} {ls : Array Slot} {rest : List Value} {D : va_G} {tc : Nat → ClassId} {A : Nat → Prop} {H0 : Heap} {X : va_W} {L : List Nat} {κ : Nat → Nat} {g g' : Nat → Nat → Value} {Ts : List Cond} {own : String}
variable {a k ti n : Nat} {t : Nat × Nat} {i : Int32}
/-- an array of the pool, opened -/
theorem z_arr {z : Nat} (hI : zI D tc A H0 X L κ g H locs) (hk : κ a = k) (hO : zO k = none) (hR : zR k = some (ti, n, z, t)) :
    ∃ (f : Nat → va_E) (hv : Nat → Value) (q0 : Nat), va_P D vwCl (X ++ va_pl L f) H ∧ va_D A (X ++ va_pl L f) ∧ zT tc L κ g f ∧ a ∈ L ∧ (X ++ va_pl L f)[q0]? = some (a, f a) ∧ zh tc ti n z hv (f a) ∧ ∀ j, j < n → zv κ g a j t (hv j) := by
  obtain ⟨-, -, f, hP, hD, hT⟩ := hI
  have hlt : κ a < 99 := by rw [hk]; exact zR_lt hR
  obtain ⟨haL, hcc⟩ := hT a hlt
  rw [hk] at hcc
  rcases hcc with ⟨ci', ts', fs, h1, -⟩ | ⟨-, ti', n', z', t', hv, h1, h2, h3⟩
  · rw [hO] at h1
    cases h1
  · cases h1.symm.trans hR
    obtain ⟨q0, hq⟩ := va_pl_get (X := X) (f := f) haL
    exact ⟨f, hv, q0, hP, hD, hT, haL, hq, h2, h3⟩
theorem z_lald (hM : zM p s m c cc args Ts own D tc) (hI : zI D tc A H0 X L κ g H locs) (hk : κ a = k) (hO : zO k = none) (hR : zR k = some (1, n, 1, t)) (hin : vp_in i n) (hdg : decode cc pc = .ok (.laload, 1))
    (kk : ∀ x : Int64, zv κ g a i.toNatClampNeg t (.long x) → W p l e R s m args below meth c H locs cells slots Q (F0 m (pc + 1) ls (.long x :: rest))) : W p l e R s m args below meth c H locs cells slots Q (F0 m pc ls (.int i :: .ref a :: rest)) := by
  obtain ⟨hx, hb, hts, hown, hK⟩ := hM
  obtain ⟨f, hv, q0, hP, -, -, -, hq, ⟨h, e1, e2⟩, h3⟩ := z_arr hI hk hO hR
  rw [e1] at hq
  have hlt : i.toNatClampNeg < n := Nat.not_le.mp fun q => hin (Or.inr q)
  exact va_lald hx hb hK hP q0 1 hq rfl hin hdg (kk _ (by rw [← e2 _ hlt]; exact h3 _ hlt))
theorem z_iald (hM : zM p s m c cc args Ts own D tc) (hI : zI D tc A H0 X L κ g H locs) (hk : κ a = k) (hO : zO k = none) (hR : zR k = some (0, n, 0, t)) (hin : vp_in i n) (hdg : decode cc pc = .ok (.iaload, 1))
    (kk : ∀ x : Int32, zv κ g a i.toNatClampNeg t (.int x) → W p l e R s m args below meth c H locs cells slots Q (F0 m (pc + 1) ls (.int x :: rest))) : W p l e R s m args below meth c H locs cells slots Q (F0 m pc ls (.int i :: .ref a :: rest)) := by
  obtain ⟨hx, hb, hts, hown, hK⟩ := hM
  obtain ⟨f, hv, q0, hP, -, -, -, hq, ⟨h, e1, e2⟩, h3⟩ := z_arr hI hk hO hR
  rw [e1] at hq
  have hlt : i.toNatClampNeg < n := Nat.not_le.mp fun q => hin (Or.inr q)
  exact va_iald hx hb hK hP q0 0 hq rfl hin hdg (kk _ (by rw [← e2 _ hlt]; exact h3 _ hlt))
theorem z_aald {C : String} (hM : zM p s m c cc args Ts own D tc) (hI : zI D tc A H0 X L κ g H locs) (hk : κ a = k) (hO : zO k = none) (hR : zR k = some (ti, n, 4, t)) (ht : (zTy tc)[ti]? = some (tc ti, .object C)) (hin : vp_in i n) (hdg : decode cc pc = .ok (.aaload, 1))
    (kk : ∀ x : Option Nat, zv κ g a i.toNatClampNeg t (va_rf x) → W p l e R s m args below meth c H locs cells slots Q (F0 m (pc + 1) ls (va_rf x :: rest))) : W p l e R s m args below meth c H locs cells slots Q (F0 m pc ls (.int i :: .ref a :: rest)) := by
  obtain ⟨hx, hb, hts, hown, hK⟩ := hM
  obtain ⟨f, hv, q0, hP, -, -, -, hq, ⟨h, e1, e2⟩, h3⟩ := z_arr hI hk hO hR
  rw [e1] at hq
  have hlt : i.toNatClampNeg < n := Nat.not_le.mp fun q => hin (Or.inr q)
  exact va_aldq hx hb hK hP q0 ti hq ht hin hdg (kk _ (by rw [← e2 _ hlt]; exact h3 _ hlt))
theorem z_alen {z : Nat} {ty : FieldType} (hM : zM p s m c cc args Ts own D tc) (hI : zI D tc A H0 X L κ g H locs) (hk : κ a = k) (hO : zO k = none) (hR : zR k = some (ti, n, z, t)) (ht : (zTy tc)[ti]? = some (tc ti, ty)) {v : Int32} (hv : Int32.ofNat n = v) (hdg : decode cc pc = .ok (.arraylength, 1))
    (kk : W p l e R s m args below meth c H locs cells slots Q (F0 m (pc + 1) ls (.int v :: rest))) : W p l e R s m args below meth c H locs cells slots Q (F0 m pc ls (.ref a :: rest)) := by
  obtain ⟨hx, hb, hts, hown, hK⟩ := hM
  obtain ⟨f, hw, q0, hP, -, -, -, hq, h2, -⟩ := z_arr hI hk hO hR
  obtain ⟨x, hx1, hx2⟩ : ∃ x : vp_A, f a = .inl (tc ti, x) ∧ x.1 = n := by
    unfold zh at h2
    split at h2 <;> first | exact h2.elim | (obtain ⟨h, e1, -⟩ := h2; exact ⟨_, e1, rfl⟩)
  rw [hx1] at hq
  exact va_alen hx hb hK hP q0 ti hq ht (by rw [hx2]; exact hv) hdg kk
/-- an array of the pool, one cell written -/
theorem z_up {z : Nat} {hv : Nat → Value} {w : Value} {e1 : va_E} {f : Nat → va_E} {q0 : Nat} {H1 : Heap} {locs1 : List Loc} (hI : zI D tc A H0 X L κ g H locs) (hk : κ a = k) (hO : zO k = none) (hR : zR k = some (ti, n, z, t)) (hD : va_D A (X ++ va_pl L f)) (hT : zT tc L κ g f) (haL : a ∈ L) (hq : (X ++ va_pl L f)[q0]? = some (a, f a))
    (h3 : ∀ j, j < n → zv κ g a j t (hv j)) {i : Nat} (he : zh tc ti n z (va_up hv i w) e1) (hw : zv κ g' a i t w) (hg : ∀ b j, (b ≠ a ∨ j ≠ i) → g' b j = g b j)
    (hP1 : va_P D vwCl ((X ++ va_pl L f).set q0 (a, e1)) H1) (hD1 : va_D A ((X ++ va_pl L f).set q0 (a, e1))) (hS1 : va_S A H0 H1 locs1) : zI D tc A H0 X L κ g' H1 locs1 := by
  rw [va_pl_set hD haL hq] at hP1 hD1
  refine ⟨hI.1, hS1, _, hP1, hD1, fun b hb9 => ?_⟩
  obtain ⟨hbL, hcb⟩ := hT b hb9
  refine ⟨hbL, ?_⟩
  by_cases hba : b = a
  · subst hba
    rw [va_up_self, hk]
    refine Or.inr ⟨hO, ti, n, z, t, va_up hv i w, hR, he, fun j hj => ?_⟩
    by_cases hij : j = i
    · subst hij
      rw [va_up_self]
      exact hw
    · rw [va_up_ne _ _ hij]
      exact zv_g (h3 j hj) (hg b j (Or.inr hij))
  · rw [va_up_ne _ _ hba]
    exact zc_g hcb (fun j => hg b j (Or.inl hba))
theorem z_last {x : Int64} (hM : zM p s m c cc args Ts own D tc) (hI : zI D tc A H0 X L κ g H locs) (hk : κ a = k) (hO : zO k = none) (hR : zR k = some (1, n, 1, t)) (hin : vp_in i n) (hw : zv κ g' a i.toNatClampNeg t (.long x)) (hg : ∀ b j, (b ≠ a ∨ j ≠ i.toNatClampNeg) → g' b j = g b j) (hdg : decode cc pc = .ok (.lastore, 1))
    (kk : ∀ (H1 : Heap) (locs1 : List Loc), zI D tc A H0 X L κ g' H1 locs1 → W p l e R s m args below meth c H1 locs1 cells slots Q (F0 m (pc + 1) ls rest)) : W p l e R s m args below meth c H locs cells slots Q (F0 m pc ls (.long x :: .int i :: .ref a :: rest)) := by
  obtain ⟨hx, hb, hts, hown, hK⟩ := hM
  obtain ⟨f, hv, q0, hP, hD, hT, haL, hq, ⟨h, e1, e2⟩, h3⟩ := z_arr hI hk hO hR
  have hq' := hq
  rw [e1] at hq
  refine va_last hx hb hK hP hD hI.2.1 q0 1 hq rfl hin hdg (fun H1 locs1 hP1 hD1 hS1 => kk H1 locs1 (z_up hI hk hO hR hD hT haL hq' h3 (i := i.toNatClampNeg) (w := .long x) ⟨_, rfl, fun j hj => ?_⟩ hw hg hP1 hD1 hS1))
  by_cases hij : j = i.toNatClampNeg
  · simp [va_up, vp_updL, hij]
  · simp [va_up, vp_updL, hij, e2 j hj]
theorem z_iast {x : Int32} (hM : zM p s m c cc args Ts own D tc) (hI : zI D tc A H0 X L κ g H locs) (hk : κ a = k) (hO : zO k = none) (hR : zR k = some (0, n, 0, t)) (hin : vp_in i n) (hw : zv κ g' a i.toNatClampNeg t (.int x)) (hg : ∀ b j, (b ≠ a ∨ j ≠ i.toNatClampNeg) → g' b j = g b j) (hdg : decode cc pc = .ok (.iastore, 1))
    (kk : ∀ (H1 : Heap) (locs1 : List Loc), zI D tc A H0 X L κ g' H1 locs1 → W p l e R s m args below meth c H1 locs1 cells slots Q (F0 m (pc + 1) ls rest)) : W p l e R s m args below meth c H locs cells slots Q (F0 m pc ls (.int x :: .int i :: .ref a :: rest)) := by
  obtain ⟨hx, hb, hts, hown, hK⟩ := hM
  obtain ⟨f, hv, q0, hP, hD, hT, haL, hq, ⟨h, e1, e2⟩, h3⟩ := z_arr hI hk hO hR
  have hq' := hq
  rw [e1] at hq
  refine va_iast hx hb hK hP hD hI.2.1 q0 0 hq rfl hin hdg (fun H1 locs1 hP1 hD1 hS1 => kk H1 locs1 (z_up hI hk hO hR hD hT haL hq' h3 (i := i.toNatClampNeg) (w := .int x) ⟨_, rfl, fun j hj => ?_⟩ hw hg hP1 hD1 hS1))
  by_cases hij : j = i.toNatClampNeg
  · simp [va_up, upd, hij]
  · simp [va_up, upd, hij, e2 j hj]
theorem z_dast {x : UInt64} (hM : zM p s m c cc args Ts own D tc) (hI : zI D tc A H0 X L κ g H locs) (hk : κ a = k) (hO : zO k = none) (hR : zR k = some (2, n, 3, t)) (hin : vp_in i n) (hw : zv κ g' a i.toNatClampNeg t (.double x)) (hg : ∀ b j, (b ≠ a ∨ j ≠ i.toNatClampNeg) → g' b j = g b j) (hdg : decode cc pc = .ok (.dastore, 1))
    (kk : ∀ (H1 : Heap) (locs1 : List Loc), zI D tc A H0 X L κ g' H1 locs1 → W p l e R s m args below meth c H1 locs1 cells slots Q (F0 m (pc + 1) ls rest)) : W p l e R s m args below meth c H locs cells slots Q (F0 m pc ls (.double x :: .int i :: .ref a :: rest)) := by
  obtain ⟨hx, hb, hts, hown, hK⟩ := hM
  obtain ⟨f, hv, q0, hP, hD, hT, haL, hq, ⟨h, e1, e2⟩, h3⟩ := z_arr hI hk hO hR
  have hq' := hq
  rw [e1] at hq
  refine va_dast hx hb hK hP hD hI.2.1 q0 2 hq rfl hin hdg (fun H1 locs1 hP1 hD1 hS1 => kk H1 locs1 (z_up hI hk hO hR hD hT haL hq' h3 (i := i.toNatClampNeg) (w := .double x) ⟨_, rfl, fun j hj => ?_⟩ hw hg hP1 hD1 hS1))
  by_cases hij : j = i.toNatClampNeg
  · simp [va_up, vf_upd, hij]
  · simp [va_up, vf_upd, hij, e2 j hj]
/-- an object of the pool, for a call of its method -/
theorem z_recv {ci N : Nat} {ts : List (Nat × Nat)} {C : String} {T : u_T} (hK : va_K D vwCl (zTy tc) s) (hI : zI D tc A H0 X L κ g H locs) (hk : κ a = k) (ho : zO k = some (ci, ts)) (hc : vwCl[ci]? = some (C, T, N)) : ∃ cell : Cell, H[a]? = some cell ∧ cell.vm.isStatics = false ∧ s.vm.findClass C = some cell.cls := by
  obtain ⟨-, -, f, hP, hD, hT⟩ := hI
  have hlt : κ a < 99 := by rw [hk]; exact zO_lt ho
  obtain ⟨haL, hcc⟩ := hT a hlt
  rw [hk] at hcc
  rcases hcc with ⟨ci', ts', fs, h1, h2, -⟩ | ⟨h0, -⟩
  · cases h1.symm.trans ho
    obtain ⟨q0, hq⟩ := va_pl_get (X := X) (f := f) haL
    rw [h2] at hq
    exact va_recv hK hP hc hq
  · rw [ho] at h0
    cases h0
end ZARR
/-! WHAT LIES OUTSIDE OF THE POOL and stays: words that a table alone decides, statics, texts -/
def zNk : Cond → Bool
  | .castable .. => true
  | .declares .. => true
  | .fieldLinkNest .. => true
  | .methodLinkNest .. => true
  | .arrayOver (.object _) => true
  | _ => false
theorem zNk_warm {w : Cond} (hk : zNk w = true) {s U : State} (hW : s.WarmedH U.vm) (h : va_Nw w s) : va_Nw w U := by
  cases w <;> first | exact va_Nw.warmC hW h | exact va_Nw.warmD hW h | exact va_Nw.warmF hW h | exact va_Nw.warmM hW h | (simp [zNk] at hk; done) | skip
  rename_i t
  cases t <;> first | (simp [zNk] at hk; done) | exact va_AO.moved hW.alike h
def zFl : List (String × MethodName × MethodName) := [
  ("java/util/ArrayList", ⟨"java/util/List", "size", "()I"⟩, ⟨"java/util/ArrayList", "size", "()I"⟩),
  ("java/util/ArrayList", ⟨"java/util/List", "add", "(Ljava/lang/Object;)Z"⟩, ⟨"java/util/ArrayList", "add", "(Ljava/lang/Object;)Z"⟩),
  ("java/util/ArrayList", ⟨"java/util/List", "get", "(I)Ljava/lang/Object;"⟩, ⟨"java/util/ArrayList", "get", "(I)Ljava/lang/Object;"⟩),
  ("java/util/ArrayList", ⟨"java/util/List", "iterator", "()Ljava/util/Iterator;"⟩, ⟨"java/util/ArrayList", "iterator", "()Ljava/util/Iterator;"⟩),
  ("java/util/ArrayList$Itr", ⟨"java/util/Iterator", "hasNext", "()Z"⟩, ⟨"java/util/ArrayList$Itr", "hasNext", "()Z"⟩),
  ("java/util/ArrayList$Itr", ⟨"java/util/Iterator", "next", "()Ljava/lang/Object;"⟩, ⟨"java/util/ArrayList$Itr", "next", "()Ljava/lang/Object;"⟩),
  ("java/util/ArrayList", ⟨"java/util/List", "isEmpty", "()Z"⟩, ⟨"java/util/ArrayList", "isEmpty", "()Z"⟩)]
def zCl : List (String × String) := [
  ("java/lang/IllegalArgumentException", "java/lang/IndexOutOfBoundsException"), ("java/lang/IllegalStateException", "java/lang/IndexOutOfBoundsException"), ("java/lang/UnsupportedOperationException", "java/lang/IndexOutOfBoundsException"), ("java/util/NoSuchElementException", "java/lang/IndexOutOfBoundsException"),
  ("java/lang/IllegalStateException", "java/lang/IllegalArgumentException"), ("java/lang/UnsupportedOperationException", "java/lang/IllegalArgumentException"), ("java/util/NoSuchElementException", "java/lang/IllegalArgumentException")]
/-- what is taken from outside: words that hold of tables, and statics; 'z0' is the empty row of a new list -/
def zE (z0 : Nat) (A : Nat → Prop) (U : State) : Prop :=
  (∀ w ∈ tables_1, zNk w = true → va_Nw w U) ∧ (∀ own k tx, Cond.stringRef own k tx ∈ tables_1 → ∃ a, vk_R own k tx a U) ∧ (∀ q ∈ zFl, va_Fw q.1 q.2.1 q.2.2 U) ∧ (∀ q ∈ zCl, va_Nc q.1 q.2 U) ∧
  vx_Zq Bundle.tN "UNASSIGNED_STACK" Bundle.steD A U U.heap ∧ vx_Zq Bundle.tN "SUPPRESSED_SENTINEL" Bundle.listD A U U.heap ∧
  (va_Z "java/util/ArrayList" "DEFAULTCAPACITY_EMPTY_ELEMENTDATA" "[Ljava/lang/Object;" (.ref z0) A U U.heap ∧ va_T (.object "java/lang/Object") z0 0 (fun _ => .null) A U U.heap) ∧
  va_Z "java/lang/String" "COMPACT_STRINGS" "Z" (.int 1) A U U.heap ∧ va_Zq "jdk/internal/util/Preconditions" "SIOOBE_FORMATTER" "Ljava/util/function/BiFunction;" A U U.heap ∧
  (∃ adK adV, vk_S 2 [6, 6] [[114, 116, 111, 110, 112, 113], [119, 98, 111, 104, 97, 116]] adK adV A U U.heap ∧ vk_R "WattgovernModel" 220 "rtonpq" (adK 0) U ∧ vk_R "WattgovernModel" 286 "wbohat" (adK 1) U)
theorem zFl_ok : ∀ q ∈ zFl, q.2.1.cls ≠ "java/lang/invoke/MethodHandle" ∧ q.2.1.cls ≠ "java/lang/invoke/VarHandle" := by decide +kernel
theorem zE.next {z0 : Nat} {A B : Nat → Prop} {s U : State} {locs : List Loc} (h : zE z0 A s) (hW : s.WarmedH U.vm) (hS : va_S A s.heap U.heap locs) (hAB : ∀ q, B q → A q) : zE z0 B U := by
  obtain ⟨h1, h2, h3, h4, h5, h6, ⟨h7, h8⟩, h9, h10, adK, adV, h11, h12, h13⟩ := h
  have hvm := hW.alike
  have kp : ∀ a : Nat, a < s.heap.size → ¬ A a → U.heap[a]? = s.heap[a]? := hS.2.1
  exact ⟨fun w hw hk => zNk_warm hk hW (h1 w hw hk), fun own k tx hm => (h2 own k tx hm).imp fun a ha => vk_R.warm hW ha, fun q hq => va_Fw.moved (zFl_ok q hq) hvm (h3 q hq), fun q hq => va_Nc.moved hvm (h4 q hq),
    vx_Zq.narrow (vx_Zq.moved hvm (h5.kept kp)) hAB, vx_Zq.narrow (vx_Zq.moved hvm (h6.kept kp)) hAB, ⟨va_Z.narrow (va_Z.moved hvm (h7.kept kp)) hAB, va_T.narrow (va_T.moved hvm (h8.kept kp)) hAB⟩,
    va_Z.narrow (va_Z.moved hvm (h9.kept kp)) hAB, va_Zq.narrow (va_Zq.moved hvm (h10.kept kp)) hAB, adK, adV, vk_S.narrow (vk_S.moved hvm (h11.kept kp)) hAB, vk_R.warm hW h12, vk_R.warm hW h13⟩
theorem zE.blind {z0 : Nat} {A : Nat → Prop} {U : State} (h : zE z0 A U) (g : JFrame) (mk : MethodId) (a : Array Value) : zE z0 A (U.calling g mk a) :=
  zE.next (locs := []) h (State.WarmedH.refl U) va_S.rf (fun _ h => h)
/-! A METHOD'S START AND END -/
def zA (X : va_W) (L : List Nat) (sz : Nat) : Nat → Prop := fun q => q ∈ X.map Prod.fst ∨ q ∈ L ∨ sz ≤ q
abbrev zS : Type := List Nat × (Nat → Nat) × (Nat → Nat → Value)
def zB (D : va_G) (tc : Nat → ClassId) (A : Nat → Prop) (X : va_W) (u : zS) (U : State) : Prop := va_K D vwCl (zTy tc) U ∧ ∃ f, va_P D vwCl (X ++ va_pl u.1 f) U.heap ∧ va_D A (X ++ va_pl u.1 f) ∧ zT tc u.1 u.2.1 u.2.2 f
def zPc (D : va_G) (tc : Nat → ClassId) (z0 : Nat) (av : List Value) (X : va_W) (u : zS) (sz : Nat) : Array Value → State → Prop := va_Pc av (fun U => U.heap.size = sz ∧ zB D tc (fun _ => True) X u U ∧ zE z0 (zA X u.1 sz) U)
theorem zPc.blind {D : va_G} {tc : Nat → ClassId} {z0 : Nat} {av : List Value} {X : va_W} {u : zS} {sz : Nat} : FrameBlind (zPc D tc z0 av X u sz) := by
  intro a U g mk h
  obtain ⟨h1, h2, ⟨h3, h4⟩, h5⟩ := h
  exact ⟨h1, h2, ⟨va_K.moved (u := U) (U := U.calling g mk a) (Vm.Alike.refl U.vm) h3, h4⟩, h5.blind g mk a⟩
theorem zA_in {X : va_W} {L : List Nat} {f : Nat → va_E} {A : Nat → Prop} {sz : Nat} (hD : va_D A (X ++ va_pl L f)) (h : ∀ q, sz ≤ q → A q) : ∀ q, zA X L sz q → A q := by
  intro q hq
  rcases hq with h1 | h1 | h1
  · obtain ⟨x, hx, rfl⟩ := List.mem_map.mp h1
    obtain ⟨k, hk⟩ := List.getElem?_of_mem (List.mem_append_left (va_pl L f) hx)
    exact hD.2 k x hk
  · obtain ⟨k, hk⟩ := va_pl_get (X := X) (f := f) h1
    exact hD.2 k _ hk
  · exact h q h1
theorem zA_self {X : va_W} {L : List Nat} {f : Nat → va_E} {A : Nat → Prop} {sz : Nat} (hD : va_D A (X ++ va_pl L f)) : va_D (zA X L sz) (X ++ va_pl L f) := by
  refine ⟨hD.1, fun k q hk => ?_⟩
  rcases List.mem_append.mp (List.mem_of_getElem? hk) with h | h
  · exact Or.inl (List.mem_map.mpr ⟨q, h, rfl⟩)
  · obtain ⟨a, ha, rfl⟩ := List.mem_map.mp h
    exact Or.inr (Or.inl ha)
theorem zPc.opn {D : va_G} {tc : Nat → ClassId} {z0 : Nat} {av : List Value} {X : va_W} {L : List Nat} {κ : Nat → Nat} {g : Nat → Nat → Value} {sz : Nat} {args : Array Value} {s : State} (h : zPc D tc z0 av X (L, κ, g) sz args s) :
    args = av.toArray ∧ s.heap.size = sz ∧ va_K D vwCl (zTy tc) s ∧ zE z0 (zA X L sz) s ∧ zI D tc (zA X L sz) s.heap X L κ g s.heap [] := by
  obtain ⟨h1, h2, ⟨h3, f, h4, h5, h6⟩, h7⟩ := h
  exact ⟨h1, h2, h3, h7, fun q hq => Or.inr (Or.inr (by rw [← h2]; exact hq)), va_S.rf, f, h4, zA_self h5, h6⟩
section ZCALL
variable {p : Program} {l : Launch} {e : Env} {R : Room} {s : State} {m : MethodId} {args : Array Value} {below : List Frame} {meth : Method} {c : Code} {H : Heap} {locs : List Loc} {cells slots : Nat} {Q : State → Prop}
variable {cc : ByteArray} {pc : Nat} {ls : Array Slot} {rest st0 : List Value} {D : va_G} {tc : Nat → ClassId} {A : Nat → Prop} {X : va_W} {L : List Nat} {κ : Nat → Nat} {g : Nat → Nat → Value} {Ts : List Cond} {own : String} {z0 : Nat}
/-- at a call: what the callee asks -/
theorem z_pre {av : List Value} (hK : va_K D vwCl (zTy tc) s) (hE : zE z0 A s) (hI : zI D tc A s.heap X L κ g H locs) (is : List Nat) {Xc : va_W} (hn : va_nd is = true) (hs : is.map (fun i => X[i]?) = Xc.map some) : PreS s H (zPc D tc z0 av Xc (L, κ, g) H.size) av := by
  refine ⟨zPc.blind, fun U hU hW => ?_⟩
  obtain ⟨hA, hS, f, hP, hD, hT⟩ := hI
  refine ⟨rfl, by rw [hU], ⟨va_K.moved hW.alike hK, f, by rw [hU]; exact hP.part is hs, (hD.part is hn hs).weaken (fun _ _ _ _ => trivial), hT⟩, ?_⟩
  exact hE.next (locs := locs) hW (by rw [hU]; exact hS) (zA_in (hD.part is hn hs) (fun q hq => hA q (Nat.le_trans hS.1 hq)))
theorem z_preV {av : List Value} {C : String} {b : Nat} (hK : va_K D vwCl (zTy tc) s) (hE : zE z0 A s) (hI : zI D tc A s.heap X L κ g H locs) (is : List Nat) {Xc : va_W} (hn : va_nd is = true) (hs : is.map (fun i => X[i]?) = Xc.map some) (hr : ∃ cell : Cell, H[b]? = some cell ∧ cell.vm.isStatics = false ∧ s.vm.findClass C = some cell.cls) : PreV s H C b (zPc D tc z0 (.ref b :: av) Xc (L, κ, g) H.size) av :=
  ⟨zPc.blind, hr, (z_pre (av := .ref b :: av) hK hE hI is hn hs).2⟩
theorem z_sub {Xc : va_W} (hI : zI D tc A s.heap X L κ g H locs) (is : List Nat) (hn : va_nd is = true) (hs : is.map (fun i => X[i]?) = Xc.map some) : ∀ q, zA Xc L H.size q → A q := by
  obtain ⟨hA, hS, f, hP, hD, hT⟩ := hI
  exact zA_in (hD.part is hn hs) (fun q hq => hA q (Nat.le_trans hS.1 hq))
/-- behind a call that had none of the caller's own cells, and left none -/
theorem z_back {u : zS} {t : State} {H1 : Heap} {locs1 : List Loc} (hI : zI D tc A s.heap [] L κ g H locs) (ht : t.heap = H1) (hB : zB D tc (zA [] L H.size) [] u t) (hS1 : va_S A s.heap H1 locs1) : zI D tc A s.heap [] u.1 u.2.1 u.2.2 H1 locs1 := by
  have hF := z_sub (Xc := []) hI [] rfl rfl
  obtain ⟨hA, hS, f, hP, hD, hT⟩ := hI
  obtain ⟨-, f1, hP1, hD1, hT1⟩ := hB
  rw [ht] at hP1
  exact ⟨hA, hS1, f1, hP1, hD1.weaken (fun k q _ h => hF q.1 h), hT1⟩
theorem zA_va {X : va_W} {L : List Nat} {f : Nat → va_E} {sz : Nat} {q : Nat} : va_A (X ++ va_pl L f) sz q ↔ zA X L sz q := by
  constructor
  · rintro (⟨k, e, h⟩ | h)
    · rcases List.mem_append.mp (List.mem_of_getElem? h) with h | h
      · exact Or.inl (List.mem_map.mpr ⟨_, h, rfl⟩)
      · obtain ⟨a, ha, e1⟩ := List.mem_map.mp h
        cases e1
        exact Or.inr (Or.inl ha)
    · exact Or.inr (Or.inr h)
  · rintro (h | h | h)
    · obtain ⟨x, hx, rfl⟩ := List.mem_map.mp h
      obtain ⟨k, hk⟩ := List.getElem?_of_mem (List.mem_append_left (va_pl L f) hx)
      exact Or.inl ⟨k, x.2, hk⟩
    · obtain ⟨k, hk⟩ := va_pl_get (X := X) (f := f) h
      exact Or.inl ⟨k, _, hk⟩
    · exact Or.inr h
/-- behind a call that had some of the caller's own cells (at isC), the others at isR -/
theorem z_backX {Xc wr rx : va_W} {u : zS} {t : State} {H1 : Heap} {locs1 : List Loc} (hI : zI D tc A s.heap X L κ g H locs) (isC isR : List Nat) (hC : isC.map (fun i => X[i]?) = Xc.map some) (hR : isR.map (fun i => X[i]?) = wr.map some) (hnC : va_nd isC = true) (hn : va_nd isR = true) (hdis : ∀ i ∈ isR, i ∉ isC)
    (hk : ∀ q : Nat, q < H.size → ¬ zA Xc L H.size q → H1[q]? = H[q]?) (ht : t.heap = H1) (hB : zB D tc (zA Xc L H.size) rx u t) (hS1 : va_S A s.heap H1 locs1) : zI D tc A s.heap (wr ++ rx) u.1 u.2.1 u.2.2 H1 locs1 := by
  have hF := z_sub hI isC hnC hC
  obtain ⟨hA, hS, f, hP, hD, hT⟩ := hI
  obtain ⟨-, f1, hP1, hD1, hT1⟩ := hB
  rw [ht] at hP1
  have hJ := va_joinP (pl1 := va_pl u.1 f1) (rx := rx) hP hD isC isR hC hR hn hdis (fun q h1 h2 => hk q h1 (fun h => h2 (zA_va.mpr h))) (fun q h => hF q (zA_va.mp h)) hP1 (hD1.weaken (fun k q _ h => zA_va.mpr h))
  exact ⟨hA, hS1, f1, hJ.1, hJ.2, hT1⟩
/-- an end: what a method owes of the world -/
theorem z_end {X' : va_W} {sz : Nat} {t : State} (hK : va_K D vwCl (zTy tc) s) (hI : zI D tc (zA X' L sz) s.heap X L κ g H locs) (ht : t.heap = H) (hW : s.WarmedH t.vm) : zB D tc (zA X' L sz) X (L, κ, g) t := by
  obtain ⟨hA, hS, f, hP, hD, hT⟩ := hI
  exact ⟨va_K.moved hW.alike hK, f, by rw [ht]; exact hP, hD, hT⟩
theorem z_F {t : State} (hI : zI D tc A s.heap X L κ g H locs) (ht : t.heap = H) : va_F A s t := hI.2.1.F ht
theorem z_locs (hI : zI D tc A s.heap X L κ g H locs) : ∀ q ∈ locs, A q.base := hI.2.1.2.2
end ZCALL
