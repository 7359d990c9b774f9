/-! BORN OBJECTS: cells of the walk's own, arranged, written, and put into the pool -/
def zset (g : Nat → Nat → Value) (a : Nat) (fs : List Value) : Nat → Nat → Value := fun b i => if b = a then fs.getD i .null else g b i
theorem zset_ne {g : Nat → Nat → Value} {a : Nat} {fs : List Value} (b j : Nat) (h : b ≠ a) : zset g a fs b j = g b j := if_neg h
theorem zset_at {g : Nat → Nat → Value} {a : Nat} {fs : List Value} (j : Nat) : zset g a fs a j = fs.getD j .null := if_pos rfl
def zvs (κ : Nat → Nat) (g : Nat → Nat → Value) (a : Nat) : Nat → List (Nat × Nat) → List Value → Prop
  | _, [], [] => True
  | j, t :: ts, v :: vs => zv κ g a j t v ∧ zvs κ g a (j + 1) ts vs
  | _, _, _ => False
theorem zvs_nil {κ : Nat → Nat} {g : Nat → Nat → Value} {a j : Nat} : zvs κ g a j [] [] := trivial
theorem zvs_cons {κ : Nat → Nat} {g : Nat → Nat → Value} {a j j' : Nat} {t : Nat × Nat} {v : Value} {ts : List (Nat × Nat)} {vs : List Value} (h : zv κ g a j t v) (hj : j' = j + 1) (hs : zvs κ g a j' ts vs) : zvs κ g a j (t :: ts) (v :: vs) := by
  subst hj
  exact ⟨h, hs⟩
theorem zvs_len {κ : Nat → Nat} {g : Nat → Nat → Value} {a : Nat} : ∀ {ts : List (Nat × Nat)} {vs : List Value} {j : Nat}, zvs κ g a j ts vs → vs.length = ts.length
  | [], [], _, _ => rfl
  | _ :: _, _ :: _, _, h => by rw [List.length_cons, List.length_cons, zvs_len h.2]
  | [], _ :: _, _, h => h.elim
  | _ :: _, [], _, h => h.elim
theorem zvs_get {κ : Nat → Nat} {g : Nat → Nat → Value} {a : Nat} : ∀ {ts : List (Nat × Nat)} {vs : List Value} {j : Nat}, zvs κ g a j ts vs → ∀ (i : Nat) (t : Nat × Nat) (v : Value), ts[i]? = some t → vs[i]? = some v → zv κ g a (j + i) t v
  | [], [], _, _, i, t, v, h1, _ => by simp at h1
  | t0 :: ts, v0 :: vs, j, h, 0, t, v, h1, h2 => by
    simp at h1 h2
    subst h1
    subst h2
    exact h.1
  | t0 :: ts, v0 :: vs, j, h, i + 1, t, v, h1, h2 => by
    have := zvs_get h.2 i t v (by simpa using h1) (by simpa using h2)
    rw [show j + 1 + i = j + (i + 1) by omega] at this
    exact this
  | [], _ :: _, _, h, _, _, _, _, _ => h.elim
  | _ :: _, [], _, h, _, _, _, _, _ => h.elim
theorem zc_O {tc : Nat → ClassId} {κ : Nat → Nat} {g : Nat → Nat → Value} {a k ci : Nat} {ts : List (Nat × Nat)} {fs : List Value} (ho : zO k = some (ci, ts)) (h : zvs κ g a 0 ts fs) : zc tc κ g a k (.inr (ci, fs)) :=
  Or.inl ⟨ci, ts, fs, ho, rfl, zvs_len h, fun j t v h1 h2 => by
    have := zvs_get h j t v h1 h2
    rw [Nat.zero_add] at this
    exact this⟩
section ZBORN
variable {p : Program} {l : Launch} {e : Env} {R : Room} {s : State} {m : MethodId} {args : Array Value} {below : List Frame} {meth : Method} {c : Code} {H : Heap} {locs : List Loc} {cells slots mc ms : Nat} {Q : State → Prop}
variable {cc : ByteArray} {a0 : Array Value} {pc : Nat} {ls : Array Slot} {rest st0 : List Value} {D : va_G} {tc : Nat → ClassId} {A : Nat → Prop} {H0 : Heap} {X : va_W} {L : List Nat} {κ : Nat → Nat} {g : Nat → Nat → Value} {Ts : List Cond} {own : String} {z0 : Nat}
variable {a k ci ti n index q : Nat} {fs : List Value} {t : Nat × Nat}
theorem z_part (is : List Nat) {X' : va_W} (hn : va_nd is = true) (hs : is.map (fun i => X[i]?) = X'.map some) (hI : zI D tc A H0 X L κ g H locs) : zI D tc A H0 X' L κ g H locs := by
  obtain ⟨hA, hS, f, hP, hD, hT⟩ := hI
  exact ⟨hA, hS, f, hP.part is hs, hD.part is hn hs, hT⟩
theorem z_poolE {e1 : va_E} {g2 : Nat → Nat → Value} (hI : zI D tc A H0 ((a, e1) :: X) L κ g H locs) (hk9 : k < 99) (he : ∀ κ2 : Nat → Nat, (∀ r, κ r < 99 → κ2 r = κ r) → κ2 a = k → zc tc κ2 g2 a k e1) (hg : ∀ b j, b ≠ a → g2 b j = g b j) :
    ∃ (L2 : List Nat) (κ2 : Nat → Nat), zExt κ g κ2 g2 ∧ κ2 a = k ∧ zI D tc A H0 X L2 κ2 g2 H locs := by
  have haL : a ∉ L := by
    intro h
    obtain ⟨hA, hS, f, hP, hD, hT⟩ := hI
    obtain ⟨i, hi⟩ := List.getElem?_of_mem h
    have h2 : ((a, e1) :: X ++ va_pl L f)[1 + X.length + i]? = some (a, f a) := by
      rw [List.getElem?_append_right (by simp; omega)]
      simp only [List.length_cons, va_pl]
      rw [show 1 + X.length + i - (X.length + 1) = i by omega, List.getElem?_map, hi]
      rfl
    have := hD.1 0 _ _ _ (show ((a, e1) :: X ++ va_pl L f)[0]? = some (a, e1) from rfl) h2 rfl
    omega
  have hfr : ∀ b, κ b < 99 → b ≠ a := by
    obtain ⟨hA, hS, f, hP, hD, hT⟩ := hI
    exact fun b hb e2 => haL (e2 ▸ (hT b hb).1)
  obtain ⟨h1, h2⟩ := z_pool1 hI hk9 (he _ (fun r hr => va_up_ne _ _ (hfr r hr)) (va_up_self _ _ _)) hg
  exact ⟨_, _, h1, va_up_self _ _ _, h2⟩
theorem z_poolG {e1 : va_E} (gv : Nat → Value) (hI : zI D tc A H0 ((a, e1) :: X) L κ g H locs) (hk9 : k < 99) (he : ∀ (κ2 : Nat → Nat) (g2 : Nat → Nat → Value), (∀ r, κ r < 99 → κ2 r = κ r) → κ2 a = k → (∀ j, g2 a j = gv j) → zc tc κ2 g2 a k e1) :
    ∃ (L2 : List Nat) (κ2 : Nat → Nat) (g2 : Nat → Nat → Value), zExt κ g κ2 g2 ∧ κ2 a = k ∧ (∀ j, g2 a j = gv j) ∧ zI D tc A H0 X L2 κ2 g2 H locs := by
  obtain ⟨L2, κ2, h1, h2, h3⟩ := z_poolE (g2 := fun b j => if b = a then gv j else g b j) hI hk9 (fun κ2 h1 h2 => he κ2 _ h1 h2 (fun j => if_pos rfl)) (fun b j h => if_neg h)
  exact ⟨L2, κ2, _, h1, h2, fun j => if_pos rfl, h3⟩
theorem z_three {j : Nat} {P : Nat → Prop} (h : j < 3) (h0 : P 0) (h1 : P 1) (h2 : P 2) : P j := by
  rcases (show j = 0 ∨ j = 1 ∨ j = 2 by omega) with rfl | rfl | rfl <;> assumption
/-- an array of references, made -/
theorem z_newq {C : String} {nv : Int32} {A2 : Nat → Prop} (hM : zM p s m c cc args Ts own D tc) (hE : zE z0 A2 s) (hI : zI D tc A H0 X L κ g H locs) (hcl : Cond.classLink own index C ∈ Ts) (hao : Cond.arrayOver (.object C) ∈ tables_1) (hti : (zTy tc)[ti]? = some (tc ti, .object C))
    (hn : ¬ nv < 0) (hN : nv.toNatClampNeg = n) (hbytes : n * 4 ≤ 536870912) (hcells : cells + 1 ≤ R.cells) (hslots : slots + n ≤ R.slots) (hdg : decode cc pc = .ok (.anewarray index, 3))
    (kk : ∀ (q : Nat) (H1 : Heap), zI D tc A H0 (X ++ [(q, .inl (tc ti, n, .inr (.inr (.inr (.inr (fun _ => none))))))]) L κ g H1 locs → W p l e R s m args below meth c H1 locs (cells + 1) (slots + n) Q (F0 m (pc + 3) ls (.ref q :: rest))) : W p l e R s m args below meth c H locs cells slots Q (F0 m pc ls (.int nv :: rest)) := by
  obtain ⟨hx, hb, hts, hown, hK⟩ := hM
  obtain ⟨hA, hS, f, hP, hD, hT⟩ := hI
  refine va_newq hx hb hown (hts _ hcl) (hE.1 _ hao rfl) hK hP hD hS hA hn hN hbytes hcells hslots hdg (fun q cA H1 hK1 hP1 hD1 hS1 => ?_)
  have e1 : cA = tc ti := by
    obtain ⟨-, -, -, -, -, h1⟩ := (hK1.2 (zTy tc).length (cA, .object C) (by rw [List.getElem?_append_right (Nat.le_refl _), Nat.sub_self]; rfl)).2
    obtain ⟨-, -, -, -, -, h2⟩ := (hK.2 ti _ hti).2
    exact Option.some.inj (h1.symm.trans h2)
  subst e1
  exact kk q H1 ⟨hA, hS1, f, hP1.swap, hD1.swap, hT⟩
/-- an element of the walk's own array, written with an object of the pool -/
theorem z_aastX {C : String} {T : u_T} {N i : Nat} {ts : List (Nat × Nat)} {v : Nat} {j : Int32} {h : Nat → Option Nat} (hM : zM p s m c cc args Ts own D tc) (hI : zI D tc A H0 X L κ g H locs) (hX : X[i]? = some (a, .inl (tc ti, n, .inr (.inr (.inr (.inr h)))))) (hti : (zTy tc)[ti]? = some (tc ti, .object C)) (hk : κ v = k) (ho : zO k = some (ci, ts)) (hc : vwCl[ci]? = some (C, T, N))
    (hin : vp_in j n) (hdg : decode cc pc = .ok (.aastore, 1)) (kk : ∀ (H1 : Heap) (locs1 : List Loc), zI D tc A H0 (X.set i (a, .inl (tc ti, n, .inr (.inr (.inr (.inr (va_up h j.toNatClampNeg (some v)))))))) L κ g H1 locs1 → W p l e R s m args below meth c H1 locs1 cells slots Q (F0 m (pc + 1) ls rest)) : W p l e R s m args below meth c H locs cells slots Q (F0 m pc ls (.ref v :: .int j :: .ref a :: rest)) := by
  obtain ⟨hx, hb, hts, hown, hK⟩ := hM
  have hr := z_recv hK hI hk ho hc
  obtain ⟨hA, hS, f, hP, hD, hT⟩ := hI
  have hlt : i < X.length := (List.getElem?_eq_some_iff.mp hX).1
  refine vb_astq hx hb hK hP hD hS i ti (by rw [List.getElem?_append_left hlt]; exact hX) hti hr vb_asgS hin hdg (fun H1 locs1 hP1 hD1 hS1 => ?_)
  rw [List.set_append_left _ _ hlt] at hP1 hD1
  exact kk H1 locs1 ⟨hA, hS1, f, hP1, hD1, hT⟩
theorem z_alenX {ty : FieldType} {i : Nat} {x : vp_A} {v : Int32} (hM : zM p s m c cc args Ts own D tc) (hI : zI D tc A H0 X L κ g H locs) (hX : X[i]? = some (a, .inl (tc ti, x))) (ht : (zTy tc)[ti]? = some (tc ti, ty)) (hv : Int32.ofNat x.1 = v) (hdg : decode cc pc = .ok (.arraylength, 1))
    (kk : W p l e R s m args below meth c H locs cells slots Q (F0 m (pc + 1) ls (.int v :: rest))) : W p l e R s m args below meth c H locs cells slots Q (F0 m pc ls (.ref a :: rest)) := by
  obtain ⟨hx, hb, hts, hown, hK⟩ := hM
  obtain ⟨hA, hS, f, hP, hD, hT⟩ := hI
  have hlt : i < X.length := (List.getElem?_eq_some_iff.mp hX).1
  exact va_alen hx hb hK hP i ti (by rw [List.getElem?_append_left hlt]; exact hX) ht hv hdg kk
/-- an element of an array of the pool, written with an object of the pool -/
theorem z_aast {C : String} {T : u_T} {N k2 : Nat} {ts : List (Nat × Nat)} {v : Nat} {j : Int32} {g' : Nat → Nat → Value} (hM : zM p s m c cc args Ts own D tc) (hI : zI D tc A H0 X L κ g H locs) (hk : κ a = k) (hO : zO k = none) (hR : zR k = some (ti, n, 4, t)) (hti : (zTy tc)[ti]? = some (tc ti, .object C)) (hk2 : κ v = k2) (ho : zO k2 = some (ci, ts)) (hc : vwCl[ci]? = some (C, T, N))
    (hin : vp_in j n) (hw : zv κ g' a j.toNatClampNeg t (.ref v)) (hg : ∀ b i, (b ≠ a ∨ i ≠ j.toNatClampNeg) → g' b i = g b i) (hdg : decode cc pc = .ok (.aastore, 1))
    (kk : ∀ (H1 : Heap) (locs1 : List Loc), zI D tc A H0 X L κ g' H1 locs1 → W p l e R s m args below meth c H1 locs1 cells slots Q (F0 m (pc + 1) ls rest)) : W p l e R s m args below meth c H locs cells slots Q (F0 m pc ls (.ref v :: .int j :: .ref a :: rest)) := by
  obtain ⟨hx, hb, hts, hown, hK⟩ := hM
  have hr := z_recv hK hI hk2 ho hc
  obtain ⟨f, hv, q0, hP, hD, hT, haL, hq, ⟨h, e1, e2⟩, h3⟩ := z_arr hI hk hO hR
  have hq' := hq
  rw [e1] at hq
  refine vb_astq hx hb hK hP hD hI.2.1 q0 ti hq hti hr vb_asgS hin hdg (fun H1 locs1 hP1 hD1 hS1 => kk H1 locs1 (z_up hI hk hO hR hD hT haL hq' h3 (i := j.toNatClampNeg) (w := .ref v) ⟨_, rfl, fun i hi => ?_⟩ hw hg hP1 hD1 hS1))
  by_cases hij : i = j.toNatClampNeg
  · simp [va_up, hij, va_rf]
  · simp [va_up, hij, e2 i hi]
end ZBORN
