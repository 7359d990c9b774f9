section ZROWS
variable {p : Program} {l : Launch} {e : Env} {R : Room} {s : State} {m : MethodId} {args : Array Value} {below : List Frame} {meth : Method} {c : Code} {H : Heap} {locs : List Loc} {cells slots : Nat} {Q : State → Prop}
variable {cc : ByteArray} {pc : Nat} {ls : Array Slot} {rest : List Value} {D : va_G} {tc : Nat → ClassId} {A : Nat → Prop} {H0 : Heap} {X : va_W} {L : List Nat} {κ : Nat → Nat} {g : Nat → Nat → Value} {Ts : List Cond} {own : String}
variable {a k ci j N index : Nat} {ts : List (Nat × Nat)} {t : Nat × Nat} {C ref : String} {T : u_T}
theorem z_getN {host : String} {A2 : Nat → Prop} {z0 : Nat} (hM : zM p s m c cc args Ts own D tc) (hE : zE z0 A2 s) (hI : zI D tc A H0 X L κ g H locs) (hk : κ a = k) (ho : zO k = some (ci, ts)) (ht : ts[j]? = some t)
    (hin : ∀ w ∈ u_ws C T N, w ∈ Ts) (hc : vwCl[ci]? = some (C, T, N)) (hj : j < N) (hlink : (Cond.fieldLinkNest own index ref (T j).2.1 (T j).2.2.1 host) ∈ tables_1) (hsame : ∀ x, s.fieldFound? (T j).1 (T j).2.1 (T j).2.2.1 = some x → s.fieldFound? ref (T j).2.1 (T j).2.2.1 = some x)
    (hdg : decode cc pc = .ok (.getfield index, 3)) (kk : ∀ v, zv κ g a j t v → W p l e R s m args below meth c H locs cells slots Q (F0 m (pc + 3) ls (v :: rest))) : W p l e R s m args below meth c H locs cells slots Q (F0 m pc ls (.ref a :: rest)) := by
  obtain ⟨hx, hb, hts, hown, hK⟩ := hM
  obtain ⟨-, -, f, hP, -, hT⟩ := hI
  have hlt : κ a < 99 := by rw [hk]; exact zO_lt ho
  obtain ⟨haL, hcc⟩ := hT a hlt
  rw [hk] at hcc
  rcases hcc with ⟨ci', ts', fs, h1, h2, h3, h4⟩ | ⟨h0, -⟩
  · cases h1.symm.trans ho
    have hjl : j < fs.length := by rw [h3]; exact (List.getElem?_eq_some_iff.mp ht).1
    obtain ⟨v, hv⟩ : ∃ v, fs[j]? = some v := ⟨fs[j], List.getElem?_eq_getElem hjl⟩
    obtain ⟨q0, hq⟩ := va_pl_get (X := X) (f := f) haL
    rw [h2] at hq
    exact va_getN hx hb hts hin hown hK hP q0 hq hc j hj (va_Nw.use rfl (hE.1 _ hlink rfl)) hsame hv hdg (kk v (h4 j t v ht hv))
  · rw [ho] at h0
    cases h0
theorem z_putN {host : String} {A2 : Nat → Prop} {z0 : Nat} {g' : Nat → Nat → Value} {v : Value} (hM : zM p s m c cc args Ts own D tc) (hE : zE z0 A2 s) (hI : zI D tc A H0 X L κ g H locs) (hk : κ a = k) (ho : zO k = some (ci, ts)) (ht : ts[j]? = some t)
    (hin : ∀ w ∈ u_ws C T N, w ∈ Ts) (ty0 : Nat → FieldType) (hty : ∀ k, k < N → parseFieldDescriptor (T k).2.2.1 = some (ty0 k)) (hnm : ∀ a, a < N → ∀ b, b < N → a ≠ b → (T a).2.1 ≠ (T b).2.1) (hc : vwCl[ci]? = some (C, T, N)) (hj : j < N)
    (hlink : (Cond.fieldLinkNest own index ref (T j).2.1 (T j).2.2.1 host) ∈ tables_1) (hsame : ∀ x, s.fieldFound? (T j).1 (T j).2.1 (T j).2.2.1 = some x → s.fieldFound? ref (T j).2.1 (T j).2.2.1 = some x) (hfin : (T j).2.2.2 = false)
    {ty : FieldType} (hd : parseFieldDescriptor (T j).2.2.1 = some ty) (hn : narrow ty v = v) (hfit : fits ty v = true) (hv : zv κ g' a j t v) (hg : ∀ b i, (b ≠ a ∨ i ≠ j) → g' b i = g b i)
    (hdg : decode cc pc = .ok (.putfield index, 3)) (kk : ∀ (H1 : Heap) (locs1 : List Loc), zI D tc A H0 X L κ g' H1 locs1 → W p l e R s m args below meth c H1 locs1 cells slots Q (F0 m (pc + 3) ls rest)) : W p l e R s m args below meth c H locs cells slots Q (F0 m pc ls (v :: .ref a :: rest)) := by
  obtain ⟨hx, hb, hts, hown, hK⟩ := hM
  obtain ⟨hA, hS, f, hP, hD, hT⟩ := hI
  have hlt : κ a < 99 := by rw [hk]; exact zO_lt ho
  obtain ⟨haL, hcc⟩ := hT a hlt
  rw [hk] at hcc
  rcases hcc with ⟨ci', ts', fs, h1, h2, h3, h4⟩ | ⟨h0, -⟩
  · cases h1.symm.trans ho
    have hjl : j < fs.length := by rw [h3]; exact (List.getElem?_eq_some_iff.mp ht).1
    obtain ⟨q0, hq⟩ := va_pl_get (X := X) (f := f) haL
    have hq' := hq
    rw [h2] at hq
    refine va_putN hx hb hts hin ty0 hty hnm hown hK hP hD hS q0 hq hc j hj (va_Nw.use rfl (hE.1 _ hlink rfl)) hsame hfin hd hn hfit hjl hdg (fun H1 locs1 hP1 hD1 hS1 => ?_)
    rw [va_pl_set hD haL hq'] at hP1 hD1
    refine kk H1 locs1 ⟨hA, hS1, _, hP1, hD1, fun b hb9 => ?_⟩
    obtain ⟨hbL, hcb⟩ := hT b hb9
    refine ⟨hbL, ?_⟩
    by_cases hba : b = a
    · subst hba
      rw [va_up_self, hk]
      refine Or.inl ⟨ci, ts, fs.set j v, ho, rfl, by rw [List.length_set]; exact h3, fun i t' v' e1 e2 => ?_⟩
      by_cases hij : i = j
      · subst hij
        rw [List.getElem?_set_self hjl] at e2
        cases e2
        cases ht.symm.trans e1
        exact hv
      · rw [List.getElem?_set_ne (Ne.symm hij)] at e2
        exact zv_g (h4 i t' v' e1 e2) (hg b i (Or.inr hij))
    · rw [va_up_ne _ _ hba]
      exact zc_g hcb (fun i => hg b i (Or.inl hba))
  · rw [ho] at h0
    cases h0
/-- a cast of an object of the pool -/
theorem z_cast {nm : String} {A2 : Nat → Prop} {z0 : Nat} (hM : zM p s m c cc args Ts own D tc) (hE : zE z0 A2 s) (hI : zI D tc A H0 X L κ g H locs) (hk : κ a = k) (ho : zO k = some (ci, ts)) (hc : vwCl[ci]? = some (C, T, N)) (hlink : Cond.classLink own index nm ∈ Ts) (hca : Cond.castable C nm ∈ tables_1) (hdg : decode cc pc = .ok (.checkcast index, 3))
    (kk : W p l e R s m args below meth c H locs cells slots Q (F0 m (pc + 3) ls (.ref a :: rest))) : W p l e R s m args below meth c H locs cells slots Q (F0 m pc ls (.ref a :: rest)) := by
  have hr := z_recv hM.2.2.2.2 hI hk ho hc
  obtain ⟨hx, hb, hts, hown, hK⟩ := hM
  exact va_castY hx hb hown (hts _ hlink) (hE.1 _ hca rfl) hr hdg kk
end ZROWS
