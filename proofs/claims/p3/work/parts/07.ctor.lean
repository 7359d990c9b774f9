/-! CELLS OF THE WALK'S OWN, ahead of the pool: made, written, put into the pool -/
def zExt (κ : Nat → Nat) (g : Nat → Nat → Value) (κ2 : Nat → Nat) (g2 : Nat → Nat → Value) : Prop := (∀ a, κ a < 99 → κ2 a = κ a) ∧ ∀ a j, κ a < 99 → g2 a j = g a j
theorem zExt.rf {κ : Nat → Nat} {g : Nat → Nat → Value} : zExt κ g κ g := ⟨fun _ _ => rfl, fun _ _ _ => rfl⟩
theorem zExt.tr {κ κ2 κ3 : Nat → Nat} {g g2 g3 : Nat → Nat → Value} (h : zExt κ g κ2 g2) (h2 : zExt κ2 g2 κ3 g3) : zExt κ g κ3 g3 :=
  ⟨fun a ha => (h2.1 a (by rw [h.1 a ha]; exact ha)).trans (h.1 a ha), fun a j ha => (h2.2 a j (by rw [h.1 a ha]; exact ha)).trans (h.2 a j ha)⟩
theorem zExt.k {κ κ2 : Nat → Nat} {g g2 : Nat → Nat → Value} (h : zExt κ g κ2 g2) {a k : Nat} (hk : κ a = k) (h9 : k < 99) : κ2 a = k := (h.1 a (by rw [hk]; exact h9)).trans hk
theorem zExt.g {κ κ2 : Nat → Nat} {g g2 : Nat → Nat → Value} (h : zExt κ g κ2 g2) {a j k : Nat} {v : Value} (hk : κ a = k) (h9 : k < 99) (hv : g a j = v) : g2 a j = v := (h.2 a j (by rw [hk]; exact h9)).trans hv
theorem zO_t {k : Nat} {q : Nat × List (Nat × Nat)} (h : zO k = some q) {j : Nat} {t : Nat × Nat} (ht : q.2[j]? = some t) : t.2 < 99 := by
  have hm := List.mem_of_getElem? ht
  have hk := zO_lt h
  have key : ∀ k : Nat, k < 99 → ∀ q, zO k = some q → ∀ t ∈ q.2, t.2 < 99 := by
    intro k hk q hq
    by_cases h15 : k < 15
    · have : ∀ k : Nat, k < 15 → ((zO k).map (fun q => q.2.all (fun t => decide (t.2 < 99)))).getD true = true := by decide +kernel
      have h1 := this k h15
      rw [hq] at h1
      intro t ht
      have := List.all_eq_true.mp h1 t ht
      simpa using this
    · obtain ⟨j, rfl⟩ : ∃ j, k = j + 15 := ⟨k - 15, by omega⟩
      simp [zO] at hq
  exact key k hk q h t hm
theorem zR_t {k ti n z : Nat} {t : Nat × Nat} (h : zR k = some (ti, n, z, t)) : t.2 < 99 := by
  have hk := zR_lt h
  have key : ∀ k : Nat, k < 99 → ((zR k).map (fun q => decide (q.2.2.2.2 < 99))).getD true = true := by decide +kernel
  have h1 := key k hk
  rw [h] at h1
  simpa using h1
theorem zv_k {κ κ2 : Nat → Nat} {g : Nat → Nat → Value} {a j : Nat} {t : Nat × Nat} {v : Value} (h : zv κ g a j t v) (ht : t.2 < 99) (hk : ∀ r, κ r < 99 → κ2 r = κ r) : zv κ2 g a j t v := by
  have h9 : ∀ r, κ r = t.2 → κ2 r = t.2 := fun r hr => (hk r (by rw [hr]; exact ht)).trans hr
  unfold zv at h ⊢
  split at h
  all_goals first
    | exact h.elim
    | exact h
    | exact h.elim (fun r hr => ⟨r, hr.1, h9 r hr.2⟩)
    | exact h.elim Or.inl (fun hh => hh.elim (fun r hr => Or.inr ⟨r, hr.1, h9 r hr.2⟩))
    | exact ⟨h.1, h.2.elim (fun r hr => ⟨r, hr.1, h9 r hr.2⟩)⟩
    | exact ⟨h.1, h.2.elim Or.inl (fun hh => hh.elim (fun r hr => Or.inr ⟨r, hr.1, h9 r hr.2⟩))⟩
theorem zc_k {tc : Nat → ClassId} {κ κ2 : Nat → Nat} {g g2 : Nat → Nat → Value} {a k : Nat} {e : va_E} (h : zc tc κ g a k e) (hk : ∀ r, κ r < 99 → κ2 r = κ r) (hg : ∀ j, g2 a j = g a j) : zc tc κ2 g2 a k e := by
  refine zc_g (g := g) ?_ hg
  rcases h with ⟨ci, ts, fs, h1, h2, h3, h4⟩ | ⟨h0, ti, n, z, t, hv, h1, h2, h3⟩
  · exact Or.inl ⟨ci, ts, fs, h1, h2, h3, fun j t v a1 a2 => zv_k (h4 j t v a1 a2) (zO_t h1 a1) hk⟩
  · exact Or.inr ⟨h0, ti, n, z, t, hv, h1, h2, fun j hj => zv_k (h3 j hj) (zR_t h1) hk⟩
section ZCT
variable {p : Program} {l : Launch} {e : Env} {R : Room} {s : State} {m : MethodId} {args : Array Value} {below : List Frame} {meth : Method} {c : Code} {H : Heap} {locs : List Loc} {cells slots mc ms : Nat} {Q : State → Prop}
variable {cc : ByteArray} {a0 : Array Value} {pc : Nat} {ls : Array Slot} {rest st0 : List Value} {D : va_G} {tc : Nat → ClassId} {A : Nat → Prop} {H0 : Heap} {X : va_W} {L : List Nat} {κ : Nat → Nat} {g : Nat → Nat → Value} {Ts : List Cond} {own : String} {z0 : Nat}
variable {a k ci j N index i : Nat} {fs : List Value} {C ref : String} {T : u_T}
/-- the first of the walk's own cells goes into the pool -/
theorem z_pool1 {e1 : va_E} {g2 : Nat → Nat → Value} (hI : zI D tc A H0 ((a, e1) :: X) L κ g H locs) (hk9 : k < 99) (he : zc tc (va_up κ a k) g2 a k e1) (hg : ∀ b j, b ≠ a → g2 b j = g b j) : zExt κ g (va_up κ a k) g2 ∧ zI D tc A H0 X (L ++ [a]) (va_up κ a k) g2 H locs := by
  obtain ⟨hA, hS, f, hP, hD, hT⟩ := hI
  have haL : a ∉ L := by
    intro h
    obtain ⟨i, hi⟩ := List.getElem?_of_mem h
    have h2 : ((a, e1) :: X ++ va_pl L f)[1 + X.length + i]? = some (a, f a) := by
      rw [List.getElem?_append_right (by simp; omega)]
      simp only [List.length_cons, va_pl]
      rw [show 1 + X.length + i - (X.length + 1) = i by omega, List.getElem?_map, hi]
      rfl
    have := hD.1 0 _ _ _ (show ((a, e1) :: X ++ va_pl L f)[0]? = some (a, e1) from rfl) h2 rfl
    omega
  have hfr : ∀ b, κ b < 99 → b ≠ a := fun b hb e2 => haL (e2 ▸ (hT b hb).1)
  have hx : ∀ r, κ r < 99 → va_up κ a k r = κ r := fun r hr => va_up_ne _ _ (hfr r hr)
  have hlist : X ++ va_pl (L ++ [a]) (va_up f a e1) = (X ++ va_pl L f) ++ [(a, e1)] := by rw [← va_pl_push haL, List.append_assoc]
  have hg1 : ∀ (q : Nat) (x : Nat × va_E), ((X ++ va_pl L f) ++ [(a, e1)])[q]? = some x → ((a, e1) :: X ++ va_pl L f)[if q < (X ++ va_pl L f).length then q + 1 else 0]? = some x := by
    intro q x hq
    by_cases h : q < (X ++ va_pl L f).length
    · rw [if_pos h]
      rw [List.getElem?_append_left h] at hq
      exact hq
    · rw [if_neg h]
      rw [List.getElem?_append_right (by omega)] at hq
      have hz : q - (X ++ va_pl L f).length < 1 := (List.getElem?_eq_some_iff.mp hq).1
      rw [show q - (X ++ va_pl L f).length = 0 by omega] at hq
      exact hq
  refine ⟨⟨hx, fun b j hb => hg b j (hfr b hb)⟩, hA, hS, va_up f a e1, ?_, ?_, fun b hb => ?_⟩
  · rw [hlist]
    exact hP.by _ hg1
  · rw [hlist]
    refine hD.by _ hg1 (fun i j hi hj e2 => ?_)
    rw [List.length_append, List.length_singleton] at hi hj
    by_cases h1 : i < (X ++ va_pl L f).length <;> by_cases h2 : j < (X ++ va_pl L f).length <;> simp only [h1, h2, if_true, if_false] at e2 <;> omega
  · by_cases hba : b = a
    · subst hba
      refine ⟨List.mem_append_right _ List.mem_cons_self, ?_⟩
      rw [va_up_self, va_up_self]
      exact he
    · rw [va_up_ne _ _ hba] at hb ⊢
      obtain ⟨h1, h2⟩ := hT b hb
      refine ⟨List.mem_append_left _ h1, ?_⟩
      rw [va_up_ne _ _ hba]
      exact zc_k h2 hx (fun j => hg b j hba)
/-- cells of the walk's own, left behind -/
theorem z_drop (hI : zI D tc A H0 X L κ g H locs) : zI D tc A H0 [] L κ g H locs := by
  obtain ⟨hA, hS, f, hP, hD, hT⟩ := hI
  exact ⟨hA, hS, f, hP.part [] rfl, hD.part [] rfl rfl, hT⟩
theorem z_endG {t : State} (hK : va_K D vwCl (zTy tc) s) (hI : zI D tc A s.heap X L κ g H locs) (ht : t.heap = H) (hW : s.WarmedH t.vm) : zB D tc A X (L, κ, g) t := by
  obtain ⟨hA, hS, f, hP, hD, hT⟩ := hI
  exact ⟨va_K.moved hW.alike hK, f, by rw [ht]; exact hP, hD, hT⟩
theorem z_new (hM : zM p s m c cc args Ts own D tc) (hI : zI D tc A H0 X L κ g H locs) (hin : ∀ w ∈ u_ws C T N, w ∈ Ts) (ty : Nat → FieldType) (hty : ∀ k, k < N → parseFieldDescriptor (T k).2.2.1 = some (ty k)) (hcl : Cond.classLink own index C ∈ Ts) (hinst : Cond.instantiable C N ∈ Ts) (hini : Cond.initialized C ∈ Ts)
    (hc : vwCl[ci]? = some (C, T, N)) (fs : List Value) (hfs : ∀ j, j < N → defaultValue (ty j) = vp_V fs j) (hcells : cells + 1 ≤ R.cells) (hslots : slots + N ≤ R.slots) (hdg : decode cc pc = .ok (.new index, 3))
    (kk : ∀ (q : Nat) (H1 : Heap), zI D tc A H0 (X ++ [(q, .inr (ci, fs))]) L κ g H1 locs → W p l e R s m args below meth c H1 locs (cells + 1) (slots + N) Q (F0 m (pc + 3) ls (.ref q :: rest))) : W p l e R s m args below meth c H locs cells slots Q (F0 m pc ls rest) := by
  obtain ⟨hx, hb, hts, hown, hK⟩ := hM
  obtain ⟨hA, hS, f, hP, hD, hT⟩ := hI
  exact va_new hx hb hts hin ty hty hown (hts _ hcl) (hts _ hinst) (hts _ hini) hK hP hD hS hA hc hfs hcells hslots hdg (fun q H1 hP1 hD1 hS1 => kk q H1 ⟨hA, hS1, f, hP1.swap, hD1.swap, hT⟩)
theorem z_newa {atype : ArrayType} {ty : FieldType} {ti n : Nat} {nv : Int32} (hM : zM p s m c cc args Ts own D tc) (hI : zI D tc A H0 X L κ g H locs) (harr : Cond.arrayClass (newarray.typeOf atype) ∈ Ts) (hty : newarray.typeOf atype = ty) (hti : (zTy tc)[ti]? = some (tc ti, ty)) (hpr : ∀ C, ty ≠ .object C) (a1 : vp_A) (ha : ∀ cA : ClassId, vp_cell cA a1 = arrV cA n (fun _ => defaultValue ty))
    (hn : ¬ nv < 0) (hN : nv.toNatClampNeg = n) (hbytes : n * componentBytes ty ≤ 536870912) (hcells : cells + 1 ≤ R.cells) (hslots : slots + n ≤ R.slots) (hdg : decode cc pc = .ok (.newarray atype, 2))
    (kk : ∀ (q : Nat) (H1 : Heap), zI D tc A H0 (X ++ [(q, .inl (tc ti, a1))]) L κ g H1 locs → W p l e R s m args below meth c H1 locs (cells + 1) (slots + n) Q (F0 m (pc + 2) ls (.ref q :: rest))) : W p l e R s m args below meth c H locs cells slots Q (F0 m pc ls (.int nv :: rest)) := by
  obtain ⟨hx, hb, hts, hown, hK⟩ := hM
  obtain ⟨hA, hS, f, hP, hD, hT⟩ := hI
  refine va_newa hx hb (hts _ harr) hty hK hP hD hS hA ha hn hN hbytes hcells hslots hdg (fun q cA H1 hK1 hP1 hD1 hS1 => ?_)
  have e1 : cA = tc ti := by
    have h1 := (hK1.2 (zTy tc).length (cA, ty) (by rw [List.getElem?_append_right (Nat.le_refl _), Nat.sub_self]; rfl)).2
    have h2 := (hK.2 ti _ hti).2
    cases ty <;> first | (exact Option.some.inj (h1.symm.trans h2)) | (exact absurd rfl (hpr _))
  subst e1
  exact kk q H1 ⟨hA, hS1, f, hP1.swap, hD1.swap, hT⟩
theorem z_putXF {v : Value} {ty : FieldType} (hM : zM p s m c cc args Ts own D tc) (hI : zI D tc A H0 X L κ g H locs) (hin2 : meth.name = "<init>") (hX : X[i]? = some (a, .inr (ci, fs))) (hin : ∀ w ∈ u_ws C T N, w ∈ Ts) (ty0 : Nat → FieldType) (hty : ∀ k, k < N → parseFieldDescriptor (T k).2.2.1 = some (ty0 k)) (hnm : ∀ a, a < N → ∀ b, b < N → a ≠ b → (T a).2.1 ≠ (T b).2.1) (hc : vwCl[ci]? = some (C, T, N)) (hj : j < N)
    (hlink : (Cond.fieldLink own index ref (T j).2.1 (T j).2.2.1) ∈ Ts) (hsame : ∀ x, s.fieldFound? (T j).1 (T j).2.1 (T j).2.2.1 = some x → s.fieldFound? ref (T j).2.1 (T j).2.2.1 = some x) (hfin : (T j).2.2.2 = true) (hdecl : (T j).1 = own) (hd : parseFieldDescriptor (T j).2.2.1 = some ty) (hn : narrow ty v = v) (hfit : fits ty v = true) (hl : j < fs.length)
    (hdg : decode cc pc = .ok (.putfield index, 3)) (kk : ∀ (H1 : Heap) (locs1 : List Loc), zI D tc A H0 (X.set i (a, .inr (ci, fs.set j v))) L κ g H1 locs1 → W p l e R s m args below meth c H1 locs1 cells slots Q (F0 m (pc + 3) ls rest)) : W p l e R s m args below meth c H locs cells slots Q (F0 m pc ls (v :: .ref a :: rest)) := by
  obtain ⟨hx, hb, hts, hown, hK⟩ := hM
  obtain ⟨hA, hS, f, hP, hD, hT⟩ := hI
  have hlt : i < X.length := (List.getElem?_eq_some_iff.mp hX).1
  refine va_putF hx hb hts hin ty0 hty hnm hown hK hP hD hS i (by rw [List.getElem?_append_left hlt]; exact hX) hc j hj (hts _ hlink) hsame hfin hin2 hdecl hd hn hfit hl hdg (fun H1 locs1 hP1 hD1 hS1 => ?_)
  rw [List.set_append_left _ _ hlt] at hP1 hD1
  exact kk H1 locs1 ⟨hA, hS1, f, hP1, hD1, hT⟩
theorem z_putX {v : Value} {ty : FieldType} (hM : zM p s m c cc args Ts own D tc) (hI : zI D tc A H0 X L κ g H locs) (hX : X[i]? = some (a, .inr (ci, fs))) (hin : ∀ w ∈ u_ws C T N, w ∈ Ts) (ty0 : Nat → FieldType) (hty : ∀ k, k < N → parseFieldDescriptor (T k).2.2.1 = some (ty0 k)) (hnm : ∀ a, a < N → ∀ b, b < N → a ≠ b → (T a).2.1 ≠ (T b).2.1) (hc : vwCl[ci]? = some (C, T, N)) (hj : j < N)
    (hlink : (Cond.fieldLink own index ref (T j).2.1 (T j).2.2.1) ∈ Ts) (hsame : ∀ x, s.fieldFound? (T j).1 (T j).2.1 (T j).2.2.1 = some x → s.fieldFound? ref (T j).2.1 (T j).2.2.1 = some x) (hfin : (T j).2.2.2 = false) (hd : parseFieldDescriptor (T j).2.2.1 = some ty) (hn : narrow ty v = v) (hfit : fits ty v = true) (hl : j < fs.length)
    (hdg : decode cc pc = .ok (.putfield index, 3)) (kk : ∀ (H1 : Heap) (locs1 : List Loc), zI D tc A H0 (X.set i (a, .inr (ci, fs.set j v))) L κ g H1 locs1 → W p l e R s m args below meth c H1 locs1 cells slots Q (F0 m (pc + 3) ls rest)) : W p l e R s m args below meth c H locs cells slots Q (F0 m pc ls (v :: .ref a :: rest)) := by
  obtain ⟨hx, hb, hts, hown, hK⟩ := hM
  obtain ⟨hA, hS, f, hP, hD, hT⟩ := hI
  have hlt : i < X.length := (List.getElem?_eq_some_iff.mp hX).1
  refine va_put hx hb hts hin ty0 hty hnm hown hK hP hD hS i (by rw [List.getElem?_append_left hlt]; exact hX) hc j hj (hts _ hlink) hsame hfin hd hn hfit hl hdg (fun H1 locs1 hP1 hD1 hS1 => ?_)
  rw [List.set_append_left _ _ hlt] at hP1 hD1
  exact kk H1 locs1 ⟨hA, hS1, f, hP1, hD1, hT⟩
theorem z_getX {v : Value} (hM : zM p s m c cc args Ts own D tc) (hI : zI D tc A H0 X L κ g H locs) (hX : X[i]? = some (a, .inr (ci, fs))) (hin : ∀ w ∈ u_ws C T N, w ∈ Ts) (hc : vwCl[ci]? = some (C, T, N)) (hj : j < N)
    (hlink : (Cond.fieldLink own index ref (T j).2.1 (T j).2.2.1) ∈ Ts) (hsame : ∀ x, s.fieldFound? (T j).1 (T j).2.1 (T j).2.2.1 = some x → s.fieldFound? ref (T j).2.1 (T j).2.2.1 = some x) (hv : fs[j]? = some v)
    (hdg : decode cc pc = .ok (.getfield index, 3)) (kk : W p l e R s m args below meth c H locs cells slots Q (F0 m (pc + 3) ls (v :: rest))) : W p l e R s m args below meth c H locs cells slots Q (F0 m pc ls (.ref a :: rest)) := by
  obtain ⟨hx, hb, hts, hown, hK⟩ := hM
  obtain ⟨hA, hS, f, hP, hD, hT⟩ := hI
  have hlt : i < X.length := (List.getElem?_eq_some_iff.mp hX).1
  exact va_get hx hb hts hin hown hK hP i (by rw [List.getElem?_append_left hlt]; exact hX) hc j hj (hts _ hlink) hsame hv hdg kk
theorem z_cvX {post : zS → Prop} {Xc wr rx : va_W} (isC isR : List Nat) (hC : isC.map (fun i => X[i]?) = Xc.map some) (hR : isR.map (fun i => X[i]?) = wr.map some) (hnC : va_nd isC = true) (hn : va_nd isR = true) (hdis : ∀ i ∈ isR, i ∉ isC) (hI : zI D tc A s.heap X L κ g H locs) (hr : va_Run p l e R s m args below meth c H locs cells slots mc ms (F0 m pc ls st0) rest (va_Qv post (fun (u : zS) (t : State) => zB D tc (zA Xc L H.size) rx u t) (zA Xc L H.size) a0) (zA Xc L H.size))
    (kk : ∀ (u : zS) (H1 : Heap) (locs1 : List Loc), post u → zI D tc A s.heap (wr ++ rx) u.1 u.2.1 u.2.2 H1 locs1 → W p l e R s m args below meth c H1 locs1 (cells + mc) (slots + ms) Q (F0 m (pc + 3) ls rest)) : W p l e R s m args below meth c H locs cells slots Q (F0 m pc ls st0) :=
  va_callv hr hI.2.1 (fun q _ h => z_sub hI isC hnC hC q h) (z_sub hI isC hnC hC) (fun u t H1 locs1 ht hvm hw hB hz1 hk1 hS1 => kk u H1 locs1 hw (z_backX hI isC isR hC hR hnC hn hdis hk1 ht hB hS1))
end ZCT
