theorem z_inc (i : Nat) : nI i + Int32.ofInt 1 = nI (i + 1) := (nI_succ i).symm
theorem z_dec (i : Nat) : nI i + Int32.ofInt (-1) = nI i - 1 := by rw [Int32.sub_eq_add_neg]; rfl
theorem z_inP {i n : Nat} (h : i ≤ n) (hn : n < 2 ^ 31) (h0 : ¬ nI i - 1 < 0) : vp_in (nI i - 1) n := by
  rcases i with _ | j
  · exact absurd (by decide) h0
  · rw [nI_pred]; exact vp_in_nI (by omega) hn
theorem z_pos {i n : Nat} (h : i ≤ n) (hn : n < 2 ^ 31) (h0 : ¬ nI i - 1 < 0) : 0 < i := by
  rcases i with _ | j
  · exact absurd (by decide) h0
  · exact Nat.succ_pos j
theorem vp_in_c (k n : Nat) (h : k < n ∧ n < 2 ^ 31) : vp_in (OfNat.ofNat k) n := vp_in_nI h.1 h.2
theorem zv_b {κ : Nat → Nat} {g : Nat → Nat → Value} {a j : Nat} {z : Nat} {v : Value} (h : zv κ g a j (6, z) v) : ∃ i : Int32, v = .int i ∧ (i = 0 ∨ i = 1) := by
  rcases h with h | h
  · exact ⟨0, h, Or.inl rfl⟩
  · exact ⟨1, h, Or.inr rfl⟩
theorem zv_tb {κ : Nat → Nat} {g : Nat → Nat → Value} {a j : Nat} {z : Nat} {v : Value} (h : zv κ g a j (16, z) v) : v = g a j ∧ ∃ i : Int32, v = .int i ∧ (i = 0 ∨ i = 1) := by
  obtain ⟨h0, h | h⟩ := h
  · exact ⟨h0, 0, h, Or.inl rfl⟩
  · exact ⟨h0, 1, h, Or.inr rfl⟩
theorem z_bv {i : Int32} (h : i = 0 ∨ i = 1) : Value.int i = .int 0 ∨ Value.int i = .int 1 := by rcases h with rfl | rfl <;> simp
theorem z_bn {i : Int32} (h : i = 0 ∨ i = 1) : narrow .boolean (.int i) = .int i := by rcases h with rfl | rfl <;> decide
theorem z_bf {i : Int32} (h : i = 0 ∨ i = 1) : fits .boolean (.int i) = true := by rcases h with rfl | rfl <;> decide
section ZCALLS
variable {p : Program} {l : Launch} {e : Env} {R : Room} {s : State} {m : MethodId} {args : Array Value} {below : List Frame} {meth : Method} {c : Code} {H : Heap} {locs : List Loc} {cells slots mc ms : Nat} {Q : State → Prop}
variable {a : Array Value} {pc : Nat} {ls : Array Slot} {rest st0 : List Value} {D : va_G} {tc : Nat → ClassId} {A : Nat → Prop} {L : List Nat} {κ : Nat → Nat} {g : Nat → Nat → Value}
theorem z_ci {post : Int32 → zS → Prop} (hI : zI D tc A s.heap [] L κ g H locs) (hr : va_Run p l e R s m args below meth c H locs cells slots mc ms (F0 m pc ls st0) rest (va_Qi post (fun (u : zS) (t : State) => zB D tc (zA [] L H.size) [] u t) (zA [] L H.size) a) (zA [] L H.size))
    (kk : ∀ (r : Int32) (u : zS) (H1 : Heap) (locs1 : List Loc), post r u → zI D tc A s.heap [] u.1 u.2.1 u.2.2 H1 locs1 → W p l e R s m args below meth c H1 locs1 (cells + mc) (slots + ms) Q (F0 m (pc + 3) ls (.int r :: rest))) : W p l e R s m args below meth c H locs cells slots Q (F0 m pc ls st0) :=
  va_calli hr hI.2.1 (fun q _ h => z_sub hI [] rfl rfl q h) (z_sub hI [] rfl rfl) (fun r u t H1 locs1 ht hvm hw hB hz1 hk1 hS1 => kk r u H1 locs1 hw (z_back hI ht hB hS1))
theorem z_cl {post : Int64 → zS → Prop} (hI : zI D tc A s.heap [] L κ g H locs) (hr : va_Run p l e R s m args below meth c H locs cells slots mc ms (F0 m pc ls st0) rest (va_Ql post (fun (u : zS) (t : State) => zB D tc (zA [] L H.size) [] u t) (zA [] L H.size) a) (zA [] L H.size))
    (kk : ∀ (r : Int64) (u : zS) (H1 : Heap) (locs1 : List Loc), post r u → zI D tc A s.heap [] u.1 u.2.1 u.2.2 H1 locs1 → W p l e R s m args below meth c H1 locs1 (cells + mc) (slots + ms) Q (F0 m (pc + 3) ls (.long r :: rest))) : W p l e R s m args below meth c H locs cells slots Q (F0 m pc ls st0) :=
  va_calll hr hI.2.1 (fun q _ h => z_sub hI [] rfl rfl q h) (z_sub hI [] rfl rfl) (fun r u t H1 locs1 ht hvm hw hB hz1 hk1 hS1 => kk r u H1 locs1 hw (z_back hI ht hB hS1))
theorem z_cv {post : zS → Prop} (hI : zI D tc A s.heap [] L κ g H locs) (hr : va_Run p l e R s m args below meth c H locs cells slots mc ms (F0 m pc ls st0) rest (va_Qv post (fun (u : zS) (t : State) => zB D tc (zA [] L H.size) [] u t) (zA [] L H.size) a) (zA [] L H.size))
    (kk : ∀ (u : zS) (H1 : Heap) (locs1 : List Loc), post u → zI D tc A s.heap [] u.1 u.2.1 u.2.2 H1 locs1 → W p l e R s m args below meth c H1 locs1 (cells + mc) (slots + ms) Q (F0 m (pc + 3) ls rest)) : W p l e R s m args below meth c H locs cells slots Q (F0 m pc ls st0) :=
  va_callv hr hI.2.1 (fun q _ h => z_sub hI [] rfl rfl q h) (z_sub hI [] rfl rfl) (fun u t H1 locs1 ht hvm hw hB hz1 hk1 hS1 => kk u H1 locs1 hw (z_back hI ht hB hS1))
end ZCALLS
/-! the same world with its cells at hand: for a method that reads a field twice -/
def zF (f : Nat → va_E) (a j : Nat) : Value := match f a with
  | .inr o => o.2.getD j .null
  | .inl _ => .null
def zIF (D : va_G) (tc : Nat → ClassId) (A : Nat → Prop) (H0 : Heap) (X : va_W) (L : List Nat) (κ : Nat → Nat) (g : Nat → Nat → Value) (f : Nat → va_E) (H : Heap) (locs : List Loc) : Prop :=
  (∀ q, H0.size ≤ q → A q) ∧ va_S A H0 H locs ∧ va_P D vwCl (X ++ va_pl L f) H ∧ va_D A (X ++ va_pl L f) ∧ zT tc L κ g f
theorem zIF.to {D : va_G} {tc : Nat → ClassId} {A : Nat → Prop} {H0 : Heap} {X : va_W} {L : List Nat} {κ : Nat → Nat} {g : Nat → Nat → Value} {f : Nat → va_E} {H : Heap} {locs : List Loc} (h : zIF D tc A H0 X L κ g f H locs) : zI D tc A H0 X L κ g H locs := ⟨h.1, h.2.1, f, h.2.2⟩
theorem zI.ex {D : va_G} {tc : Nat → ClassId} {A : Nat → Prop} {H0 : Heap} {X : va_W} {L : List Nat} {κ : Nat → Nat} {g : Nat → Nat → Value} {H : Heap} {locs : List Loc} (h : zI D tc A H0 X L κ g H locs) : ∃ f, zIF D tc A H0 X L κ g f H locs := by
  obtain ⟨h1, h2, f, h3⟩ := h
  exact ⟨f, h1, h2, h3⟩
section ZFROWS
variable {p : Program} {l : Launch} {e : Env} {R : Room} {s : State} {m : MethodId} {args : Array Value} {below : List Frame} {meth : Method} {c : Code} {H : Heap} {locs : List Loc} {cells slots : Nat} {Q : State → Prop}
variable {cc : ByteArray} {pc : Nat} {ls : Array Slot} {rest : List Value} {D : va_G} {tc : Nat → ClassId} {A : Nat → Prop} {H0 : Heap} {X : va_W} {L : List Nat} {κ : Nat → Nat} {g : Nat → Nat → Value} {Ts : List Cond} {own : String} {f : Nat → va_E}
variable {a k ci j N index : Nat} {ts : List (Nat × Nat)} {t : Nat × Nat} {C ref : String} {T : u_T}
theorem z_getF (hM : zM p s m c cc args Ts own D tc) (hI : zIF D tc A H0 X L κ g f H locs) (hk : κ a = k) (ho : zO k = some (ci, ts)) (ht : ts[j]? = some t)
    (hin : ∀ w ∈ u_ws C T N, w ∈ Ts) (hc : vwCl[ci]? = some (C, T, N)) (hj : j < N) (hlink : (Cond.fieldLink own index ref (T j).2.1 (T j).2.2.1) ∈ Ts) (hsame : ∀ x, s.fieldFound? (T j).1 (T j).2.1 (T j).2.2.1 = some x → s.fieldFound? ref (T j).2.1 (T j).2.2.1 = some x)
    (hdg : decode cc pc = .ok (.getfield index, 3)) (kk : ∀ v, zF f a j = v → zv κ g a j t v → W p l e R s m args below meth c H locs cells slots Q (F0 m (pc + 3) ls (v :: rest))) : W p l e R s m args below meth c H locs cells slots Q (F0 m pc ls (.ref a :: rest)) := by
  obtain ⟨hx, hb, hts, hown, hK⟩ := hM
  obtain ⟨-, -, hP, -, hT⟩ := hI
  have hlt : κ a < 99 := by rw [hk]; exact zO_lt ho
  obtain ⟨haL, hcc⟩ := hT a hlt
  rw [hk] at hcc
  rcases hcc with ⟨ci', ts', fs, h1, h2, h3, h4⟩ | ⟨h0, -⟩
  · cases h1.symm.trans ho
    have hjl : j < fs.length := by rw [h3]; exact (List.getElem?_eq_some_iff.mp ht).1
    obtain ⟨v, hv⟩ : ∃ v, fs[j]? = some v := ⟨fs[j], List.getElem?_eq_getElem hjl⟩
    obtain ⟨q0, hq⟩ := va_pl_get (X := X) (f := f) haL
    rw [h2] at hq
    exact va_get hx hb hts hin hown hK hP q0 hq hc j hj (hts _ hlink) hsame hv hdg (kk v (by simp [zF, h2, hv]) (h4 j t v ht hv))
  · rw [ho] at h0
    cases h0
theorem z_putF {v : Value} (hM : zM p s m c cc args Ts own D tc) (hI : zIF D tc A H0 X L κ g f H locs) (hk : κ a = k) (ho : zO k = some (ci, ts)) (ht : ts[j]? = some t)
    (hin : ∀ w ∈ u_ws C T N, w ∈ Ts) (ty0 : Nat → FieldType) (hty : ∀ k, k < N → parseFieldDescriptor (T k).2.2.1 = some (ty0 k)) (hnm : ∀ a, a < N → ∀ b, b < N → a ≠ b → (T a).2.1 ≠ (T b).2.1) (hc : vwCl[ci]? = some (C, T, N)) (hj : j < N)
    (hlink : (Cond.fieldLink own index ref (T j).2.1 (T j).2.2.1) ∈ Ts) (hsame : ∀ x, s.fieldFound? (T j).1 (T j).2.1 (T j).2.2.1 = some x → s.fieldFound? ref (T j).2.1 (T j).2.2.1 = some x) (hfin : (T j).2.2.2 = false)
    {ty : FieldType} (hd : parseFieldDescriptor (T j).2.2.1 = some ty) (hn : narrow ty v = v) (hfit : fits ty v = true) (hv : zv κ g a j t v)
    (hdg : decode cc pc = .ok (.putfield index, 3)) (kk : ∀ (f1 : Nat → va_E) (H1 : Heap) (locs1 : List Loc), zIF D tc A H0 X L κ g f1 H1 locs1 → zF f1 a j = v → W p l e R s m args below meth c H1 locs1 cells slots Q (F0 m (pc + 3) ls rest)) : W p l e R s m args below meth c H locs cells slots Q (F0 m pc ls (v :: .ref a :: rest)) := by
  obtain ⟨hx, hb, hts, hown, hK⟩ := hM
  obtain ⟨hA, hS, hP, hD, hT⟩ := hI
  have hlt : κ a < 99 := by rw [hk]; exact zO_lt ho
  obtain ⟨haL, hcc⟩ := hT a hlt
  rw [hk] at hcc
  rcases hcc with ⟨ci', ts', fs, h1, h2, h3, h4⟩ | ⟨h0, -⟩
  · cases h1.symm.trans ho
    have hjl : j < fs.length := by rw [h3]; exact (List.getElem?_eq_some_iff.mp ht).1
    obtain ⟨q0, hq⟩ := va_pl_get (X := X) (f := f) haL
    have hq' := hq
    rw [h2] at hq
    refine va_put hx hb hts hin ty0 hty hnm hown hK hP hD hS q0 hq hc j hj (hts _ hlink) hsame hfin hd hn hfit hjl hdg (fun H1 locs1 hP1 hD1 hS1 => ?_)
    rw [va_pl_set hD haL hq'] at hP1 hD1
    refine kk _ H1 locs1 ⟨hA, hS1, hP1, hD1, fun b hb9 => ?_⟩ (by simp [zF, va_up, hjl])
    obtain ⟨hbL, hcb⟩ := hT b hb9
    refine ⟨hbL, ?_⟩
    by_cases hba : b = a
    · subst hba
      rw [va_up_self, hk]
      refine Or.inl ⟨ci, ts, fs.set j v, ho, rfl, by rw [List.length_set]; exact h3, fun i t' v' e1 e2 => ?_⟩
      by_cases hij : i = j
      · subst hij
        rw [List.getElem?_set_self hjl] at e2
        cases e2
        cases ht.symm.trans e1
        exact hv
      · rw [List.getElem?_set_ne (Ne.symm hij)] at e2
        exact h4 i t' v' e1 e2
    · rw [va_up_ne _ _ hba]
      exact hcb
  · rw [ho] at h0
    cases h0
end ZFROWS
theorem z_fld {D : va_G} {tc : Nat → ClassId} {A : Nat → Prop} {H0 : Heap} {X : va_W} {L : List Nat} {κ : Nat → Nat} {g : Nat → Nat → Value} {f : Nat → va_E} {H : Heap} {locs : List Loc} {a k ci j : Nat} {ts : List (Nat × Nat)} {t : Nat × Nat} (h : zIF D tc A H0 X L κ g f H locs) (hk : κ a = k) (ho : zO k = some (ci, ts)) (ht : ts[j]? = some t) : zv κ g a j t (zF f a j) := by
  obtain ⟨-, -, hP, -, hT⟩ := h
  have hlt : κ a < 99 := by rw [hk]; exact zO_lt ho
  obtain ⟨haL, hcc⟩ := hT a hlt
  rw [hk] at hcc
  rcases hcc with ⟨ci', ts', fs, h1, h2, h3, h4⟩ | ⟨h0, -⟩
  · cases h1.symm.trans ho
    have hjl : j < fs.length := by rw [h3]; exact (List.getElem?_eq_some_iff.mp ht).1
    exact h4 j t _ ht (by simp [zF, h2, hjl])
  · rw [ho] at h0
    cases h0
theorem z_uu {v w : Value} (h : v = w) {P : Value → Prop} (h2 : P w) : P v := h ▸ h2
theorem z_lt {a b : Nat} (ha : a < 2 ^ 31) (h : ¬ nI b ≤ nI a) : a < b := Nat.lt_of_not_le fun q => h (nI_le q ha)
theorem z_ge {a b : Nat} (ha : a < 2 ^ 31) (hb : b < 2 ^ 31) (h : nI b ≤ nI a) : b ≤ a := (nI_leI hb ha).mp h
