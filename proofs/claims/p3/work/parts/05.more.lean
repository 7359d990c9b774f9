theorem zup_ne {g : Nat → Nat → Value} {a j b i : Nat} {v : Value} (h : b ≠ a ∨ i ≠ j) : zup g a j v b i = g b i := by
  unfold zup
  split
  · rename_i h2
    rcases h with h | h
    · exact absurd h2.1 h
    · exact absurd h2.2 h
  · rfl
theorem z_cn {i : Int32} (h : fits .char (.int i) = true) : narrow .char (.int i) = .int i := by
  simp only [fits, Bool.and_eq_true, decide_eq_true_eq] at h
  obtain ⟨h1, h2⟩ := h
  have e1 : (0 : Int32).toInt = 0 := by decide
  have e2 : (65535 : Int32).toInt = 65535 := by decide
  rw [Int32.le_iff_toInt_le, e1] at h1
  rw [Int32.le_iff_toInt_le, e2] at h2
  show Value.int (i.toUInt32.toUInt16.toUInt32.toInt32) = Value.int i
  congr 1
  apply Int32.toBitVec_inj.mp
  apply BitVec.eq_of_toNat_eq
  have h3 : i.toBitVec.toInt = i.toInt := rfl
  have h4 := BitVec.toInt_eq_toNat_cond i.toBitVec
  have hlt := i.toBitVec.isLt
  have h5 : i.toBitVec.toNat < 65536 := by
    rw [h3] at h4
    split at h4 <;> omega
  simp
  omega
section ZFLAST
variable {p : Program} {l : Launch} {e : Env} {R : Room} {s : State} {m : MethodId} {args : Array Value} {below : List Frame} {meth : Method} {c : Code} {H : Heap} {locs : List Loc} {cells slots : Nat} {Q : State → Prop}
variable {cc : ByteArray} {pc : Nat} {ls : Array Slot} {rest : List Value} {D : va_G} {tc : Nat → ClassId} {A : Nat → Prop} {H0 : Heap} {X : va_W} {L : List Nat} {κ : Nat → Nat} {g : Nat → Nat → Value} {Ts : List Cond} {own : String} {f : Nat → va_E}
theorem z_lastF {a n : Nat} {i : Int32} {x : Int64} {z : Nat} (hM : zM p s m c cc args Ts own D tc) (hI : zIF D tc A H0 X L κ g f H locs) {k : Nat} (hk : κ a = k) (hO : zO k = none) (hR : zR k = some (1, n, 1, (3, z))) (hin : vp_in i n) (hdg : decode cc pc = .ok (.lastore, 1))
    (kk : ∀ (f1 : Nat → va_E) (H1 : Heap) (locs1 : List Loc), zIF D tc A H0 X L κ g f1 H1 locs1 → (∀ b j, b ≠ a → zF f1 b j = zF f b j) → W p l e R s m args below meth c H1 locs1 cells slots Q (F0 m (pc + 1) ls rest)) : W p l e R s m args below meth c H locs cells slots Q (F0 m pc ls (.long x :: .int i :: .ref a :: rest)) := by
  obtain ⟨hx, hb, hts, hown, hK⟩ := hM
  obtain ⟨hA, hS, hP, hD, hT⟩ := hI
  have hlt : κ a < 99 := by rw [hk]; exact zR_lt hR
  obtain ⟨haL, hcc⟩ := hT a hlt
  rw [hk] at hcc
  rcases hcc with ⟨ci', ts', fs, h1, -⟩ | ⟨-, ti', n', z', t', hv, h1, h2, h3⟩
  · rw [hO] at h1
    cases h1
  · cases h1.symm.trans hR
    obtain ⟨h, e1, e2⟩ := h2
    obtain ⟨q0, hq⟩ := va_pl_get (X := X) (f := f) haL
    have hq' := hq
    rw [e1] at hq
    refine va_last hx hb hK hP hD hS q0 1 hq rfl hin hdg (fun H1 locs1 hP1 hD1 hS1 => ?_)
    rw [va_pl_set hD haL hq'] at hP1 hD1
    refine kk _ H1 locs1 ⟨hA, hS1, hP1, hD1, fun b hb9 => ?_⟩ (fun b j hba => by simp [zF, va_up, hba])
    obtain ⟨hbL, hcb⟩ := hT b hb9
    refine ⟨hbL, ?_⟩
    by_cases hba : b = a
    · subst hba
      rw [va_up_self, hk]
      exact Or.inr ⟨hO, 1, n, 1, (3, z), fun j => .long (vp_updL h i.toNatClampNeg x j), hR, ⟨_, rfl, fun j hj => rfl⟩, fun j hj => ⟨_, rfl⟩⟩
    · rw [va_up_ne _ _ hba]
      exact hcb
end ZFLAST
theorem z_nz {x : Int32} {v : Int64} (h : 1 ≤ x) (e : v = x.toInt64) : ¬ v = 0 := by
  intro h0
  rw [h0] at e
  have h1 : x.toInt64.toInt = x.toInt := Int32.toInt_toInt64 x
  rw [← e] at h1
  have h2 : (0 : Int64).toInt = 0 := by decide
  rw [h2] at h1
  rw [Int32.le_iff_toInt_le] at h
  have h3 : (1 : Int32).toInt = 1 := by decide
  omega
/-! ===== BEGIN .. of methods that hand back an object of the pool ===== -/
section
variable {p : Program} {l : Launch} {e : Env} {R : Room} {s : State} {m : MethodId} {args : Array Value} {below : List Frame} {meth : Method} {c : Code} {H : Heap} {locs : List Loc} {cells slots : Nat} {Q : State → Prop}
variable {mc ms : Nat} {free : Addr → Prop} {A0 A1 : Nat → Prop} {H0 : Heap} {a : Array Value} {pc : Nat} {ls : Array Slot} {st0 rest : List Value}
theorem vx_callq {S SX : Type} {post : Option Nat → S → Prop} {px : SX → Prop} {B : S → State → Prop} {BX : String → SX → State → Prop} {AX : Nat → Prop} (hr : vx_Run p l e R s m args below meth c H locs cells slots mc ms (F0 m pc ls st0) rest (va_Qq post B A1 a) (vx_X px BX AX) free) (hS : va_S A0 H0 H locs) (hA : ∀ q, q < H.size → A1 q → A0 q) (hf : ∀ q, free q → A0 q) (hAX : ∀ q, q < H.size → AX q → A0 q)
    (kx : ∀ (E : String) (ce : Cell) (q9 : Addr) (u : SX) (t : State) (H1 : Heap) (locs1 : List Loc), t.heap = H1 → s.vm.Alike t.vm → px u → BX E u t → H.size ≤ H1.size → (∀ q : Nat, q < H.size → ¬ AX q → H1[q]? = H[q]?) → va_S A0 H0 H1 locs1 → H1[q9]? = some ce → ce.vm = .none → s.vm.findClass E = some ce.cls → vx_W p l e R s m args below meth c H1 locs1 (cells + mc) (slots + ms) Q (F0 m pc ls rest) q9)
    (kk : ∀ (r : Option Nat) (u : S) (t : State) (H1 : Heap) (locs1 : List Loc), t.heap = H1 → s.vm.Alike t.vm → post r u → B u t → H.size ≤ H1.size → (∀ q : Nat, q < H.size → ¬ A1 q → H1[q]? = H[q]?) → va_S A0 H0 H1 locs1 → W p l e R s m args below meth c H1 locs1 (cells + mc) (slots + ms) Q (F0 m (pc + 3) ls (va_rf r :: rest))) : W p l e R s m args below meth c H locs cells slots Q (F0 m pc ls st0) := by
  intro T hT X
  rcases hr T hT X with ⟨v, st₀, t, T', L, h0, X', hL, e1, e2, ⟨⟨r, u, hv, hp, hb⟩, hF⟩, st⟩ | ⟨q, st₀, t, T', L, E, ce, h0, X', hL, e1, e2, ⟨u, hp, hb, hF⟩, hce, hcv, hcl, st⟩
  · cases hv
    obtain ⟨k1, k2, k3⟩ := vx_keep h0 e1 hS hA hf hL hF
    obtain ⟨t2, a1, b1⟩ := kk r u t T'.heap (locs ++ L) e1.symm (by rw [← e2]; exact X'.warmed.alike) hp hb k1 k2 k3 T' rfl X'
    exact ⟨t2, st t2 a1, b1⟩
  · obtain ⟨k1, k2, k3⟩ := vx_keep h0 e1 hS hAX hf hL hF
    obtain ⟨t2, a1, b1⟩ := kx E ce q u t T'.heap (locs ++ L) e1.symm (by rw [← e2]; exact X'.warmed.alike) hp hb k1 k2 k3 (by rw [e1]; exact hce) hcv hcl T' rfl X'
    exact ⟨t2, st.trans a1, b1⟩
end
/-! ===== END ===== -/
