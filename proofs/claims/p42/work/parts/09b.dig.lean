/-! the Amounts of the class: their digits as g tracks them -/
def dl (v : Value) : Int := match v with
  | .long x => x.toInt
  | _ => 0
def dg (g : Nat → Nat → Value) (q : Nat) : Nat → Int := fun j => dl (g q j)
abbrev zV (g : Nat → Nat → Value) (q : Nat) : Int := vS (dg g q) 16
theorem dg_at {g : Nat → Nat → Value} {q j : Nat} {x : Int64} (h : g q j = .long x) : dg g q j = x.toInt := by simp [dg, dl, h]
theorem dg_eq {g g2 : Nat → Nat → Value} {q j : Nat} (h : g2 q j = g q j) : dg g2 q j = dg g q j := by simp [dg, h]
/-- an Amount at a with its digits at q, of which u are used -/
def zN0 (g : Nat → Nat → Value) (a q u : Nat) : Prop :=
  g a 0 = .ref q ∧ g a 1 = .int (nI u) ∧ u ≤ 16 ∧ (∀ j, j < 16 → 0 ≤ dg g q j ∧ dg g q j < 4294967296) ∧ ∀ j, u ≤ j → j < 16 → dg g q j = 0
def zN (g : Nat → Nat → Value) (a q u : Nat) : Prop := zN0 g a q u ∧ (u = 0 ∨ dg g q (u - 1) ≠ 0)
section ZN0
variable {g : Nat → Nat → Value} {a q u : Nat}
theorem zN0.r (h : zN0 g a q u) : g a 0 = .ref q := h.1
theorem zN0.us (h : zN0 g a q u) : g a 1 = .int (nI u) := h.2.1
theorem zN0.le (h : zN0 g a q u) : u ≤ 16 := h.2.2.1
theorem zN0.bd (h : zN0 g a q u) : ∀ j, j < 16 → 0 ≤ dg g q j ∧ dg g q j < 4294967296 := h.2.2.2.1
theorem zN0.hi (h : zN0 g a q u) : ∀ j, u ≤ j → j < 16 → dg g q j = 0 := h.2.2.2.2
theorem zN.toZN0 (h : zN g a q u) : zN0 g a q u := h.1
theorem zN.top (h : zN g a q u) : u = 0 ∨ dg g q (u - 1) ≠ 0 := h.2
theorem zN.r (h : zN g a q u) : g a 0 = .ref q := h.1.r
theorem zN.us (h : zN g a q u) : g a 1 = .int (nI u) := h.1.us
theorem zN.le (h : zN g a q u) : u ≤ 16 := h.1.le
theorem zN.bd (h : zN g a q u) : ∀ j, j < 16 → 0 ≤ dg g q j ∧ dg g q j < 4294967296 := h.1.bd
theorem zN.hi (h : zN g a q u) : ∀ j, u ≤ j → j < 16 → dg g q j = 0 := h.1.hi
end ZN0
def zAK (K A : Nat) : Prop := zO K = some (2, [(11, A), (10, 0)]) ∧ zO A = none ∧ zR A = some (1, 16, 1, (13, 0))
def zAo (κ : Nat → Nat) (g : Nat → Nat → Value) (K A a q u : Nat) : Prop := κ a = K ∧ κ q = A ∧ zN g a q u
/-- all but the Amount at a, with digits at q, is as it was -/
def zFr (a q : Nat) (g g2 : Nat → Nat → Value) : Prop := ∀ b i, b ≠ q → (b ≠ a ∨ i ≠ 1) → g2 b i = g b i
theorem zFr.rf {a q : Nat} {g : Nat → Nat → Value} : zFr a q g g := fun _ _ _ _ => rfl
theorem zFr.tr {a q : Nat} {g g1 g2 : Nat → Nat → Value} (h : zFr a q g g1) (h2 : zFr a q g1 g2) : zFr a q g g2 := fun b i h3 h4 => (h2 b i h3 h4).trans (h b i h3 h4)
theorem zFr.o {a q b i : Nat} {g g2 : Nat → Nat → Value} (h : zFr a q g g2) (h1 : b ≠ q) (h2 : b ≠ a) : g2 b i = g b i := h b i h1 (Or.inl h2)
/-- what an Amount's method leaves: the value v -/
def zAm (L : List Nat) (κ : Nat → Nat) (g : Nat → Nat → Value) (a q : Nat) (v : Int) (u : zS) : Prop := ∃ g2 u2, u = (L, κ, g2) ∧ zN g2 a q u2 ∧ zV g2 q = v ∧ zFr a q g g2
theorem zN0.o {g g2 : Nat → Nat → Value} {a q u b p : Nat} (h : zN0 g a q u) (hf : zFr b p g g2) (h1 : a ≠ p) (h2 : a ≠ b) (h3 : q ≠ p) (h4 : q ≠ b) : zN0 g2 a q u :=
  ⟨(hf.o h1 h2).trans h.r, (hf.o h1 h2).trans h.us, h.le, fun j hj => by rw [dg_eq (hf.o h3 h4)]; exact h.bd j hj, fun j hj hj2 => (dg_eq (hf.o h3 h4)).trans (h.hi j hj hj2)⟩
theorem zN.o {g g2 : Nat → Nat → Value} {a q u b p : Nat} (h : zN g a q u) (hf : zFr b p g g2) (h1 : a ≠ p) (h2 : a ≠ b) (h3 : q ≠ p) (h4 : q ≠ b) : zN g2 a q u :=
  ⟨h.toZN0.o hf h1 h2 h3 h4, by rw [dg_eq (hf.o h3 h4)]; exact h.top⟩
theorem zV_o {g g2 : Nat → Nat → Value} {q b p : Nat} (hf : zFr b p g g2) (h3 : q ≠ p) (h4 : q ≠ b) : zV g2 q = zV g q := vS_congr (fun _ _ => dg_eq (hf.o h3 h4))
theorem zN0.v {g : Nat → Nat → Value} {a q u M : Nat} (h : zN0 g a q u) (hM : u ≤ M) (hM2 : M ≤ 16) : zV g q = vS (dg g q) M := by
  rw [zV, vS_tail h.le (fun j h1 h2 => h.hi j h1 h2), vS_tail hM (fun j h1 h2 => h.hi j h1 (by omega))]
theorem zN.v {g : Nat → Nat → Value} {a q u M : Nat} (h : zN g a q u) (hM : u ≤ M) (hM2 : M ≤ 16) : zV g q = vS (dg g q) M := h.toZN0.v hM hM2
theorem zN0.nn {g : Nat → Nat → Value} {a q u : Nat} (h : zN0 g a q u) : 0 ≤ zV g q := vS_nn (fun j hj => (h.bd j hj).1)
theorem zN0.lt {g : Nat → Nat → Value} {a q u : Nat} (h : zN0 g a q u) : zV g q < 4294967296 ^ u := by
  rw [h.v (Nat.le_refl u) h.le]
  exact vS_lt (fun j hj => h.bd j (Nat.lt_of_lt_of_le hj h.le))
/-- the greater one has no fewer digits -/
theorem zN.used {g : Nat → Nat → Value} {a q u b p w : Nat} (h : zN g a q u) (h2 : zN0 g b p w) (hv : zV g q ≤ zV g p) : u ≤ w := by
  rcases Nat.lt_or_ge w u with h3 | h3
  · exfalso
    have h4 : 0 < u := by omega
    have h5 := vS_top h4 (fun j hj => (h.bd j (by have := h.le; omega)).1) (h.top.resolve_left (by omega))
    rw [← h.v (Nat.le_refl u) h.le] at h5
    have h6 := h2.lt
    have h7 := vB_le (show w ≤ u - 1 by omega)
    omega
  · exact h3
/-- on the way through a loop over the digits at q: those with S are done -/
def zW (g gk : Nat → Nat → Value) (q : Nat) (S : Nat → Prop) : Prop :=
  (∀ b j, b ≠ q → gk b j = g b j) ∧ (∀ j, ¬ S j → gk q j = g q j) ∧ ∀ j, j < 16 → 0 ≤ dg gk q j ∧ dg gk q j < 4294967296
theorem zW.f {g gk : Nat → Nat → Value} {q : Nat} {S : Nat → Prop} (h : zW g gk q S) : ∀ b j, b ≠ q → gk b j = g b j := h.1
theorem zW.h {g gk : Nat → Nat → Value} {q : Nat} {S : Nat → Prop} (h : zW g gk q S) : ∀ j, ¬ S j → gk q j = g q j := h.2.1
theorem zW.b {g gk : Nat → Nat → Value} {q : Nat} {S : Nat → Prop} (h : zW g gk q S) : ∀ j, j < 16 → 0 ≤ dg gk q j ∧ dg gk q j < 4294967296 := h.2.2
theorem zW.rd {g gk : Nat → Nat → Value} {q b j : Nat} {S : Nat → Prop} (h : zW g gk q S) (hs : ¬ S j) : gk b j = g b j := by
  by_cases hb : b = q
  · rw [hb]; exact h.h j hs
  · exact h.f b j hb
theorem zW.step {g gk g2 : Nat → Nat → Value} {q i : Nat} {S S2 : Nat → Prop} {x : Int64} (h : zW g gk q S) (hs : g2 q i = .long x) (ho : ∀ b j, (b ≠ q ∨ j ≠ i) → g2 b j = gk b j) (hx : 0 ≤ x.toInt ∧ x.toInt < 4294967296) (hS : ∀ j, S j ∨ j = i → S2 j) : zW g g2 q S2 := by
  refine ⟨fun b j hb => (ho b j (Or.inl hb)).trans (h.f b j hb), fun j hj => ?_, fun j hj => ?_⟩
  · have h1 : j ≠ i := fun e => hj (hS j (Or.inr e))
    exact (ho q j (Or.inr h1)).trans (h.h j (fun e => hj (hS j (Or.inl e))))
  · by_cases h1 : j = i
    · rw [h1, dg_at hs]; exact hx
    · rw [dg_eq (ho q j (Or.inr h1))]; exact h.b j hj
theorem zW.fr {g gk : Nat → Nat → Value} {a q : Nat} {S : Nat → Prop} (h : zW g gk q S) : zFr a q g gk := fun b i h1 _ => h.f b i h1
/-- 'used' has been put: behind the loop -/
theorem zW.n0 {g gk g2 : Nat → Nat → Value} {a q u M : Nat} {S : Nat → Prop} (h : zW g gk q S) (hn : zN0 g a q u) (hq : a ≠ q) (hu : u ≤ M) (hM : M ≤ 16) (hS : ∀ j, S j → j < M) (hs : g2 a 1 = .int (nI M)) (ho : ∀ b j, (b ≠ a ∨ j ≠ 1) → g2 b j = gk b j) : zN0 g2 a q M ∧ (∀ j, dg g2 q j = dg gk q j) ∧ zFr a q g g2 := by
  have e : ∀ j, dg g2 q j = dg gk q j := fun j => dg_eq (ho q j (Or.inl (Ne.symm hq)))
  refine ⟨⟨(ho a 0 (Or.inr (by decide))).trans ((h.f a 0 hq).trans hn.r), hs, hM, fun j hj => by rw [e j]; exact h.b j hj, fun j h1 h2 => ?_⟩, e, fun b i h1 h2 => (ho b i h2).trans (h.f b i h1)⟩
  rw [e j, dg_eq (h.h j (fun hs9 => by have := hS j hs9; omega))]
  exact hn.hi j (by omega) h2
/-- of the numbers of 64 bits -/
theorem w_mask {x : Int64} : (x &&& 4294967295).toInt = x.toInt % 4294967296 := Jvm.Kit.i64_mask x 4294967295 (k := 32) (by decide) (by decide)
theorem w_sh {x : Int64} (hx : 0 ≤ x.toInt) : ((x.toUInt64 >>> ((32 : Int32).toInt64.toUInt64 &&& Int64.toUInt64 63)).toInt64).toInt = x.toInt / 4294967296 := Jvm.Kit.i64_lushr (Jvm.Kit.i64_nonneg.mpr hx) (k := 32) (by decide +kernel) (by decide)
theorem w_shr {x : Int64} : (x >>> ((32 : Int32).toInt64 &&& 63)).toInt = x.toInt / 4294967296 := Jvm.Kit.i64_shr x _ (k := 32) (by decide +kernel)
theorem w_shl {x : Int64} (h0 : 0 ≤ x.toInt) (h1 : x.toInt < 2147483648) : (x <<< ((32 : Int32).toInt64 &&& 63)).toInt = x.toInt * 4294967296 := Jvm.Kit.i64_shl x _ (k := 32) (by decide +kernel) (by omega) (by omega)
theorem w_add {x y : Int64} (h1 : -9223372036854775808 ≤ x.toInt + y.toInt) (h2 : x.toInt + y.toInt < 9223372036854775808) : (x + y).toInt = x.toInt + y.toInt := Jvm.Kit.i64_add h1 h2
theorem w_sub {x y : Int64} (h1 : -9223372036854775808 ≤ x.toInt - y.toInt) (h2 : x.toInt - y.toInt < 9223372036854775808) : (x - y).toInt = x.toInt - y.toInt := Jvm.Kit.i64_sub h1 h2
theorem w_mul {x y : Int64} (h1 : -9223372036854775808 ≤ x.toInt * y.toInt) (h2 : x.toInt * y.toInt < 9223372036854775808) : (x * y).toInt = x.toInt * y.toInt := Jvm.Kit.i64_mul h1 h2
theorem w_div {x y : Int64} (hx : 0 ≤ x.toInt) (hy : 0 ≤ y.toInt) : (x / y).toInt = x.toInt / y.toInt := by
  rw [Jvm.Kit.i64_div (by omega), Int.tdiv_eq_ediv_of_nonneg hx]
theorem w_rem {x y : Int64} (hx : 0 ≤ x.toInt) : (x - x / y * y).toInt = x.toInt % y.toInt := Jvm.Kit.i64_rem_nonneg hx
theorem w_low {x y : Int64} {r : Int} : x + y <<< ((32 : Int32).toInt64 &&& 63) = Int64.ofInt (x.toInt + y.toInt * 4294967296 + r * 18446744073709551616) := by
  have e1 : (y <<< ((32 : Int32).toInt64 &&& 63)).toInt = (y.toBitVec <<< (((32 : Int32).toInt64 &&& 63).toBitVec.smod 64)).toInt := rfl
  have e : (y <<< ((32 : Int32).toInt64 &&& 63)).toInt = (y.toInt * 4294967296).bmod (2 ^ 64) := by
    rw [e1, BitVec.shiftLeft_eq', BitVec.toInt_shiftLeft, show (((32 : Int32).toInt64 &&& 63).toBitVec.smod 64).toNat = 32 from by decide +kernel, Nat.shiftLeft_eq, Int.natCast_mul, Int.natCast_pow, ← Int.bmod_mul_bmod, ← BitVec.toInt_eq_toNat_bmod]
    rfl
  refine ((Int64.ofInt_eq_iff_bmod_eq_toInt _ _).mpr ?_).symm
  rw [Int64.toInt_add, e, Int.add_comm x.toInt (Int.bmod _ _), Int.bmod_add_bmod, Int.add_comm _ x.toInt]
  exact Int.add_mul_bmod_self_right _ r (2 ^ 64)
theorem w_max {a b : Nat} (ha : a ≤ 16) (hb : b ≤ 16) : (if nI a < nI b then nI b else nI a) = nI (max a b) := by
  by_cases h : a < b
  · rw [if_pos (nI_lt h (by omega)), Nat.max_eq_right (by omega)]
  · rw [if_neg (nI_nlt (by omega) (by omega)), Nat.max_eq_left (by omega)]
theorem w_min {a : Nat} (h : a ≤ 16) : (if nI a < 16 then nI a else 16) = nI a := by
  by_cases h1 : a < 16
  · exact if_pos (nI_lt (b := 16) h1 (by omega))
  · obtain rfl : a = 16 := by omega
    rfl
theorem zAK.ne {κ : Nat → Nat} {K A p q : Nat} (h : zAK K A) (hk : κ p = K) (hq : κ q = A) : p ≠ q := by
  intro e
  have h1 := h.1
  rw [← hk, e, hq, h.2.1] at h1
  cases h1
theorem zAK.ne2 {κ : Nat → Nat} {K A K1 A1 p q : Nat} (h : zAK K A) (h1 : zAK K1 A1) (hk : κ p = K) (hq : κ q = A1) : p ≠ q := by
  intro e
  have h2 := h.1
  rw [← hk, e, hq, h1.2.1] at h2
  cases h2
/-- one digit of a division -/
theorem w_quo {r y dv w : Int} (h0 : 0 < dv) (hr : 0 ≤ r ∧ r < dv) (hy : 0 ≤ y ∧ y < 4294967296) (hw : w = r * 4294967296 + y) : (0 ≤ w / dv ∧ w / dv < 4294967296) ∧ (0 ≤ w % dv ∧ w % dv < dv) ∧ r * 4294967296 + y = w / dv * dv + w % dv := by
  refine ⟨⟨Int.ediv_nonneg (by omega) (by omega), Int.ediv_lt_of_lt_mul h0 (by omega)⟩, ⟨Int.emod_nonneg _ (by omega), Int.emod_lt_of_pos _ h0⟩, ?_⟩
  have h := Int.emod_def w dv
  rw [Int.mul_comm (w / dv) dv]
  omega
/-- the least of a number and what bounds it -/
theorem zN.big {g : Nat → Nat → Value} {a q u : Nat} (h : zN g a q u) (hu : 1 < u) : 4294967296 ≤ zV g q := by
  have h2 := h.le
  have h5 := vS_top (d := dg g q) (u := u) (by omega) (fun j hj => (h.bd j (by omega)).1) (h.top.resolve_left (by omega))
  rw [← h.v (Nat.le_refl u) h.le] at h5
  have h7 := vB_le (show 1 ≤ u - 1 by omega)
  omega
theorem zN0.one {g : Nat → Nat → Value} {a q u : Nat} (h : zN0 g a q u) (hu : u ≤ 1) : zV g q = dg g q 0 := by
  rw [h.v hu (by omega)]
  show 0 + dg g q 0 * 4294967296 ^ 0 = _
  omega
/-! a Body: its heat at h (digits qh), its degrees at d (digits qd), the heat of one degree w -/
def zBK (KB KH KD w : Nat) : Prop := zO KB = some (3, [(9, w), (11, KH), (11, KD)])
/-- all but two Amounts is as it was -/
def zFr2 (a q b p : Nat) (g g2 : Nat → Nat → Value) : Prop := ∀ x i, x ≠ q → x ≠ p → (x ≠ a ∨ i ≠ 1) → (x ≠ b ∨ i ≠ 1) → g2 x i = g x i
theorem zFr.two {a q b p : Nat} {g g1 g2 : Nat → Nat → Value} (h : zFr a q g g1) (h2 : zFr b p g1 g2) : zFr2 a q b p g g2 := fun x i e1 e2 e3 e4 => (h2 x i e2 e4).trans (h x i e1 e3)
/-- what a Body's method leaves: the heat v -/
def zBm (L : List Nat) (κ : Nat → Nat) (g : Nat → Nat → Value) (h qh d qd w : Nat) (v : Int) (u : zS) : Prop := ∃ g2 uh ud, u = (L, κ, g2) ∧ zN g2 h qh uh ∧ zN g2 d qd ud ∧ zV g2 qh = v ∧ zV g2 qd = v / (w : Int) ∧ zFr2 h qh d qd g g2
