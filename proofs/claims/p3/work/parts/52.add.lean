set_option maxHeartbeats 4000000 in
set_option maxRecDepth 100000 in
theorem c_Jx4a65c_grow_92f84 (l : Launch) (D : va_G) (tc : Nat → ClassId) (z0 : Nat) (L : List Nat) (κ : Nat → Nat) (g : Nat → Nat → Value) (sz : Nat) (p0 K e KA KE : Nat) (mo : Int32) (f : Nat → Nat) (hO : zO K = some (1, [(10, 0), (18, 0), (10, 0)])) (hL : zLi κ g z0 p0 K e KA KE 0 mo f) (hA0 : zO KA = none) (hR : zR KA = some (6, 10, 4, (12, KE))) (hK9 : KA < 99) (hK8 : K < 99) (hne : K ≠ KA) : Met l yJx4a65c_grow_92f84 wsJx4a65c_grow_92f84 ({ frames := 1, cells := 1, slots := 10, locals := 22 }) (zPc D tc z0 [.ref p0, .int (nI 1)] [] (L, κ, g) sz) (va_Qq (fun (r9 : Option Nat) (u : zS) => ∃ r : Nat, r9 = some r ∧ (∀ a, κ a < 99 → u.2.1 a = κ a) ∧ u.2.1 r = KA ∧ (∀ b j, κ b < 99 → ¬ (b = p0 ∧ j = 1) → u.2.2 b j = g b j) ∧ u.2.2 p0 1 = .ref r ∧ ∀ j, u.2.2 r j = .null) (fun (u : zS) (t : State) => zB D tc (zA [] L sz) [] u t) (zA [] L sz)) 1 10 (zA [] L sz) := by
  refine Met.ofW (cc := cJx4a65c_grow_92f84) (maxL := 4) (ret := (some (.array (.object "java/lang/Object")))) (by decide) rfl ?_
  intro p e9 s m args below meth c s₁ B hml hv
  obtain ⟨rfl, rfl, hK, hE, hI⟩ := hv.opn
  have hx := B.exec
  have hb := B.bytes
  have hr := B.returns
  have hts := atoms_spec (ws := wsJx4a65c_grow_92f84) B.pre
  have hown : s.vm.findClass RJx4a65c = some m.cls := findClass_of_methodNamed B.named
  have hlocks := B.notSynchronized
  have hM : zM p s m c cJx4a65c_grow_92f84 _ wsJx4a65c_grow_92f84 RJx4a65c D tc := ⟨hx, hb, hts, hown, hK⟩
  have hl := lv_entry ([.ref p0, .int (nI 1)]) (n := 4) (Nat.le_of_ble_eq_true rfl)
  rw [lg_entry_eq]
  generalize (lg_sl ([.ref p0, .int (nI 1)]) ++ List.replicate (4 - (lg_sl ([.ref p0, .int (nI 1)])).length) Slot.unset).toArray = ls at hl ⊢
  have hl : lv_has ls 4 [(0, .ref p0), (1, .int (nI 1))] := hl
  have hin9 : ∀ w ∈ wsJx4a65c0, w ∈ wsJx4a65c_grow_92f84 := by decide +kernel
  have hE9 := hE
  obtain ⟨-, -, -, -, -, -, ⟨hz1, hz2⟩, -⟩ := hE9
  have hez : e = z0 := hL.2.2.2.2.2.2.1 rfl
  subst hez
  refine lv_aload_n hx hb dJx4a65c_grow_92f84_0 rfl (lv_at hl 0 rfl) ?_
  refine z_get (k := K) (j := 1) hM hI hL.1 hO rfl hin9 rfl (by decide) (by decide +kernel) (fun _ h9 => h9) dJx4a65c_grow_92f84_1 (fun v1 hv2 => ?_)
  obtain ⟨hg4, i3, rfl⟩ := hv2
  obtain rfl : e = i3 := Value.ref.inj ((hL.2.2.1).symm.trans hg4.symm)
  refine va_tlen (v := 0) hx hb hz2 hI.2.1 (by decide) dJx4a65c_grow_92f84_4 ?_
  refine lv_istore_n (lv' := [(2, .int 0), (0, .ref p0), (1, .int (nI 1))]) hx hb dJx4a65c_grow_92f84_5 rfl hl (by decide) rfl (fun ls hl => ?_)
  refine lv_iload_n hx hb dJx4a65c_grow_92f84_6 rfl (lv_at hl 0 rfl) ?_
  refine lv_if_gt (tgt := 20) hx hb dJx4a65c_grow_92f84_7 (by decide) (fun c5 => absurd c5 (by decide)) (fun _ => ?_)
  refine lv_aload_n hx hb dJx4a65c_grow_92f84_10 rfl (lv_at hl 1 rfl) ?_
  refine z_get (k := K) (j := 1) hM hI hL.1 hO rfl hin9 rfl (by decide) (by decide +kernel) (fun _ h9 => h9) dJx4a65c_grow_92f84_11 (fun v1 hv2 => ?_)
  obtain ⟨hg4, i3, rfl⟩ := hv2
  obtain rfl : e = i3 := Value.ref.inj ((hL.2.2.1).symm.trans hg4.symm)
  refine va_gets hx hb hz1 hI.2.1 hown (hts (.fieldLink RJx4a65c 39 "java/util/ArrayList" "DEFAULTCAPACITY_EMPTY_ELEMENTDATA" "[Ljava/lang/Object;") (by decide +kernel)) (fun _ h9 => h9) dJx4a65c_grow_92f84_14 ?_
  refine lv_acmp_eq (rx := some e) (ry := some e) (tgt := 45) hx hb dJx4a65c_grow_92f84_17 (by decide) (fun _ => ?_) (fun c5 => absurd rfl c5)
  refine lv_aload_n hx hb dJx4a65c_grow_92f84_45 rfl (lv_at hl 1 rfl) ?_
  refine lv_bipush (v := 10) hx hb dJx4a65c_grow_92f84_46 (by decide) ?_
  refine lv_iload_n hx hb dJx4a65c_grow_92f84_48 rfl (lv_at hl 2 rfl) ?_
  refine va_mmax hx hb (hml.trans hl.1.symm) hown (hts (.methodLink RJx4a65c 79 Lib.Math.max.name) (by decide +kernel)) (hts (.static Lib.Math.max.name) (by decide +kernel)) (hts (.initialized "java/lang/Math") (by decide +kernel)) (hts (.code Lib.Math.max.name Lib.Math.max.code 2 (some .int)) (by decide +kernel)) (Nat.le_of_ble_eq_true rfl) (Nat.le_of_ble_eq_true rfl) (Nat.le_of_ble_eq_true rfl) (Nat.le_of_ble_eq_true rfl) dJx4a65c_grow_92f84_49 ?_
  refine lv_topi (fun v6 e6 => ?_)
  obtain rfl : v6 = 10 := e6.trans (by decide)
  refine z_newq (C := "java/lang/Object") (ti := 6) (n := 10) hM hE hI (by decide +kernel) (by decide +kernel) rfl (by decide) (by decide) (by decide) (Nat.le_of_ble_eq_true rfl) (Nat.le_of_ble_eq_true rfl) dJx4a65c_grow_92f84_52 (fun q H hI => ?_)
  obtain ⟨L2, κ2, g2, hx2, hk2, hv2, hI⟩ := z_poolG (k := KA) (fun _ => .null) hI hK9 (fun κ9 g9 hκ9 hκ8 hg9 => Or.inr ⟨hA0, 6, 10, 4, (12, KE), fun j => .null, hR, ⟨_, rfl, fun j hj => rfl⟩, fun j hj => ⟨(hg9 j).symm, Or.inl rfl⟩⟩)
  refine lv_dup_x1 hx hb dJx4a65c_grow_92f84_55 rfl rfl ?_
  refine z_put (g' := zup g2 p0 1 (.ref q)) (k := K) (j := 1) hM hI (hx2.k hL.1 hK8) hO rfl hin9 tyJx4a65c tyJx4a65c_ok nmJx4a65c rfl (by decide) (by decide +kernel) (fun _ h9 => h9) rfl rfl rfl rfl ⟨(zup_self _ _ _ _).symm, _, rfl⟩ (fun b i h => zup_ne h) dJx4a65c_grow_92f84_56 (fun H locs hI => ?_)
  have hqp : q ≠ p0 := fun h => hne (by rw [← hk2, h]; exact (hx2.k hL.1 hK8).symm)
  exact W.aret (v := .ref q) hx hb hr (Or.inr ⟨_, rfl⟩) (Or.inr ⟨_, rfl⟩) (fun t ht hW => ⟨⟨some q, (L2, κ2, zup g2 p0 1 (.ref q)), rfl, ⟨q, rfl, hx2.1, hk2, fun b j hb9 hn9 => (zup_ne (by by_cases h : b = p0 <;> simp_all)).trans (hx2.2 b j hb9), zup_self _ _ _ _, fun j => (zup_a hqp).trans (hv2 j)⟩, z_endG hK hI ht hW⟩, z_F hI ht⟩) (z_locs hI) dJx4a65c_grow_92f84_59

set_option maxHeartbeats 4000000 in
set_option maxRecDepth 100000 in
theorem c_Jx4a65c_grow_d5877 (l : Launch) (D : va_G) (tc : Nat → ClassId) (z0 : Nat) (L : List Nat) (κ : Nat → Nat) (g : Nat → Nat → Value) (sz : Nat) (p0 K e KA KE : Nat) (mo : Int32) (f : Nat → Nat) (hO : zO K = some (1, [(10, 0), (18, 0), (10, 0)])) (hL : zLi κ g z0 p0 K e KA KE 0 mo f) (hA0 : zO KA = none) (hR : zR KA = some (6, 10, 4, (12, KE))) (hK9 : KA < 99) (hK8 : K < 99) (hne : K ≠ KA) : Met l yJx4a65c_grow_d5877 wsJx4a65c_grow_d5877 ({ frames := 2, cells := 1, slots := 10, locals := 45 }) (zPc D tc z0 [.ref p0] [] (L, κ, g) sz) (va_Qq (fun (r9 : Option Nat) (u : zS) => ∃ r : Nat, r9 = some r ∧ (∀ a, κ a < 99 → u.2.1 a = κ a) ∧ u.2.1 r = KA ∧ (∀ b j, κ b < 99 → ¬ (b = p0 ∧ j = 1) → u.2.2 b j = g b j) ∧ u.2.2 p0 1 = .ref r ∧ ∀ j, u.2.2 r j = .null) (fun (u : zS) (t : State) => zB D tc (zA [] L sz) [] u t) (zA [] L sz)) 1 10 (zA [] L sz) := by
  refine Met.ofW (cc := cJx4a65c_grow_d5877) (maxL := 1) (ret := (some (.array (.object "java/lang/Object")))) (by decide) rfl ?_
  intro p e9 s m args below meth c s₁ B hml hv
  obtain ⟨rfl, rfl, hK, hE, hI⟩ := hv.opn
  have hx := B.exec
  have hb := B.bytes
  have hr := B.returns
  have hts := atoms_spec (ws := wsJx4a65c_grow_d5877) B.pre
  have hown : s.vm.findClass RJx4a65c = some m.cls := findClass_of_methodNamed B.named
  have hlocks := B.notSynchronized
  have hM : zM p s m c cJx4a65c_grow_d5877 _ wsJx4a65c_grow_d5877 RJx4a65c D tc := ⟨hx, hb, hts, hown, hK⟩
  have hl := lv_entry ([.ref p0]) (n := 1) (Nat.le_of_ble_eq_true rfl)
  rw [lg_entry_eq]
  generalize (lg_sl ([.ref p0]) ++ List.replicate (1 - (lg_sl ([.ref p0])).length) Slot.unset).toArray = ls at hl ⊢
  have hl : lv_has ls 1 [(0, .ref p0)] := hl
  have hin9 : ∀ w ∈ wsJx4a65c0, w ∈ wsJx4a65c_grow_d5877 := by decide +kernel
  refine lv_aload_n hx hb dJx4a65c_grow_d5877_0 rfl (lv_at hl 0 rfl) ?_
  refine lv_aload_n hx hb dJx4a65c_grow_d5877_1 rfl (lv_at hl 0 rfl) ?_
  refine z_get (k := K) (j := 2) hM hI hL.1 hO rfl hin9 rfl (by decide) (by decide +kernel) (fun _ h9 => h9) dJx4a65c_grow_d5877_2 (fun v1 hv2 => ?_)
  obtain ⟨hg4, i3, rfl⟩ := hv2
  obtain rfl : (nI 0) = i3 := Value.int.inj ((hL.2.2.2.1).symm.trans hg4.symm)
  refine lv_iconst (v := 1) hx hb dJx4a65c_grow_d5877_5 (by decide) ?_
  refine lv_iadd hx hb dJx4a65c_grow_d5877_6 ?_
  rw [nI_1]
  refine z_cqX (sel := fun u : zS => u) (rxf := fun _ => []) (Xc := []) (wr := []) [] [] rfl rfl rfl rfl (by decide) hI (va_runV (As := [.int (nI 1)]) (rest := []) ⟨hx, hb, hml, hown, hts⟩ (c_Jx4a65c_grow_92f84 l _ _ _ _ _ _ _ p0 K e KA KE mo f hO hL hA0 hR hK9 hK8 hne) (cwV 1 hts gJx4a65c_grow_d5877_Jx4a65c_grow_92f84 rfl rfl rfl (by decide +kernel) ⟨Nat.le_of_ble_eq_true rfl, Nat.le_of_ble_eq_true rfl⟩) (z_preV hK hE hI [] rfl rfl (z_recv hK hI hL.1 hO rfl)) rfl rfl hl.1 rfl (lv_room (Nat.le_of_ble_eq_true rfl)) dJx4a65c_grow_d5877_7 ⟨Nat.le_of_ble_eq_true rfl, Nat.le_of_ble_eq_true rfl⟩) (fun r u H locs hw hI => ?_)
  obtain ⟨r, rfl, hw⟩ := hw
  exact W.aret (v := .ref r) hx hb hr (Or.inr ⟨_, rfl⟩) (Or.inr ⟨_, rfl⟩) (fun t ht hW => ⟨⟨some r, u, rfl, ⟨r, rfl, hw⟩, z_endG hK hI ht hW⟩, z_F hI ht⟩) (z_locs hI) dJx4a65c_grow_d5877_10

theorem zLi_add {κ κ2 : Nat → Nat} {g g2 : Nat → Nat → Value} {z0 p0 K e e2 KA KE n x : Nat} {mo : Int32} {f : Nat → Nat} (hL : zLi κ g z0 p0 K e KA KE n mo f) (hn8 : n < 9) (hK8 : K < 99) (hK9 : KA < 99) (hKE : KE < 99) (hne : K ≠ KA) (hkx : κ x = KE)
    (hκ : ∀ a, κ a < 99 → κ2 a = κ a) (he : κ2 e2 = KA) (h0 : g2 p0 0 = .int mo) (h1 : g2 p0 1 = .ref e2) (h2 : ∀ j, j < n → g2 e2 j = .ref (f j)) (hg : ∀ b j, κ b < 99 → b ≠ p0 → κ b ≠ KA → g2 b j = g b j) :
    zLi κ2 (zup (zup g2 e2 (nI n).toNatClampNeg (.ref x)) p0 2 (.int (nI n + 1))) z0 p0 K e2 KA KE (n + 1) mo (va_up f n x) ∧ (∀ a, κ a < 99 → κ2 a = κ a) ∧ ∀ b j, κ b < 99 → b ≠ p0 → κ b ≠ KA → (zup (zup g2 e2 (nI n).toNatClampNeg (.ref x)) p0 2 (.int (nI n + 1))) b j = g b j := by
  rw [nI_clamp (by omega), nI_1]
  have hp : κ2 p0 = K := (hκ p0 (by rw [hL.1]; exact hK8)).trans hL.1
  have hpe : p0 ≠ e2 := fun h => hne (by rw [← hp, ← he, h])
  have hep : e2 ≠ p0 := fun h => hpe h.symm
  refine ⟨⟨hp, ?_, ?_, zup_self _ _ _ _, by omega, fun _ => he, fun h => absurd h (by omega), fun j hj => ?_⟩, hκ, fun b j hb hb2 hb3 => ?_⟩
  · exact (zup_j (by decide)).trans ((zup_a hpe).trans h0)
  · exact (zup_j (by decide)).trans ((zup_a hpe).trans h1)
  · by_cases hjn : j = n
    · subst hjn
      exact ⟨(zup_a hep).trans ((zup_self _ _ _ _).trans (by rw [va_up_self])), by rw [va_up_self]; exact (hκ x (by rw [hkx]; exact hKE)).trans hkx⟩
    · have hj9 : j < n := by omega
      exact ⟨(zup_a hep).trans ((zup_j hjn).trans ((h2 j hj9).trans (by rw [va_up_ne _ _ hjn]))), by rw [va_up_ne _ _ hjn]; exact (hκ _ (by rw [hL.el hj9]; exact hKE)).trans (hL.el hj9)⟩
  · have hbe : b ≠ e2 := fun h => hb3 (by rw [← hκ b hb, h]; exact he)
    exact (zup_a hb2).trans ((zup_a hbe).trans (hg b j hb hb2 hb3))

set_option maxHeartbeats 4000000 in
set_option maxRecDepth 100000 in
theorem c_Jx4a65c_add_72be8 (l : Launch) (D : va_G) (tc : Nat → ClassId) (z0 : Nat) (L : List Nat) (κ : Nat → Nat) (g : Nat → Nat → Value) (sz : Nat) (p0 K e KA KE n : Nat) (mo : Int32) (f : Nat → Nat) (hO : zO K = some (1, [(10, 0), (18, 0), (10, 0)])) (hL : zLi κ g z0 p0 K e KA KE n mo f) (hA0 : zO KA = none) (hR : zR KA = some (6, 10, 4, (12, KE))) (hK9 : KA < 99) (hK8 : K < 99) (hne : K ≠ KA) (ciE : Nat) (tsE : List (Nat × Nat)) (x : Nat) (hkx : κ x = KE) (hn8 : n < 9) (hKE : KE < 99) (hneE : KE ≠ KA) (CE : String) (TE : u_T) (NE : Nat) (hoE : zO KE = some (ciE, tsE)) (hcE : vwCl[ciE]? = some (CE, TE, NE)) (hcaE : Cond.castable CE "java/lang/Object" ∈ tables_1) : Met l yJx4a65c_add_72be8 wsJx4a65c_add_72be8 ({ frames := 3, cells := 1, slots := 10, locals := 65 }) (zPc D tc z0 [.ref p0, .ref x, .ref e, .int (nI n)] [] (L, κ, g) sz) (va_Qv (fun (u : zS) => ∃ e2, zLi u.2.1 u.2.2 z0 p0 K e2 KA KE (n + 1) mo (va_up f n x) ∧ (∀ a, κ a < 99 → u.2.1 a = κ a) ∧ ∀ b j, κ b < 99 → b ≠ p0 → κ b ≠ KA → u.2.2 b j = g b j) (fun (u : zS) (t : State) => zB D tc (zA [] L sz) [] u t) (zA [] L sz)) 1 10 (zA [] L sz) := by
  refine Met.ofW (cc := cJx4a65c_add_72be8) (maxL := 4) (ret := none) (by decide) rfl ?_
  intro p e9 s m args below meth c s₁ B hml hv
  obtain ⟨rfl, rfl, hK, hE, hI⟩ := hv.opn
  have hx := B.exec
  have hb := B.bytes
  have hr := B.returns
  have hts := atoms_spec (ws := wsJx4a65c_add_72be8) B.pre
  have hown : s.vm.findClass RJx4a65c = some m.cls := findClass_of_methodNamed B.named
  have hlocks := B.notSynchronized
  have hM : zM p s m c cJx4a65c_add_72be8 _ wsJx4a65c_add_72be8 RJx4a65c D tc := ⟨hx, hb, hts, hown, hK⟩
  have hl := lv_entry ([.ref p0, .ref x, .ref e, .int (nI n)]) (n := 4) (Nat.le_of_ble_eq_true rfl)
  rw [lg_entry_eq]
  generalize (lg_sl ([.ref p0, .ref x, .ref e, .int (nI n)]) ++ List.replicate (4 - (lg_sl ([.ref p0, .ref x, .ref e, .int (nI n)])).length) Slot.unset).toArray = ls at hl ⊢
  have hl : lv_has ls 4 [(0, .ref p0), (1, .ref x), (2, .ref e), (3, .int (nI n))] := hl
  have hin9 : ∀ w ∈ wsJx4a65c0, w ∈ wsJx4a65c_add_72be8 := by decide +kernel
  refine lv_iload_n hx hb dJx4a65c_add_72be8_0 rfl (lv_at hl 3 rfl) ?_
  refine lv_aload_n hx hb dJx4a65c_add_72be8_1 rfl (lv_at hl 2 rfl) ?_
  rcases Nat.eq_zero_or_pos n with hn0 | hn0
  · subst hn0
    have hE9 := hE
    obtain ⟨-, -, -, -, -, -, ⟨hz1, hz2⟩, -⟩ := hE9
    have hez : e = z0 := hL.2.2.2.2.2.2.1 rfl
    subst hez
    refine va_tlen (v := 0) hx hb hz2 hI.2.1 (by decide) dJx4a65c_add_72be8_2 ?_
    refine lv_icmp_ne (tgt := 11) hx hb dJx4a65c_add_72be8_3 (by decide) (fun c5 => absurd rfl c5) (fun _ => ?_)
    refine lv_aload_n hx hb dJx4a65c_add_72be8_6 rfl (lv_at hl 0 rfl) ?_
    refine z_cqX (sel := fun u : zS => u) (rxf := fun _ => []) (Xc := []) (wr := []) [] [] rfl rfl rfl rfl (by decide) hI (va_runV (As := []) (rest := []) ⟨hx, hb, hml, hown, hts⟩ (c_Jx4a65c_grow_d5877 l _ _ _ _ _ _ _ p0 K e KA KE mo f hO hL hA0 hR hK9 hK8 hne) (cwV 0 hts gJx4a65c_add_72be8_Jx4a65c_grow_d5877 rfl rfl rfl (by decide +kernel) ⟨Nat.le_of_ble_eq_true rfl, Nat.le_of_ble_eq_true rfl⟩) (z_preV hK hE hI [] rfl rfl (z_recv hK hI hL.1 hO rfl)) rfl rfl hl.1 rfl (lv_room (Nat.le_of_ble_eq_true rfl)) dJx4a65c_add_72be8_7 ⟨Nat.le_of_ble_eq_true rfl, Nat.le_of_ble_eq_true rfl⟩) (fun r u H locs hw hI => ?_)
    obtain ⟨r, rfl, hκ2, hk2, hg2, hg1, hnl⟩ := hw
    obtain ⟨L2, κ2, g2⟩ := u
    dsimp only at hκ2 hk2 hg2 hg1 hnl hI
    have hkp := (hκ2 p0 (by rw [hL.1]; exact hK8)).trans hL.1
    have hkx2 := (hκ2 x (by rw [hkx]; exact hKE)).trans hkx
    refine lv_astore_n (lv' := [(2, .ref r), (0, .ref p0), (1, .ref x), (3, .int (nI 0))]) hx hb dJx4a65c_add_72be8_10 rfl hl (by decide) rfl (fun ls hl => ?_)
    refine lv_aload_n hx hb dJx4a65c_add_72be8_11 rfl (lv_at hl 0 rfl) ?_
    refine lv_iload_n hx hb dJx4a65c_add_72be8_12 rfl (lv_at hl 3 rfl) ?_
    refine lv_aload_n hx hb dJx4a65c_add_72be8_13 rfl (lv_at hl 2 rfl) ?_
    refine z_aastO (E := "java/lang/Object") (k := KA) (k2 := KE) (ti := 6) (n := 10) (g' := zup g2 r (nI 0).toNatClampNeg (.ref x)) hM hI hk2 hA0 hR rfl hkx2 hoE hcE (hE.1 _ hcaE rfl) (vp_in_nI (by omega) (by omega)) ⟨(zup_self _ _ _ _).symm, Or.inr ⟨_, rfl, hkx2⟩⟩ (fun b i h => zup_ne h) dJx4a65c_add_72be8_14 (fun H locs hI => ?_)
    refine lv_aload_n hx hb dJx4a65c_add_72be8_15 rfl (lv_at hl 1 rfl) ?_
    refine lv_iload_n hx hb dJx4a65c_add_72be8_16 rfl (lv_at hl 3 rfl) ?_
    refine lv_iconst (v := 1) hx hb dJx4a65c_add_72be8_17 (by decide) ?_
    refine lv_iadd hx hb dJx4a65c_add_72be8_18 ?_
    refine z_put (g' := zup (zup g2 r (nI 0).toNatClampNeg (.ref x)) p0 2 (.int (nI 0 + 1))) (k := K) (j := 2) hM hI hkp hO rfl hin9 tyJx4a65c tyJx4a65c_ok nmJx4a65c rfl (by decide) (by decide +kernel) (fun _ h9 => h9) rfl rfl rfl rfl ⟨(zup_self _ _ _ _).symm, _, rfl⟩ (fun b i h => zup_ne h) dJx4a65c_add_72be8_19 (fun H locs hI => ?_)
    have hz := zLi_add (g2 := g2) (e2 := r) hL hn8 hK8 hK9 hKE hne hkx hκ2 hk2 ((hg2 p0 0 (by rw [hL.1]; exact hK8) (fun h => absurd h.2 (by decide))).trans hL.2.1) hg1 (fun j hj => absurd hj (Nat.not_lt_zero _)) (fun b j hb9 h1 h2 => hg2 b j hb9 (fun h => h1 h.1))
    exact W.vret hx hb hr (fun t ht hW => ⟨⟨(L2, κ2, _), rfl, ⟨r, hz⟩, z_endG hK hI ht hW⟩, z_F hI ht⟩) (z_locs hI) dJx4a65c_add_72be8_22
  · have hka : κ e = KA := hL.2.2.2.2.2.1 hn0
    refine z_alen (v := 10) (n := 10) hM hI hka hA0 hR rfl (by decide) dJx4a65c_add_72be8_2 ?_
    refine lv_icmp_ne (tgt := 11) hx hb dJx4a65c_add_72be8_3 (by decide) (fun _ => ?_) (fun c5 => absurd ((nI_eq (a := n) (b := 10) (by omega) (by omega)).mp c5) (by omega))
    refine lv_aload_n hx hb dJx4a65c_add_72be8_11 rfl (lv_at hl 2 rfl) ?_
    refine lv_iload_n hx hb dJx4a65c_add_72be8_12 rfl (lv_at hl 3 rfl) ?_
    refine lv_aload_n hx hb dJx4a65c_add_72be8_13 rfl (lv_at hl 1 rfl) ?_
    refine z_aastO (E := "java/lang/Object") (k := KA) (k2 := KE) (ti := 6) (n := 10) (g' := zup g e (nI n).toNatClampNeg (.ref x)) hM hI hka hA0 hR rfl hkx hoE hcE (hE.1 _ hcaE rfl) (vp_in_nI (by omega) (by omega)) ⟨(zup_self _ _ _ _).symm, Or.inr ⟨_, rfl, hkx⟩⟩ (fun b i h => zup_ne h) dJx4a65c_add_72be8_14 (fun H locs hI => ?_)
    refine lv_aload_n hx hb dJx4a65c_add_72be8_15 rfl (lv_at hl 0 rfl) ?_
    refine lv_iload_n hx hb dJx4a65c_add_72be8_16 rfl (lv_at hl 3 rfl) ?_
    refine lv_iconst (v := 1) hx hb dJx4a65c_add_72be8_17 (by decide) ?_
    refine lv_iadd hx hb dJx4a65c_add_72be8_18 ?_
    refine z_put (g' := zup (zup g e (nI n).toNatClampNeg (.ref x)) p0 2 (.int (nI n + 1))) (k := K) (j := 2) hM hI hL.1 hO rfl hin9 tyJx4a65c tyJx4a65c_ok nmJx4a65c rfl (by decide) (by decide +kernel) (fun _ h9 => h9) rfl rfl rfl rfl ⟨(zup_self _ _ _ _).symm, _, rfl⟩ (fun b i h => zup_ne h) dJx4a65c_add_72be8_19 (fun H locs hI => ?_)
    have hz := zLi_add (κ2 := κ) (g2 := g) (e2 := e) hL hn8 hK8 hK9 hKE hne hkx (fun _ _ => rfl) hka hL.2.1 hL.2.2.1 (fun j hj => hL.at hj) (fun _ _ _ _ _ => rfl)
    refine W.widen (k := 1) (n := 10) (Nat.le_of_ble_eq_true rfl) (Nat.le_of_ble_eq_true rfl) ?_
    exact W.vret hx hb hr (fun t ht hW => ⟨⟨(L, κ, _), rfl, ⟨e, hz⟩, z_endG hK hI ht hW⟩, z_F hI ht⟩) (z_locs hI) dJx4a65c_add_72be8_22

theorem zLi_mo {κ : Nat → Nat} {g : Nat → Nat → Value} {z0 p0 K e KA KE n : Nat} {mo m2 : Int32} {f : Nat → Nat} (hL : zLi κ g z0 p0 K e KA KE n mo f) (hne : K ≠ KA) : zLi κ (zup g p0 0 (.int m2)) z0 p0 K e KA KE n m2 f := by
  obtain ⟨a1, a2, a3, a4, a5, a6, a7, a8⟩ := hL
  exact ⟨a1, zup_self _ _ _ _, (zup_j (by decide)).trans a3, (zup_j (by decide)).trans a4, a5, a6, a7, fun i hi => ⟨(zup_a (fun q => hne (by rw [← a1, ← a6 (by omega), q]))).trans (a8 i hi).1, (a8 i hi).2⟩⟩

set_option maxHeartbeats 4000000 in
set_option maxRecDepth 100000 in
theorem c_Jx4a65c_add_9ea2d (l : Launch) (D : va_G) (tc : Nat → ClassId) (z0 : Nat) (L : List Nat) (κ : Nat → Nat) (g : Nat → Nat → Value) (sz : Nat) (p0 K e KA KE n : Nat) (mo : Int32) (f : Nat → Nat) (hO : zO K = some (1, [(10, 0), (18, 0), (10, 0)])) (hL : zLi κ g z0 p0 K e KA KE n mo f) (hA0 : zO KA = none) (hR : zR KA = some (6, 10, 4, (12, KE))) (hK9 : KA < 99) (hK8 : K < 99) (hne : K ≠ KA) (ciE : Nat) (tsE : List (Nat × Nat)) (x : Nat) (hkx : κ x = KE) (hn8 : n < 9) (hKE : KE < 99) (hneE : KE ≠ KA) (CE : String) (TE : u_T) (NE : Nat) (hoE : zO KE = some (ciE, tsE)) (hcE : vwCl[ciE]? = some (CE, TE, NE)) (hcaE : Cond.castable CE "java/lang/Object" ∈ tables_1) : Met l yJx4a65c_add_9ea2d wsJx4a65c_add_9ea2d ({ frames := 4, cells := 1, slots := 10, locals := 88 }) (zPc D tc z0 [.ref p0, .ref x] [] (L, κ, g) sz) (va_Qi (fun (r : Int32) (u : zS) => r = 1 ∧ ∃ e2, zLi u.2.1 u.2.2 z0 p0 K e2 KA KE (n + 1) (mo + 1) (va_up f n x) ∧ (∀ a, κ a < 99 → u.2.1 a = κ a) ∧ ∀ b j, κ b < 99 → b ≠ p0 → κ b ≠ KA → u.2.2 b j = g b j) (fun (u : zS) (t : State) => zB D tc (zA [] L sz) [] u t) (zA [] L sz)) 1 10 (zA [] L sz) := by
  refine Met.ofW (cc := cJx4a65c_add_9ea2d) (maxL := 2) (ret := (some .boolean)) (by decide) rfl ?_
  intro p e9 s m args below meth c s₁ B hml hv
  obtain ⟨rfl, rfl, hK, hE, hI⟩ := hv.opn
  have hx := B.exec
  have hb := B.bytes
  have hr := B.returns
  have hts := atoms_spec (ws := wsJx4a65c_add_9ea2d) B.pre
  have hown : s.vm.findClass RJx4a65c = some m.cls := findClass_of_methodNamed B.named
  have hlocks := B.notSynchronized
  have hM : zM p s m c cJx4a65c_add_9ea2d _ wsJx4a65c_add_9ea2d RJx4a65c D tc := ⟨hx, hb, hts, hown, hK⟩
  have hl := lv_entry ([.ref p0, .ref x]) (n := 2) (Nat.le_of_ble_eq_true rfl)
  rw [lg_entry_eq]
  generalize (lg_sl ([.ref p0, .ref x]) ++ List.replicate (2 - (lg_sl ([.ref p0, .ref x])).length) Slot.unset).toArray = ls at hl ⊢
  have hl : lv_has ls 2 [(0, .ref p0), (1, .ref x)] := hl
  have hin9 : ∀ w ∈ wsJx4a65c0, w ∈ wsJx4a65c_add_9ea2d := by decide +kernel
  refine lv_aload_n hx hb dJx4a65c_add_9ea2d_0 rfl (lv_at hl 0 rfl) ?_
  refine lv_dup hx hb dJx4a65c_add_9ea2d_1 rfl ?_
  refine z_get (k := K) (j := 0) hM hI hL.1 hO rfl hin9 rfl (by decide) (by decide +kernel) (fun x9 h9 => u_same (hts (.sameField "java/util/ArrayList" "java/util/AbstractList" "modCount" "I") (by decide +kernel)) x9 h9) dJx4a65c_add_9ea2d_2 (fun v1 hv2 => ?_)
  obtain ⟨hg4, i3, rfl⟩ := hv2
  obtain rfl : mo = i3 := Value.int.inj ((hL.2.1).symm.trans hg4.symm)
  refine lv_iconst (v := 1) hx hb dJx4a65c_add_9ea2d_5 (by decide) ?_
  refine lv_iadd hx hb dJx4a65c_add_9ea2d_6 ?_
  refine z_put (g' := zup g p0 0 (.int (mo + 1))) (k := K) (j := 0) hM hI hL.1 hO rfl hin9 tyJx4a65c tyJx4a65c_ok nmJx4a65c rfl (by decide) (by decide +kernel) (fun x9 h9 => u_same (hts (.sameField "java/util/ArrayList" "java/util/AbstractList" "modCount" "I") (by decide +kernel)) x9 h9) rfl rfl rfl rfl ⟨(zup_self _ _ _ _).symm, _, rfl⟩ (fun b i h => zup_ne h) dJx4a65c_add_9ea2d_7 (fun H locs hI => ?_)
  have hL9 := hL
  have hL := zLi_mo (m2 := mo + 1) hL hne
  refine lv_aload_n hx hb dJx4a65c_add_9ea2d_10 rfl (lv_at hl 0 rfl) ?_
  refine lv_aload_n hx hb dJx4a65c_add_9ea2d_11 rfl (lv_at hl 1 rfl) ?_
  refine lv_aload_n hx hb dJx4a65c_add_9ea2d_12 rfl (lv_at hl 0 rfl) ?_
  refine z_get (k := K) (j := 1) hM hI hL.1 hO rfl hin9 rfl (by decide) (by decide +kernel) (fun _ h9 => h9) dJx4a65c_add_9ea2d_13 (fun v1 hv2 => ?_)
  obtain ⟨hg4, i3, rfl⟩ := hv2
  obtain rfl : e = i3 := Value.ref.inj ((hL.2.2.1).symm.trans hg4.symm)
  refine lv_aload_n hx hb dJx4a65c_add_9ea2d_16 rfl (lv_at hl 0 rfl) ?_
  refine z_get (k := K) (j := 2) hM hI hL.1 hO rfl hin9 rfl (by decide) (by decide +kernel) (fun _ h9 => h9) dJx4a65c_add_9ea2d_17 (fun v1 hv2 => ?_)
  obtain ⟨hg4, i3, rfl⟩ := hv2
  obtain rfl : (nI n) = i3 := Value.int.inj ((hL.2.2.2.1).symm.trans hg4.symm)
  refine z_cv hI (va_runV (As := [.ref x, .ref e, .int (nI n)]) (rest := []) ⟨hx, hb, hml, hown, hts⟩ (c_Jx4a65c_add_72be8 l _ _ _ _ _ _ _ p0 K e KA KE n (mo + 1) f hO hL hA0 hR hK9 hK8 hne ciE tsE x hkx hn8 hKE hneE CE TE NE hoE hcE hcaE) (cwV 3 hts gJx4a65c_add_9ea2d_Jx4a65c_add_72be8 rfl rfl rfl (by decide +kernel) ⟨Nat.le_of_ble_eq_true rfl, Nat.le_of_ble_eq_true rfl⟩) (z_preV hK hE hI [] rfl rfl (z_recv hK hI hL.1 hO rfl)) rfl rfl hl.1 rfl (lv_room (Nat.le_of_ble_eq_true rfl)) dJx4a65c_add_9ea2d_20 ⟨Nat.le_of_ble_eq_true rfl, Nat.le_of_ble_eq_true rfl⟩) (fun u H locs hw hI => ?_)
  obtain ⟨e2, hz1, hz2, hz3⟩ := hw
  refine lv_iconst (v := 1) hx hb dJx4a65c_add_9ea2d_23 (by decide) ?_
  exact W.zret (v := 1) hx hb hr (by decide) (fun t ht hW => ⟨⟨_, u, rfl, ⟨rfl, e2, hz1, hz2, fun b j h1 h2 h3 => (hz3 b j h1 h2 h3).trans (zup_a h2)⟩, z_endG hK hI ht hW⟩, z_F hI ht⟩) (z_locs hI) dJx4a65c_add_9ea2d_24
