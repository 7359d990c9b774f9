set_option maxHeartbeats 4000000 in
set_option maxRecDepth 100000 in
theorem c_X5_take (l : Launch) (D : va_G) (tc : Nat → ClassId) (z0 : Nat) (L : List Nat) (κ : Nat → Nat) (g : Nat → Nat → Value) (sz : Nat) (p0 : Nat) (hk0 : κ p0 = 7) (p1 : Int32) (p2 : Int32) (hr2 : 0 ≤ p2.toInt ∧ p2.toInt < 8) : Met l yX5_take wsX5_take ({ frames := 0, cells := 0, slots := 0, locals := 0 }) (zPc D tc z0 [.ref p0, .int p1, .int p2] [] (L, κ, g) sz) (va_Qv (fun (u : zS) => u = (L, κ, g)) (fun (u : zS) (t : State) => zB D tc (zA [] L sz) [] u t) (zA [] L sz)) 0 0 (zA [] L sz) := by
  refine Met.ofW (cc := cX5_take) (maxL := 3) (ret := none) (by decide) rfl ?_
  intro p e s m args below meth c s₁ B hml hv
  obtain ⟨rfl, rfl, hK, hE, hI⟩ := hv.opn
  have hx := B.exec
  have hb := B.bytes
  have hr := B.returns
  have hts := atoms_spec (ws := wsX5_take) B.pre
  have hown : s.vm.findClass RX5 = some m.cls := findClass_of_methodNamed B.named
  have hlocks := B.notSynchronized
  have hM : zM p s m c cX5_take _ wsX5_take RX5 D tc := ⟨hx, hb, hts, hown, hK⟩
  have hinX5 : ∀ w ∈ wsX50, w ∈ wsX5_take := by decide +kernel
  have hl := lv_entry ([.ref p0, .int p1, .int p2]) (n := 3) (Nat.le_of_ble_eq_true rfl)
  rw [lg_entry_eq]
  generalize (lg_sl ([.ref p0, .int p1, .int p2]) ++ List.replicate (3 - (lg_sl ([.ref p0, .int p1, .int p2])).length) Slot.unset).toArray = ls at hl ⊢
  have hl : lv_has ls 3 [(0, .ref p0), (1, .int p1), (2, .int p2)] := hl
  obtain ⟨hr2a, hr2b⟩ := hr2
  refine lv_aload_n hx hb dX5_take_0 rfl (lv_at hl 0 rfl) ?_
  refine lv_dup hx hb dX5_take_1 rfl ?_
  refine z_get (k := 7) (j := 0) hM hI hk0 rfl rfl hinX5 rfl (by decide) (by decide +kernel) (fun _ h9 => h9) dX5_take_2 (fun v1 hv2 => ?_)
  obtain ⟨i3, rfl⟩ := hv2
  refine lv_iconst (v := 1) hx hb dX5_take_5 (by decide) ?_
  refine lv_iadd hx hb dX5_take_6 ?_
  refine lv_topi (fun v4 e5 => ?_)
  refine z_put (g' := g) (k := 7) (j := 0) hM hI hk0 rfl rfl hinX5 tyX5 tyX5_ok nmX5 rfl (by decide) (by decide +kernel) (fun _ h9 => h9) rfl rfl rfl rfl ⟨_, rfl⟩ (fun _ _ _ => rfl) dX5_take_7 (fun H locs hI => ?_)
  refine lv_aload_n hx hb dX5_take_10 rfl (lv_at hl 0 rfl) ?_
  refine lv_iload_n hx hb dX5_take_11 rfl (lv_at hl 1 rfl) ?_
  refine z_put (g' := g) (k := 7) (j := 1) hM hI hk0 rfl rfl hinX5 tyX5 tyX5_ok nmX5 rfl (by decide) (by decide +kernel) (fun _ h9 => h9) rfl rfl rfl rfl ⟨_, rfl⟩ (fun _ _ _ => rfl) dX5_take_12 (fun H locs hI => ?_)
  refine lv_aload_n hx hb dX5_take_15 rfl (lv_at hl 0 rfl) ?_
  refine lv_iload_n hx hb dX5_take_16 rfl (lv_at hl 1 rfl) ?_
  refine z_put (g' := g) (k := 7) (j := 4) hM hI hk0 rfl rfl hinX5 tyX5 tyX5_ok nmX5 rfl (by decide) (by decide +kernel) (fun _ h9 => h9) rfl rfl rfl rfl ⟨_, rfl⟩ (fun _ _ _ => rfl) dX5_take_17 (fun H locs hI => ?_)
  refine lv_aload_n hx hb dX5_take_20 rfl (lv_at hl 0 rfl) ?_
  refine lv_iload_n hx hb dX5_take_21 rfl (lv_at hl 2 rfl) ?_
  refine z_put (g' := g) (k := 7) (j := 5) hM hI hk0 rfl rfl hinX5 tyX5 tyX5_ok nmX5 rfl (by decide) (by decide +kernel) (fun _ h9 => h9) rfl rfl rfl rfl ⟨_, rfl, by assumption, by assumption⟩ (fun _ _ _ => rfl) dX5_take_22 (fun H locs hI => ?_)
  exact W.vret hx hb hr (fun t ht hW => ⟨⟨(L, κ, g), rfl, rfl, z_end hK hI ht hW⟩, z_F hI ht⟩) (z_locs hI) dX5_take_25

set_option maxHeartbeats 4000000 in
set_option maxRecDepth 100000 in
theorem c_X5_dropBoth (l : Launch) (D : va_G) (tc : Nat → ClassId) (z0 : Nat) (L : List Nat) (κ : Nat → Nat) (g : Nat → Nat → Value) (sz : Nat) (p0 : Nat) (hk0 : κ p0 = 7) : Met l yX5_dropBoth wsX5_dropBoth ({ frames := 0, cells := 0, slots := 0, locals := 0 }) (zPc D tc z0 [.ref p0] [] (L, κ, g) sz) (va_Qi (fun (r : Int32) (u : zS) => (r = 0 ∨ r = 1) ∧ u = (L, κ, g)) (fun (u : zS) (t : State) => zB D tc (zA [] L sz) [] u t) (zA [] L sz)) 0 0 (zA [] L sz) := by
  refine Met.ofW (cc := cX5_dropBoth) (maxL := 2) (ret := (some .boolean)) (by decide) rfl ?_
  intro p e s m args below meth c s₁ B hml hv
  obtain ⟨rfl, rfl, hK, hE, hI⟩ := hv.opn
  have hx := B.exec
  have hb := B.bytes
  have hr := B.returns
  have hts := atoms_spec (ws := wsX5_dropBoth) B.pre
  have hown : s.vm.findClass RX5 = some m.cls := findClass_of_methodNamed B.named
  have hlocks := B.notSynchronized
  have hM : zM p s m c cX5_dropBoth _ wsX5_dropBoth RX5 D tc := ⟨hx, hb, hts, hown, hK⟩
  have hinX5 : ∀ w ∈ wsX50, w ∈ wsX5_dropBoth := by decide +kernel
  have hl := lv_entry ([.ref p0]) (n := 2) (Nat.le_of_ble_eq_true rfl)
  rw [lg_entry_eq]
  generalize (lg_sl ([.ref p0]) ++ List.replicate (2 - (lg_sl ([.ref p0])).length) Slot.unset).toArray = ls at hl ⊢
  have hl : lv_has ls 2 [(0, .ref p0)] := hl
  refine lv_aload_n hx hb dX5_dropBoth_0 rfl (lv_at hl 0 rfl) ?_
  refine z_get (k := 7) (j := 2) hM hI hk0 rfl rfl hinX5 rfl (by decide) (by decide +kernel) (fun _ h9 => h9) dX5_dropBoth_1 (fun v1 hv2 => ?_)
  obtain ⟨i3, rfl⟩ := hv2
  refine lv_if_gt (tgt := 14) hx hb dX5_dropBoth_4 (by decide) (fun c4 => ?_) (fun c4 => ?_)
  · skip
    refine lv_iconst (v := 1) hx hb dX5_dropBoth_14 (by decide) ?_
    refine lv_goto (tgt := 19) hx hb dX5_dropBoth_15 (by decide) ?_
    refine lv_istore_n (lv' := [(1, .int 1), (0, .ref p0)]) hx hb dX5_dropBoth_19 rfl hl (by decide) rfl (fun ls hl => ?_)
    refine lv_aload_n hx hb dX5_dropBoth_20 rfl (lv_at hl 1 rfl) ?_
    refine lv_iconst (v := 0) hx hb dX5_dropBoth_21 (by decide) ?_
    refine z_put (g' := g) (k := 7) (j := 2) hM hI hk0 rfl rfl hinX5 tyX5 tyX5_ok nmX5 rfl (by decide) (by decide +kernel) (fun _ h9 => h9) rfl rfl rfl rfl ⟨_, rfl⟩ (fun _ _ _ => rfl) dX5_dropBoth_22 (fun H locs hI => ?_)
    refine lv_aload_n hx hb dX5_dropBoth_25 rfl (lv_at hl 1 rfl) ?_
    refine lv_iconst (v := 0) hx hb dX5_dropBoth_26 (by decide) ?_
    refine z_put (g' := g) (k := 7) (j := 4) hM hI hk0 rfl rfl hinX5 tyX5 tyX5_ok nmX5 rfl (by decide) (by decide +kernel) (fun _ h9 => h9) rfl rfl rfl rfl ⟨_, rfl⟩ (fun _ _ _ => rfl) dX5_dropBoth_27 (fun H locs hI => ?_)
    refine lv_iload_n hx hb dX5_dropBoth_30 rfl (lv_at hl 0 rfl) ?_
    exact W.zret (v := 1) hx hb hr (by decide) (fun t ht hW => ⟨⟨_, (L, κ, g), rfl, ⟨by first | exact Or.inl rfl | exact Or.inr rfl, rfl⟩, z_end hK hI ht hW⟩, z_F hI ht⟩) (z_locs hI) dX5_dropBoth_31
  · skip
    refine lv_aload_n hx hb dX5_dropBoth_7 rfl (lv_at hl 0 rfl) ?_
    refine z_get (k := 7) (j := 4) hM hI hk0 rfl rfl hinX5 rfl (by decide) (by decide +kernel) (fun _ h9 => h9) dX5_dropBoth_8 (fun v5 hv6 => ?_)
    obtain ⟨i7, rfl⟩ := hv6
    refine lv_if_le (tgt := 18) hx hb dX5_dropBoth_11 (by decide) (fun c8 => ?_) (fun c8 => ?_)
    · skip
      refine lv_iconst (v := 0) hx hb dX5_dropBoth_18 (by decide) ?_
      refine lv_istore_n (lv' := [(1, .int 0), (0, .ref p0)]) hx hb dX5_dropBoth_19 rfl hl (by decide) rfl (fun ls hl => ?_)
      refine lv_aload_n hx hb dX5_dropBoth_20 rfl (lv_at hl 1 rfl) ?_
      refine lv_iconst (v := 0) hx hb dX5_dropBoth_21 (by decide) ?_
      refine z_put (g' := g) (k := 7) (j := 2) hM hI hk0 rfl rfl hinX5 tyX5 tyX5_ok nmX5 rfl (by decide) (by decide +kernel) (fun _ h9 => h9) rfl rfl rfl rfl ⟨_, rfl⟩ (fun _ _ _ => rfl) dX5_dropBoth_22 (fun H locs hI => ?_)
      refine lv_aload_n hx hb dX5_dropBoth_25 rfl (lv_at hl 1 rfl) ?_
      refine lv_iconst (v := 0) hx hb dX5_dropBoth_26 (by decide) ?_
      refine z_put (g' := g) (k := 7) (j := 4) hM hI hk0 rfl rfl hinX5 tyX5 tyX5_ok nmX5 rfl (by decide) (by decide +kernel) (fun _ h9 => h9) rfl rfl rfl rfl ⟨_, rfl⟩ (fun _ _ _ => rfl) dX5_dropBoth_27 (fun H locs hI => ?_)
      refine lv_iload_n hx hb dX5_dropBoth_30 rfl (lv_at hl 0 rfl) ?_
      exact W.zret (v := 0) hx hb hr (by decide) (fun t ht hW => ⟨⟨_, (L, κ, g), rfl, ⟨by first | exact Or.inl rfl | exact Or.inr rfl, rfl⟩, z_end hK hI ht hW⟩, z_F hI ht⟩) (z_locs hI) dX5_dropBoth_31
    · skip
      refine lv_iconst (v := 1) hx hb dX5_dropBoth_14 (by decide) ?_
      refine lv_goto (tgt := 19) hx hb dX5_dropBoth_15 (by decide) ?_
      refine lv_istore_n (lv' := [(1, .int 1), (0, .ref p0)]) hx hb dX5_dropBoth_19 rfl hl (by decide) rfl (fun ls hl => ?_)
      refine lv_aload_n hx hb dX5_dropBoth_20 rfl (lv_at hl 1 rfl) ?_
      refine lv_iconst (v := 0) hx hb dX5_dropBoth_21 (by decide) ?_
      refine z_put (g' := g) (k := 7) (j := 2) hM hI hk0 rfl rfl hinX5 tyX5 tyX5_ok nmX5 rfl (by decide) (by decide +kernel) (fun _ h9 => h9) rfl rfl rfl rfl ⟨_, rfl⟩ (fun _ _ _ => rfl) dX5_dropBoth_22 (fun H locs hI => ?_)
      refine lv_aload_n hx hb dX5_dropBoth_25 rfl (lv_at hl 1 rfl) ?_
      refine lv_iconst (v := 0) hx hb dX5_dropBoth_26 (by decide) ?_
      refine z_put (g' := g) (k := 7) (j := 4) hM hI hk0 rfl rfl hinX5 tyX5 tyX5_ok nmX5 rfl (by decide) (by decide +kernel) (fun _ h9 => h9) rfl rfl rfl rfl ⟨_, rfl⟩ (fun _ _ _ => rfl) dX5_dropBoth_27 (fun H locs hI => ?_)
      refine lv_iload_n hx hb dX5_dropBoth_30 rfl (lv_at hl 0 rfl) ?_
      exact W.zret (v := 1) hx hb hr (by decide) (fun t ht hW => ⟨⟨_, (L, κ, g), rfl, ⟨by first | exact Or.inl rfl | exact Or.inr rfl, rfl⟩, z_end hK hI ht hW⟩, z_F hI ht⟩) (z_locs hI) dX5_dropBoth_31

set_option maxHeartbeats 4000000 in
set_option maxRecDepth 100000 in
theorem c_X8_isFrom (l : Launch) (D : va_G) (tc : Nat → ClassId) (z0 : Nat) (L : List Nat) (κ : Nat → Nat) (g : Nat → Nat → Value) (sz : Nat) (p0 : Int32) (p1 : Int32) (p2 : Int32) : Met l yX8_isFrom wsX8_isFrom ({ frames := 0, cells := 0, slots := 0, locals := 0 }) (zPc D tc z0 [.int p0, .int p1, .int p2] [] (L, κ, g) sz) (vp_Si (fun r : Int32 => r = 0 ↔ ¬ (p0 ≤ p1 ∧ p1 ≤ p2))) 0 0 (fun _ => False) := by
  refine Met.ofW (cc := cX8_isFrom) (maxL := 3) (ret := (some .boolean)) (by decide) rfl ?_
  intro p e s m args below meth c s₁ B hml hv
  obtain ⟨rfl, rfl, hK, hE, hI⟩ := hv.opn
  have hx := B.exec
  have hb := B.bytes
  have hr := B.returns
  have hts := atoms_spec (ws := wsX8_isFrom) B.pre
  have hown : s.vm.findClass RX8 = some m.cls := findClass_of_methodNamed B.named
  have hlocks := B.notSynchronized
  have hM : zM p s m c cX8_isFrom _ wsX8_isFrom RX8 D tc := ⟨hx, hb, hts, hown, hK⟩
  skip
  have hl := lv_entry ([.int p0, .int p1, .int p2]) (n := 3) (Nat.le_of_ble_eq_true rfl)
  rw [lg_entry_eq]
  generalize (lg_sl ([.int p0, .int p1, .int p2]) ++ List.replicate (3 - (lg_sl ([.int p0, .int p1, .int p2])).length) Slot.unset).toArray = ls at hl ⊢
  have hl : lv_has ls 3 [(0, .int p0), (1, .int p1), (2, .int p2)] := hl
  refine lv_iload_n hx hb dX8_isFrom_0 rfl (lv_at hl 1 rfl) ?_
  refine lv_iload_n hx hb dX8_isFrom_1 rfl (lv_at hl 0 rfl) ?_
  refine lv_icmp_lt (tgt := 14) hx hb dX8_isFrom_2 (by decide) (fun c1 => ?_) (fun c1 => ?_)
  · skip
    refine lv_iconst (v := 0) hx hb dX8_isFrom_14 (by decide) ?_
    exact W.zret (v := 0) hx hb hr (by decide) (fun t ht hW => ⟨_, rfl, ⟨fun _ h => absurd h.1 (Int32.not_le.mpr c1), fun _ => rfl⟩, ht⟩) (fun q h => by cases h) dX8_isFrom_15
  · skip
    refine lv_iload_n hx hb dX8_isFrom_5 rfl (lv_at hl 1 rfl) ?_
    refine lv_iload_n hx hb dX8_isFrom_6 rfl (lv_at hl 2 rfl) ?_
    refine lv_icmp_gt (tgt := 14) hx hb dX8_isFrom_7 (by decide) (fun c2 => ?_) (fun c2 => ?_)
    · skip
      refine lv_iconst (v := 0) hx hb dX8_isFrom_14 (by decide) ?_
      exact W.zret (v := 0) hx hb hr (by decide) (fun t ht hW => ⟨_, rfl, ⟨fun _ h => absurd h.2 (Int32.not_le.mpr c2), fun _ => rfl⟩, ht⟩) (fun q h => by cases h) dX8_isFrom_15
    · skip
      refine lv_iconst (v := 1) hx hb dX8_isFrom_10 (by decide) ?_
      refine lv_goto (tgt := 15) hx hb dX8_isFrom_11 (by decide) ?_
      exact W.zret (v := 1) hx hb hr (by decide) (fun t ht hW => ⟨_, rfl, ⟨fun h => absurd h (by decide), fun h => absurd ⟨Int32.not_lt.mp c1, Int32.not_lt.mp c2⟩ h⟩, ht⟩) (fun q h => by cases h) dX8_isFrom_15

set_option maxHeartbeats 4000000 in
set_option maxRecDepth 100000 in
theorem c_X8_coreAt (l : Launch) (hnt : l.stackTraces = false) (D : va_G) (tc : Nat → ClassId) (z0 : Nat) (L : List Nat) (κ : Nat → Nat) (g : Nat → Nat → Value) (sz : Nat) (p0 : Nat) (hk0 : κ p0 = 10) (p1 : Int32) (aC : Nat) (hC : g p0 1 = .ref aC) : vx_Met l yX8_coreAt wsX8_coreAt ({ frames := 6, cells := 1, slots := 6, locals := 98 }) (zPc D tc z0 [.ref p0, .int p1] [] (L, κ, g) sz) (va_Qq (fun (r : Option Nat) (u : zS) => ∃ a : Nat, r = some a ∧ κ a = 5 ∧ (vp_in p1 6 ∧ g aC p1.toNatClampNeg = .ref a) ∧ u = (L, κ, g)) (fun (u : zS) (t : State) => zB D tc (zA [] L sz) [] u t) (zA [] L sz)) (vx_X (fun u : zS => True) (fun (E : String) (u : zS) (t : State) => ((E = "java/lang/IndexOutOfBoundsException" ∧ ¬ zHas g aC 6 p1) ∧ u = (L, κ, g)) ∧ zB D tc (zA [] L sz) [] u t) (zA [] L sz)) 1 6 (zA [] L sz) := by
  refine vx_ofW (cc := cX8_coreAt) (maxL := 3) (ret := (some (.object "Wattgovern$Core"))) (by decide) rfl ?_
  intro p e s m args below meth c s₁ B hml hxt hv
  obtain ⟨rfl, rfl, hK, hE, hI⟩ := hv.opn
  have hx := B.exec
  have hb := B.bytes
  have hr := B.returns
  have hts := atoms_spec (ws := wsX8_coreAt) B.pre
  have hown : s.vm.findClass RX8 = some m.cls := findClass_of_methodNamed B.named
  have hlocks := B.notSynchronized
  have hout : ∀ (i : Nat), ∀ x ∈ c.exceptionTable.toList, covers x i = false := fun i x hx9 => (hxt x hx9).elim
  have hM : zM p s m c cX8_coreAt _ wsX8_coreAt RX8 D tc := ⟨hx, hb, hts, hown, hK⟩
  have hinX8 : ∀ w ∈ wsX80, w ∈ wsX8_coreAt := by decide +kernel
  have hl := lv_entry ([.ref p0, .int p1]) (n := 3) (Nat.le_of_ble_eq_true rfl)
  rw [lg_entry_eq]
  generalize (lg_sl ([.ref p0, .int p1]) ++ List.replicate (3 - (lg_sl ([.ref p0, .int p1])).length) Slot.unset).toArray = ls at hl ⊢
  have hl : lv_has ls 3 [(0, .ref p0), (1, .int p1)] := hl
  refine lv_iload_n hx hb dX8_coreAt_0 rfl (lv_at hl 1 rfl) ?_
  refine lv_if_lt (tgt := 13) hx hb dX8_coreAt_1 (by decide) (fun c1 => ?_) (fun c1 => ?_)
  · skip
    refine lv_null hx hb dX8_coreAt_13 ?_
    refine lv_goto (tgt := 23) hx hb dX8_coreAt_14 (by decide) ?_
    refine lv_astore_nN (lv' := [(2, .null), (0, .ref p0), (1, .int p1)]) hx hb dX8_coreAt_23 rfl hl (by decide) rfl (fun ls hl => ?_)
    refine lv_aload_nN hx hb dX8_coreAt_24 rfl (lv_at hl 0 rfl) ?_
    refine lv_ifnonnullN hx hb dX8_coreAt_25 ?_
    refine z_throwW (ik := 305) (is := 310) (ic := 309) (cls := "java/lang/IndexOutOfBoundsException") (text := "no such core") (L0 := L) ["java/lang/RuntimeException", "java/lang/Exception"] (by decide) hM hE hI hnt (by decide) (by decide +kernel) (by decide +kernel) (by decide +kernel) (by decide +kernel) (by decide +kernel) (by decide +kernel) (hl.1.trans hml.symm) dX8_coreAt_28 dX8_coreAt_31 dX8_coreAt_32 dX8_coreAt_35 dX8_coreAt_38 hout (Nat.le_of_ble_eq_true rfl) (Nat.le_of_ble_eq_true rfl) (Nat.le_of_ble_eq_true rfl) (Nat.le_of_ble_eq_true rfl) hlocks ⟨⟨rfl, (by first | exact z_no (z_neg (by assumption)) | exact z_no (z_out6 (Int32.not_lt.mp (by assumption))) | exact z_nul (by assumption))⟩, rfl⟩ (Nat.le_of_ble_eq_true rfl) (Nat.le_of_ble_eq_true rfl)
  · skip
    refine lv_iload_n hx hb dX8_coreAt_4 rfl (lv_at hl 1 rfl) ?_
    refine lv_aload_n hx hb dX8_coreAt_5 rfl (lv_at hl 0 rfl) ?_
    refine z_get (k := 10) (j := 1) hM hI hk0 rfl rfl hinX8 rfl (by decide) (by decide +kernel) (fun _ h9 => h9) dX8_coreAt_6 (fun v2 hv3 => ?_)
    obtain ⟨hg5, i4, rfl, hr6⟩ := hv3
    obtain rfl : aC = i4 := Value.ref.inj ((hC).symm.trans hg5.symm)
    refine z_alen (v := 6) hM hI hr6 rfl rfl rfl (by decide) dX8_coreAt_9 ?_
    refine lv_icmp_lt (tgt := 17) hx hb dX8_coreAt_10 (by decide) (fun c7 => ?_) (fun c7 => ?_)
    · skip
      refine lv_aload_n hx hb dX8_coreAt_17 rfl (lv_at hl 0 rfl) ?_
      refine z_get (k := 10) (j := 1) hM hI hk0 rfl rfl hinX8 rfl (by decide) (by decide +kernel) (fun _ h9 => h9) dX8_coreAt_18 (fun v8 hv9 => ?_)
      obtain ⟨hg11, i10, rfl, hr12⟩ := hv9
      obtain rfl : aC = i10 := Value.ref.inj ((hC).symm.trans hg11.symm)
      refine lv_iload_n hx hb dX8_coreAt_21 rfl (lv_at hl 1 rfl) ?_
      refine z_aald hM hI hr12 rfl rfl rfl (z_in6 (by assumption) (Int32.not_le.mpr (by assumption))) dX8_coreAt_22 (fun x13 hv14 => ?_)
      obtain ⟨hghv14, hn17 | ⟨r15, hn17, hr16⟩⟩ := hv14
      · rw [hn17]
        rw [hn17] at hghv14
        refine lv_astore_nN (lv' := [(2, .null), (0, .ref p0), (1, .int p1)]) hx hb dX8_coreAt_23 rfl hl (by decide) rfl (fun ls hl => ?_)
        refine lv_aload_nN hx hb dX8_coreAt_24 rfl (lv_at hl 0 rfl) ?_
        refine lv_ifnonnullN hx hb dX8_coreAt_25 ?_
        refine z_throwW (ik := 305) (is := 310) (ic := 309) (cls := "java/lang/IndexOutOfBoundsException") (text := "no such core") (L0 := L) ["java/lang/RuntimeException", "java/lang/Exception"] (by decide) hM hE hI hnt (by decide) (by decide +kernel) (by decide +kernel) (by decide +kernel) (by decide +kernel) (by decide +kernel) (by decide +kernel) (hl.1.trans hml.symm) dX8_coreAt_28 dX8_coreAt_31 dX8_coreAt_32 dX8_coreAt_35 dX8_coreAt_38 hout (Nat.le_of_ble_eq_true rfl) (Nat.le_of_ble_eq_true rfl) (Nat.le_of_ble_eq_true rfl) (Nat.le_of_ble_eq_true rfl) hlocks ⟨⟨rfl, (by first | exact z_no (z_neg (by assumption)) | exact z_no (z_out6 (Int32.not_lt.mp (by assumption))) | exact z_nul (by assumption))⟩, rfl⟩ (Nat.le_of_ble_eq_true rfl) (Nat.le_of_ble_eq_true rfl)
      · rw [hn17]
        rw [hn17] at hghv14
        refine lv_astore_n (lv' := [(2, .ref r15), (0, .ref p0), (1, .int p1)]) hx hb dX8_coreAt_23 rfl hl (by decide) rfl (fun ls hl => ?_)
        refine lv_aload_n hx hb dX8_coreAt_24 rfl (lv_at hl 0 rfl) ?_
        refine lv_ifnonnull (tgt := 39) hx hb dX8_coreAt_25 (by decide) ?_
        refine lv_aload_n hx hb dX8_coreAt_39 rfl (lv_at hl 0 rfl) ?_
        refine vx_ret ?_
        refine W.widen (k := 1) (n := 6) (Nat.le_of_ble_eq_true rfl) (Nat.le_of_ble_eq_true rfl) ?_
        exact W.aret (v := .ref r15) hx hb hr (Or.inl ⟨_, rfl⟩) (Or.inr ⟨_, rfl⟩) (fun t ht hW => ⟨⟨some r15, (L, κ, g), rfl, ⟨_, rfl, hr16, ⟨z_in6 (by assumption) (Int32.not_le.mpr (by assumption)), Eq.symm (by assumption)⟩, rfl⟩, z_end hK hI ht hW⟩, z_F hI ht⟩) (z_locs hI) dX8_coreAt_40
    · skip
      refine lv_null hx hb dX8_coreAt_13 ?_
      refine lv_goto (tgt := 23) hx hb dX8_coreAt_14 (by decide) ?_
      refine lv_astore_nN (lv' := [(2, .null), (0, .ref p0), (1, .int p1)]) hx hb dX8_coreAt_23 rfl hl (by decide) rfl (fun ls hl => ?_)
      refine lv_aload_nN hx hb dX8_coreAt_24 rfl (lv_at hl 0 rfl) ?_
      refine lv_ifnonnullN hx hb dX8_coreAt_25 ?_
      refine z_throwW (ik := 305) (is := 310) (ic := 309) (cls := "java/lang/IndexOutOfBoundsException") (text := "no such core") (L0 := L) ["java/lang/RuntimeException", "java/lang/Exception"] (by decide) hM hE hI hnt (by decide) (by decide +kernel) (by decide +kernel) (by decide +kernel) (by decide +kernel) (by decide +kernel) (by decide +kernel) (hl.1.trans hml.symm) dX8_coreAt_28 dX8_coreAt_31 dX8_coreAt_32 dX8_coreAt_35 dX8_coreAt_38 hout (Nat.le_of_ble_eq_true rfl) (Nat.le_of_ble_eq_true rfl) (Nat.le_of_ble_eq_true rfl) (Nat.le_of_ble_eq_true rfl) hlocks ⟨⟨rfl, (by first | exact z_no (z_neg (by assumption)) | exact z_no (z_out6 (Int32.not_lt.mp (by assumption))) | exact z_nul (by assumption))⟩, rfl⟩ (Nat.le_of_ble_eq_true rfl) (Nat.le_of_ble_eq_true rfl)

set_option maxHeartbeats 4000000 in
set_option maxRecDepth 100000 in
theorem c_X8_taskAt (l : Launch) (hnt : l.stackTraces = false) (D : va_G) (tc : Nat → ClassId) (z0 : Nat) (L : List Nat) (κ : Nat → Nat) (g : Nat → Nat → Value) (sz : Nat) (p0 : Nat) (hk0 : κ p0 = 10) (p1 : Int32) (aC : Nat) (hC : g p0 2 = .ref aC) : vx_Met l yX8_taskAt wsX8_taskAt ({ frames := 6, cells := 1, slots := 6, locals := 98 }) (zPc D tc z0 [.ref p0, .int p1] [] (L, κ, g) sz) (va_Qq (fun (r : Option Nat) (u : zS) => ∃ a : Nat, r = some a ∧ κ a = 9 ∧ (vp_in p1 8 ∧ g aC p1.toNatClampNeg = .ref a) ∧ u = (L, κ, g)) (fun (u : zS) (t : State) => zB D tc (zA [] L sz) [] u t) (zA [] L sz)) (vx_X (fun u : zS => True) (fun (E : String) (u : zS) (t : State) => ((E = "java/lang/IndexOutOfBoundsException" ∧ ¬ zHas g aC 8 p1) ∧ u = (L, κ, g)) ∧ zB D tc (zA [] L sz) [] u t) (zA [] L sz)) 1 6 (zA [] L sz) := by
  refine vx_ofW (cc := cX8_taskAt) (maxL := 3) (ret := (some (.object "Wattgovern$Task"))) (by decide) rfl ?_
  intro p e s m args below meth c s₁ B hml hxt hv
  obtain ⟨rfl, rfl, hK, hE, hI⟩ := hv.opn
  have hx := B.exec
  have hb := B.bytes
  have hr := B.returns
  have hts := atoms_spec (ws := wsX8_taskAt) B.pre
  have hown : s.vm.findClass RX8 = some m.cls := findClass_of_methodNamed B.named
  have hlocks := B.notSynchronized
  have hout : ∀ (i : Nat), ∀ x ∈ c.exceptionTable.toList, covers x i = false := fun i x hx9 => (hxt x hx9).elim
  have hM : zM p s m c cX8_taskAt _ wsX8_taskAt RX8 D tc := ⟨hx, hb, hts, hown, hK⟩
  have hinX8 : ∀ w ∈ wsX80, w ∈ wsX8_taskAt := by decide +kernel
  have hl := lv_entry ([.ref p0, .int p1]) (n := 3) (Nat.le_of_ble_eq_true rfl)
  rw [lg_entry_eq]
  generalize (lg_sl ([.ref p0, .int p1]) ++ List.replicate (3 - (lg_sl ([.ref p0, .int p1])).length) Slot.unset).toArray = ls at hl ⊢
  have hl : lv_has ls 3 [(0, .ref p0), (1, .int p1)] := hl
  refine lv_iload_n hx hb dX8_taskAt_0 rfl (lv_at hl 1 rfl) ?_
  refine lv_if_lt (tgt := 13) hx hb dX8_taskAt_1 (by decide) (fun c1 => ?_) (fun c1 => ?_)
  · skip
    refine lv_null hx hb dX8_taskAt_13 ?_
    refine lv_goto (tgt := 23) hx hb dX8_taskAt_14 (by decide) ?_
    refine lv_astore_nN (lv' := [(2, .null), (0, .ref p0), (1, .int p1)]) hx hb dX8_taskAt_23 rfl hl (by decide) rfl (fun ls hl => ?_)
    refine lv_aload_nN hx hb dX8_taskAt_24 rfl (lv_at hl 0 rfl) ?_
    refine lv_ifnonnullN hx hb dX8_taskAt_25 ?_
    refine z_throwW (ik := 305) (is := 312) (ic := 309) (cls := "java/lang/IndexOutOfBoundsException") (text := "no such thread") (L0 := L) ["java/lang/RuntimeException", "java/lang/Exception"] (by decide) hM hE hI hnt (by decide) (by decide +kernel) (by decide +kernel) (by decide +kernel) (by decide +kernel) (by decide +kernel) (by decide +kernel) (hl.1.trans hml.symm) dX8_taskAt_28 dX8_taskAt_31 dX8_taskAt_32 dX8_taskAt_35 dX8_taskAt_38 hout (Nat.le_of_ble_eq_true rfl) (Nat.le_of_ble_eq_true rfl) (Nat.le_of_ble_eq_true rfl) (Nat.le_of_ble_eq_true rfl) hlocks ⟨⟨rfl, (by first | exact z_no (z_neg (by assumption)) | exact z_no (z_out8 (Int32.not_lt.mp (by assumption))) | exact z_nul (by assumption))⟩, rfl⟩ (Nat.le_of_ble_eq_true rfl) (Nat.le_of_ble_eq_true rfl)
  · skip
    refine lv_iload_n hx hb dX8_taskAt_4 rfl (lv_at hl 1 rfl) ?_
    refine lv_aload_n hx hb dX8_taskAt_5 rfl (lv_at hl 0 rfl) ?_
    refine z_get (k := 10) (j := 2) hM hI hk0 rfl rfl hinX8 rfl (by decide) (by decide +kernel) (fun _ h9 => h9) dX8_taskAt_6 (fun v2 hv3 => ?_)
    obtain ⟨hg5, i4, rfl, hr6⟩ := hv3
    obtain rfl : aC = i4 := Value.ref.inj ((hC).symm.trans hg5.symm)
    refine z_alen (v := 8) hM hI hr6 rfl rfl rfl (by decide) dX8_taskAt_9 ?_
    refine lv_icmp_lt (tgt := 17) hx hb dX8_taskAt_10 (by decide) (fun c7 => ?_) (fun c7 => ?_)
    · skip
      refine lv_aload_n hx hb dX8_taskAt_17 rfl (lv_at hl 0 rfl) ?_
      refine z_get (k := 10) (j := 2) hM hI hk0 rfl rfl hinX8 rfl (by decide) (by decide +kernel) (fun _ h9 => h9) dX8_taskAt_18 (fun v8 hv9 => ?_)
      obtain ⟨hg11, i10, rfl, hr12⟩ := hv9
      obtain rfl : aC = i10 := Value.ref.inj ((hC).symm.trans hg11.symm)
      refine lv_iload_n hx hb dX8_taskAt_21 rfl (lv_at hl 1 rfl) ?_
      refine z_aald hM hI hr12 rfl rfl rfl (z_in8 (by assumption) (Int32.not_le.mpr (by assumption))) dX8_taskAt_22 (fun x13 hv14 => ?_)
      obtain ⟨hghv14, hn17 | ⟨r15, hn17, hr16⟩⟩ := hv14
      · rw [hn17]
        rw [hn17] at hghv14
        refine lv_astore_nN (lv' := [(2, .null), (0, .ref p0), (1, .int p1)]) hx hb dX8_taskAt_23 rfl hl (by decide) rfl (fun ls hl => ?_)
        refine lv_aload_nN hx hb dX8_taskAt_24 rfl (lv_at hl 0 rfl) ?_
        refine lv_ifnonnullN hx hb dX8_taskAt_25 ?_
        refine z_throwW (ik := 305) (is := 312) (ic := 309) (cls := "java/lang/IndexOutOfBoundsException") (text := "no such thread") (L0 := L) ["java/lang/RuntimeException", "java/lang/Exception"] (by decide) hM hE hI hnt (by decide) (by decide +kernel) (by decide +kernel) (by decide +kernel) (by decide +kernel) (by decide +kernel) (by decide +kernel) (hl.1.trans hml.symm) dX8_taskAt_28 dX8_taskAt_31 dX8_taskAt_32 dX8_taskAt_35 dX8_taskAt_38 hout (Nat.le_of_ble_eq_true rfl) (Nat.le_of_ble_eq_true rfl) (Nat.le_of_ble_eq_true rfl) (Nat.le_of_ble_eq_true rfl) hlocks ⟨⟨rfl, (by first | exact z_no (z_neg (by assumption)) | exact z_no (z_out8 (Int32.not_lt.mp (by assumption))) | exact z_nul (by assumption))⟩, rfl⟩ (Nat.le_of_ble_eq_true rfl) (Nat.le_of_ble_eq_true rfl)
      · rw [hn17]
        rw [hn17] at hghv14
        refine lv_astore_n (lv' := [(2, .ref r15), (0, .ref p0), (1, .int p1)]) hx hb dX8_taskAt_23 rfl hl (by decide) rfl (fun ls hl => ?_)
        refine lv_aload_n hx hb dX8_taskAt_24 rfl (lv_at hl 0 rfl) ?_
        refine lv_ifnonnull (tgt := 39) hx hb dX8_taskAt_25 (by decide) ?_
        refine lv_aload_n hx hb dX8_taskAt_39 rfl (lv_at hl 0 rfl) ?_
        refine vx_ret ?_
        refine W.widen (k := 1) (n := 6) (Nat.le_of_ble_eq_true rfl) (Nat.le_of_ble_eq_true rfl) ?_
        exact W.aret (v := .ref r15) hx hb hr (Or.inl ⟨_, rfl⟩) (Or.inr ⟨_, rfl⟩) (fun t ht hW => ⟨⟨some r15, (L, κ, g), rfl, ⟨_, rfl, hr16, ⟨z_in8 (by assumption) (Int32.not_le.mpr (by assumption)), Eq.symm (by assumption)⟩, rfl⟩, z_end hK hI ht hW⟩, z_F hI ht⟩) (z_locs hI) dX8_taskAt_40
    · skip
      refine lv_null hx hb dX8_taskAt_13 ?_
      refine lv_goto (tgt := 23) hx hb dX8_taskAt_14 (by decide) ?_
      refine lv_astore_nN (lv' := [(2, .null), (0, .ref p0), (1, .int p1)]) hx hb dX8_taskAt_23 rfl hl (by decide) rfl (fun ls hl => ?_)
      refine lv_aload_nN hx hb dX8_taskAt_24 rfl (lv_at hl 0 rfl) ?_
      refine lv_ifnonnullN hx hb dX8_taskAt_25 ?_
      refine z_throwW (ik := 305) (is := 312) (ic := 309) (cls := "java/lang/IndexOutOfBoundsException") (text := "no such thread") (L0 := L) ["java/lang/RuntimeException", "java/lang/Exception"] (by decide) hM hE hI hnt (by decide) (by decide +kernel) (by decide +kernel) (by decide +kernel) (by decide +kernel) (by decide +kernel) (by decide +kernel) (hl.1.trans hml.symm) dX8_taskAt_28 dX8_taskAt_31 dX8_taskAt_32 dX8_taskAt_35 dX8_taskAt_38 hout (Nat.le_of_ble_eq_true rfl) (Nat.le_of_ble_eq_true rfl) (Nat.le_of_ble_eq_true rfl) (Nat.le_of_ble_eq_true rfl) hlocks ⟨⟨rfl, (by first | exact z_no (z_neg (by assumption)) | exact z_no (z_out8 (Int32.not_lt.mp (by assumption))) | exact z_nul (by assumption))⟩, rfl⟩ (Nat.le_of_ble_eq_true rfl) (Nat.le_of_ble_eq_true rfl)

set_option maxHeartbeats 4000000 in
set_option maxRecDepth 100000 in
theorem c_X8_railAt (l : Launch) (hnt : l.stackTraces = false) (D : va_G) (tc : Nat → ClassId) (z0 : Nat) (L : List Nat) (κ : Nat → Nat) (g : Nat → Nat → Value) (sz : Nat) (p0 : Nat) (hk0 : κ p0 = 10) (p1 : Int32) : vx_Met l yX8_railAt wsX8_railAt ({ frames := 6, cells := 1, slots := 6, locals := 98 }) (zPc D tc z0 [.ref p0, .int p1] [] (L, κ, g) sz) (va_Qq (fun (r : Option Nat) (u : zS) => ∃ a : Nat, r = some a ∧ κ a = 6 ∧ vp_in p1 3 ∧ u = (L, κ, g)) (fun (u : zS) (t : State) => zB D tc (zA [] L sz) [] u t) (zA [] L sz)) (vx_X (fun u : zS => True) (fun (E : String) (u : zS) (t : State) => ((E = "java/lang/IndexOutOfBoundsException" ∧ ¬ vp_in p1 3) ∧ u = (L, κ, g)) ∧ zB D tc (zA [] L sz) [] u t) (zA [] L sz)) 1 6 (zA [] L sz) := by
  refine vx_ofW (cc := cX8_railAt) (maxL := 3) (ret := (some (.object "Wattgovern$Rail"))) (by decide) rfl ?_
  intro p e s m args below meth c s₁ B hml hxt hv
  obtain ⟨rfl, rfl, hK, hE, hI⟩ := hv.opn
  have hx := B.exec
  have hb := B.bytes
  have hr := B.returns
  have hts := atoms_spec (ws := wsX8_railAt) B.pre
  have hown : s.vm.findClass RX8 = some m.cls := findClass_of_methodNamed B.named
  have hlocks := B.notSynchronized
  have hout : ∀ (i : Nat), ∀ x ∈ c.exceptionTable.toList, covers x i = false := fun i x hx9 => (hxt x hx9).elim
  have hM : zM p s m c cX8_railAt _ wsX8_railAt RX8 D tc := ⟨hx, hb, hts, hown, hK⟩
  have hinX8 : ∀ w ∈ wsX80, w ∈ wsX8_railAt := by decide +kernel
  have hl := lv_entry ([.ref p0, .int p1]) (n := 3) (Nat.le_of_ble_eq_true rfl)
  rw [lg_entry_eq]
  generalize (lg_sl ([.ref p0, .int p1]) ++ List.replicate (3 - (lg_sl ([.ref p0, .int p1])).length) Slot.unset).toArray = ls at hl ⊢
  have hl : lv_has ls 3 [(0, .ref p0), (1, .int p1)] := hl
  refine lv_iload_n hx hb dX8_railAt_0 rfl (lv_at hl 1 rfl) ?_
  refine lv_if_lt (tgt := 13) hx hb dX8_railAt_1 (by decide) (fun c1 => ?_) (fun c1 => ?_)
  · skip
    refine lv_null hx hb dX8_railAt_13 ?_
    refine lv_goto (tgt := 23) hx hb dX8_railAt_14 (by decide) ?_
    refine lv_astore_nN (lv' := [(2, .null), (0, .ref p0), (1, .int p1)]) hx hb dX8_railAt_23 rfl hl (by decide) rfl (fun ls hl => ?_)
    refine lv_aload_nN hx hb dX8_railAt_24 rfl (lv_at hl 0 rfl) ?_
    refine lv_ifnonnullN hx hb dX8_railAt_25 ?_
    refine z_throwW (ik := 305) (is := 307) (ic := 309) (cls := "java/lang/IndexOutOfBoundsException") (text := "no such rail") (L0 := L) ["java/lang/RuntimeException", "java/lang/Exception"] (by decide) hM hE hI hnt (by decide) (by decide +kernel) (by decide +kernel) (by decide +kernel) (by decide +kernel) (by decide +kernel) (by decide +kernel) (hl.1.trans hml.symm) dX8_railAt_28 dX8_railAt_31 dX8_railAt_32 dX8_railAt_35 dX8_railAt_38 hout (Nat.le_of_ble_eq_true rfl) (Nat.le_of_ble_eq_true rfl) (Nat.le_of_ble_eq_true rfl) (Nat.le_of_ble_eq_true rfl) hlocks ⟨⟨rfl, (by first | exact z_neg (by assumption) | exact z_out3 (Int32.not_lt.mp (by assumption)))⟩, rfl⟩ (Nat.le_of_ble_eq_true rfl) (Nat.le_of_ble_eq_true rfl)
  · skip
    refine lv_iload_n hx hb dX8_railAt_4 rfl (lv_at hl 1 rfl) ?_
    refine lv_aload_n hx hb dX8_railAt_5 rfl (lv_at hl 0 rfl) ?_
    refine z_get (k := 10) (j := 0) hM hI hk0 rfl rfl hinX8 rfl (by decide) (by decide +kernel) (fun _ h9 => h9) dX8_railAt_6 (fun v2 hv3 => ?_)
    obtain ⟨hg5, i4, rfl, hr6⟩ := hv3
    refine z_alen (v := 3) hM hI hr6 rfl rfl rfl (by decide) dX8_railAt_9 ?_
    refine lv_icmp_lt (tgt := 17) hx hb dX8_railAt_10 (by decide) (fun c7 => ?_) (fun c7 => ?_)
    · skip
      refine lv_aload_n hx hb dX8_railAt_17 rfl (lv_at hl 0 rfl) ?_
      refine z_get (k := 10) (j := 0) hM hI hk0 rfl rfl hinX8 rfl (by decide) (by decide +kernel) (fun _ h9 => h9) dX8_railAt_18 (fun v8 hv9 => ?_)
      obtain ⟨hg11, i10, rfl, hr12⟩ := hv9
      refine lv_iload_n hx hb dX8_railAt_21 rfl (lv_at hl 1 rfl) ?_
      refine z_aald hM hI hr12 rfl rfl rfl (z_in3 (by assumption) (Int32.not_le.mpr (by assumption))) dX8_railAt_22 (fun x13 hv14 => ?_)
      obtain ⟨r15, hn17, hr16⟩ := hv14
      rw [hn17]
      refine lv_astore_n (lv' := [(2, .ref r15), (0, .ref p0), (1, .int p1)]) hx hb dX8_railAt_23 rfl hl (by decide) rfl (fun ls hl => ?_)
      refine lv_aload_n hx hb dX8_railAt_24 rfl (lv_at hl 0 rfl) ?_
      refine lv_ifnonnull (tgt := 39) hx hb dX8_railAt_25 (by decide) ?_
      refine lv_aload_n hx hb dX8_railAt_39 rfl (lv_at hl 0 rfl) ?_
      refine vx_ret ?_
      refine W.widen (k := 1) (n := 6) (Nat.le_of_ble_eq_true rfl) (Nat.le_of_ble_eq_true rfl) ?_
      exact W.aret (v := .ref r15) hx hb hr (Or.inl ⟨_, rfl⟩) (Or.inr ⟨_, rfl⟩) (fun t ht hW => ⟨⟨some r15, (L, κ, g), rfl, ⟨_, rfl, hr16, z_in3 (by assumption) (Int32.not_le.mpr (by assumption)), rfl⟩, z_end hK hI ht hW⟩, z_F hI ht⟩) (z_locs hI) dX8_railAt_40
    · skip
      refine lv_null hx hb dX8_railAt_13 ?_
      refine lv_goto (tgt := 23) hx hb dX8_railAt_14 (by decide) ?_
      refine lv_astore_nN (lv' := [(2, .null), (0, .ref p0), (1, .int p1)]) hx hb dX8_railAt_23 rfl hl (by decide) rfl (fun ls hl => ?_)
      refine lv_aload_nN hx hb dX8_railAt_24 rfl (lv_at hl 0 rfl) ?_
      refine lv_ifnonnullN hx hb dX8_railAt_25 ?_
      refine z_throwW (ik := 305) (is := 307) (ic := 309) (cls := "java/lang/IndexOutOfBoundsException") (text := "no such rail") (L0 := L) ["java/lang/RuntimeException", "java/lang/Exception"] (by decide) hM hE hI hnt (by decide) (by decide +kernel) (by decide +kernel) (by decide +kernel) (by decide +kernel) (by decide +kernel) (by decide +kernel) (hl.1.trans hml.symm) dX8_railAt_28 dX8_railAt_31 dX8_railAt_32 dX8_railAt_35 dX8_railAt_38 hout (Nat.le_of_ble_eq_true rfl) (Nat.le_of_ble_eq_true rfl) (Nat.le_of_ble_eq_true rfl) (Nat.le_of_ble_eq_true rfl) hlocks ⟨⟨rfl, (by first | exact z_neg (by assumption) | exact z_out3 (Int32.not_lt.mp (by assumption)))⟩, rfl⟩ (Nat.le_of_ble_eq_true rfl) (Nat.le_of_ble_eq_true rfl)

set_option maxHeartbeats 4000000 in
set_option maxRecDepth 100000 in
theorem c_X8_speed (l : Launch) (hnt : l.stackTraces = false) (D : va_G) (tc : Nat → ClassId) (z0 : Nat) (L : List Nat) (κ : Nat → Nat) (g : Nat → Nat → Value) (sz : Nat) (p0 : Nat) (hk0 : κ p0 = 10) (p1 : Int32) (aC : Nat) (hC : g p0 1 = .ref aC) : vx_Met l yX8_speed wsX8_speed ({ frames := 7, cells := 1, slots := 6, locals := 120 }) (zPc D tc z0 [.ref p0, .int p1] [] (L, κ, g) sz) (va_Qi (fun (r : Int32) (u : zS) => zHas g aC 6 p1 ∧ u = (L, κ, g)) (fun (u : zS) (t : State) => zB D tc (zA [] L sz) [] u t) (zA [] L sz)) (vx_X (fun u : zS => True) (fun (E : String) (u : zS) (t : State) => (((E = "java/lang/IndexOutOfBoundsException" ∧ ¬ zHas g aC 6 p1)) ∧ u = (L, κ, g)) ∧ zB D tc (zA [] L sz) [] u t) (zA [] L sz)) 1 6 (zA [] L sz) := by
  refine vx_ofW (cc := cX8_speed) (maxL := 2) (ret := (some .int)) (by decide) rfl ?_
  intro p e s m args below meth c s₁ B hml hxt hv
  obtain ⟨rfl, rfl, hK, hE, hI⟩ := hv.opn
  have hx := B.exec
  have hb := B.bytes
  have hr := B.returns
  have hts := atoms_spec (ws := wsX8_speed) B.pre
  have hown : s.vm.findClass RX8 = some m.cls := findClass_of_methodNamed B.named
  have hlocks := B.notSynchronized
  have hout : ∀ (i : Nat), ∀ x ∈ c.exceptionTable.toList, covers x i = false := fun i x hx9 => (hxt x hx9).elim
  have hM : zM p s m c cX8_speed _ wsX8_speed RX8 D tc := ⟨hx, hb, hts, hown, hK⟩
  have hinX3 : ∀ w ∈ wsX30, w ∈ wsX8_speed := by decide +kernel
  have hl := lv_entry ([.ref p0, .int p1]) (n := 2) (Nat.le_of_ble_eq_true rfl)
  rw [lg_entry_eq]
  generalize (lg_sl ([.ref p0, .int p1]) ++ List.replicate (2 - (lg_sl ([.ref p0, .int p1])).length) Slot.unset).toArray = ls at hl ⊢
  have hl : lv_has ls 2 [(0, .ref p0), (1, .int p1)] := hl
  refine lv_aload_n hx hb dX8_speed_0 rfl (lv_at hl 0 rfl) ?_
  refine lv_iload_n hx hb dX8_speed_1 rfl (lv_at hl 1 rfl) ?_
  refine z_xq hI (vx_runV (As := [.int p1]) (rest := []) ⟨hx, hb, hml, hown, hts⟩ (c_X8_coreAt l hnt _ _ _ _ _ _ _ p0 hk0 p1 aC hC) (cwV 1 hts gX8_speed_X8_coreAt rfl rfl rfl (by decide +kernel) ⟨Nat.le_of_ble_eq_true rfl, Nat.le_of_ble_eq_true rfl⟩) (z_preV hK hE hI [] rfl rfl (z_recv hK hI hk0 rfl rfl)) rfl rfl hl.1 rfl (lv_room (Nat.le_of_ble_eq_true rfl)) dX8_speed_2 ⟨Nat.le_of_ble_eq_true rfl, Nat.le_of_ble_eq_true rfl⟩) (fun E ce q9 u H locs hw hI he1 he2 he3 => ?_) (fun v1 u H locs hw2 hI => ?_)
  · obtain ⟨hxp, rfl⟩ := hw
    exact z_pass hK hI hout hlocks he1 he2 he3 (by first | exact ⟨hxp, rfl⟩ | exact ⟨Or.inl hxp, rfl⟩ | exact ⟨Or.inr hxp, rfl⟩ | exact ⟨Or.inr (Or.inl hxp), rfl⟩ | exact ⟨Or.inr (Or.inr hxp), rfl⟩) (Nat.le_of_ble_eq_true rfl) (Nat.le_of_ble_eq_true rfl)
  obtain ⟨r3, rfl, hr4, hq5, rfl⟩ := hw2
  show W p l e (headSpec wsX8_speed ({ frames := 7, cells := 1, slots := 6, locals := 120 })).room s m ([.ref p0, .int p1] : List Value).toArray below meth c _ _ 1 6 (vx_MQ below (va_Qi (fun (r : Int32) (u : zS) => zHas g aC 6 p1 ∧ u = (L, κ, g)) (fun (u : zS) (t : State) => zB D tc (zA [] L s.heap.size) [] u t) (zA [] L s.heap.size)) (vx_X (fun u : zS => True) (fun (E : String) (u : zS) (t : State) => (((E = "java/lang/IndexOutOfBoundsException" ∧ ¬ zHas g aC 6 p1)) ∧ u = (L, κ, g)) ∧ zB D tc (zA [] L s.heap.size) [] u t) (zA [] L s.heap.size)) ([.ref p0, .int p1] : List Value).toArray s 1 6 (zA [] L s.heap.size)) (F0 m 5 ls (.ref r3 :: []))
  refine z_get (k := 5) (j := 7) hM hI hr4 rfl rfl hinX3 rfl (by decide) (by decide +kernel) (fun _ h9 => h9) dX8_speed_5 (fun v6 hv7 => ?_)
  obtain ⟨i8, rfl, hb9, hb10⟩ := hv7
  have hb10 : i8.toInt < 8 := hb10
  refine vx_ret ?_
  exact W.iret (v := i8) hx hb hr (fun t ht hW => ⟨⟨_, (L, κ, g), rfl, ⟨⟨hq5.1, _, hq5.2⟩, rfl⟩, z_end hK hI ht hW⟩, z_F hI ht⟩) (z_locs hI) dX8_speed_8

set_option maxHeartbeats 4000000 in
set_option maxRecDepth 100000 in
theorem c_X8_wanted (l : Launch) (hnt : l.stackTraces = false) (D : va_G) (tc : Nat → ClassId) (z0 : Nat) (L : List Nat) (κ : Nat → Nat) (g : Nat → Nat → Value) (sz : Nat) (p0 : Nat) (hk0 : κ p0 = 10) (p1 : Int32) (aC : Nat) (hC : g p0 1 = .ref aC) : vx_Met l yX8_wanted wsX8_wanted ({ frames := 7, cells := 1, slots := 6, locals := 120 }) (zPc D tc z0 [.ref p0, .int p1] [] (L, κ, g) sz) (va_Qi (fun (r : Int32) (u : zS) => zHas g aC 6 p1 ∧ u = (L, κ, g)) (fun (u : zS) (t : State) => zB D tc (zA [] L sz) [] u t) (zA [] L sz)) (vx_X (fun u : zS => True) (fun (E : String) (u : zS) (t : State) => (((E = "java/lang/IndexOutOfBoundsException" ∧ ¬ zHas g aC 6 p1)) ∧ u = (L, κ, g)) ∧ zB D tc (zA [] L sz) [] u t) (zA [] L sz)) 1 6 (zA [] L sz) := by
  refine vx_ofW (cc := cX8_wanted) (maxL := 2) (ret := (some .int)) (by decide) rfl ?_
  intro p e s m args below meth c s₁ B hml hxt hv
  obtain ⟨rfl, rfl, hK, hE, hI⟩ := hv.opn
  have hx := B.exec
  have hb := B.bytes
  have hr := B.returns
  have hts := atoms_spec (ws := wsX8_wanted) B.pre
  have hown : s.vm.findClass RX8 = some m.cls := findClass_of_methodNamed B.named
  have hlocks := B.notSynchronized
  have hout : ∀ (i : Nat), ∀ x ∈ c.exceptionTable.toList, covers x i = false := fun i x hx9 => (hxt x hx9).elim
  have hM : zM p s m c cX8_wanted _ wsX8_wanted RX8 D tc := ⟨hx, hb, hts, hown, hK⟩
  have hinX3 : ∀ w ∈ wsX30, w ∈ wsX8_wanted := by decide +kernel
  have hl := lv_entry ([.ref p0, .int p1]) (n := 2) (Nat.le_of_ble_eq_true rfl)
  rw [lg_entry_eq]
  generalize (lg_sl ([.ref p0, .int p1]) ++ List.replicate (2 - (lg_sl ([.ref p0, .int p1])).length) Slot.unset).toArray = ls at hl ⊢
  have hl : lv_has ls 2 [(0, .ref p0), (1, .int p1)] := hl
  refine lv_aload_n hx hb dX8_wanted_0 rfl (lv_at hl 0 rfl) ?_
  refine lv_iload_n hx hb dX8_wanted_1 rfl (lv_at hl 1 rfl) ?_
  refine z_xq hI (vx_runV (As := [.int p1]) (rest := []) ⟨hx, hb, hml, hown, hts⟩ (c_X8_coreAt l hnt _ _ _ _ _ _ _ p0 hk0 p1 aC hC) (cwV 1 hts gX8_wanted_X8_coreAt rfl rfl rfl (by decide +kernel) ⟨Nat.le_of_ble_eq_true rfl, Nat.le_of_ble_eq_true rfl⟩) (z_preV hK hE hI [] rfl rfl (z_recv hK hI hk0 rfl rfl)) rfl rfl hl.1 rfl (lv_room (Nat.le_of_ble_eq_true rfl)) dX8_wanted_2 ⟨Nat.le_of_ble_eq_true rfl, Nat.le_of_ble_eq_true rfl⟩) (fun E ce q9 u H locs hw hI he1 he2 he3 => ?_) (fun v1 u H locs hw2 hI => ?_)
  · obtain ⟨hxp, rfl⟩ := hw
    exact z_pass hK hI hout hlocks he1 he2 he3 (by first | exact ⟨hxp, rfl⟩ | exact ⟨Or.inl hxp, rfl⟩ | exact ⟨Or.inr hxp, rfl⟩ | exact ⟨Or.inr (Or.inl hxp), rfl⟩ | exact ⟨Or.inr (Or.inr hxp), rfl⟩) (Nat.le_of_ble_eq_true rfl) (Nat.le_of_ble_eq_true rfl)
  obtain ⟨r3, rfl, hr4, hq5, rfl⟩ := hw2
  show W p l e (headSpec wsX8_wanted ({ frames := 7, cells := 1, slots := 6, locals := 120 })).room s m ([.ref p0, .int p1] : List Value).toArray below meth c _ _ 1 6 (vx_MQ below (va_Qi (fun (r : Int32) (u : zS) => zHas g aC 6 p1 ∧ u = (L, κ, g)) (fun (u : zS) (t : State) => zB D tc (zA [] L s.heap.size) [] u t) (zA [] L s.heap.size)) (vx_X (fun u : zS => True) (fun (E : String) (u : zS) (t : State) => (((E = "java/lang/IndexOutOfBoundsException" ∧ ¬ zHas g aC 6 p1)) ∧ u = (L, κ, g)) ∧ zB D tc (zA [] L s.heap.size) [] u t) (zA [] L s.heap.size)) ([.ref p0, .int p1] : List Value).toArray s 1 6 (zA [] L s.heap.size)) (F0 m 5 ls (.ref r3 :: []))
  refine z_get (k := 5) (j := 5) hM hI hr4 rfl rfl hinX3 rfl (by decide) (by decide +kernel) (fun _ h9 => h9) dX8_wanted_5 (fun v6 hv7 => ?_)
  obtain ⟨i8, rfl, hb9, hb10⟩ := hv7
  have hb10 : i8.toInt < 8 := hb10
  refine vx_ret ?_
  exact W.iret (v := i8) hx hb hr (fun t ht hW => ⟨⟨_, (L, κ, g), rfl, ⟨⟨hq5.1, _, hq5.2⟩, rfl⟩, z_end hK hI ht hW⟩, z_F hI ht⟩) (z_locs hI) dX8_wanted_8

set_option maxHeartbeats 4000000 in
set_option maxRecDepth 100000 in
theorem c_X8_clamp (l : Launch) (hnt : l.stackTraces = false) (D : va_G) (tc : Nat → ClassId) (z0 : Nat) (L : List Nat) (κ : Nat → Nat) (g : Nat → Nat → Value) (sz : Nat) (p0 : Nat) (hk0 : κ p0 = 10) (p1 : Int32) (aC : Nat) (hC : g p0 1 = .ref aC) : vx_Met l yX8_clamp wsX8_clamp ({ frames := 7, cells := 1, slots := 6, locals := 120 }) (zPc D tc z0 [.ref p0, .int p1] [] (L, κ, g) sz) (va_Qi (fun (r : Int32) (u : zS) => zHas g aC 6 p1 ∧ u = (L, κ, g)) (fun (u : zS) (t : State) => zB D tc (zA [] L sz) [] u t) (zA [] L sz)) (vx_X (fun u : zS => True) (fun (E : String) (u : zS) (t : State) => (((E = "java/lang/IndexOutOfBoundsException" ∧ ¬ zHas g aC 6 p1)) ∧ u = (L, κ, g)) ∧ zB D tc (zA [] L sz) [] u t) (zA [] L sz)) 1 6 (zA [] L sz) := by
  refine vx_ofW (cc := cX8_clamp) (maxL := 2) (ret := (some .char)) (by decide) rfl ?_
  intro p e s m args below meth c s₁ B hml hxt hv
  obtain ⟨rfl, rfl, hK, hE, hI⟩ := hv.opn
  have hx := B.exec
  have hb := B.bytes
  have hr := B.returns
  have hts := atoms_spec (ws := wsX8_clamp) B.pre
  have hown : s.vm.findClass RX8 = some m.cls := findClass_of_methodNamed B.named
  have hlocks := B.notSynchronized
  have hout : ∀ (i : Nat), ∀ x ∈ c.exceptionTable.toList, covers x i = false := fun i x hx9 => (hxt x hx9).elim
  have hM : zM p s m c cX8_clamp _ wsX8_clamp RX8 D tc := ⟨hx, hb, hts, hown, hK⟩
  have hinX3 : ∀ w ∈ wsX30, w ∈ wsX8_clamp := by decide +kernel
  have hl := lv_entry ([.ref p0, .int p1]) (n := 2) (Nat.le_of_ble_eq_true rfl)
  rw [lg_entry_eq]
  generalize (lg_sl ([.ref p0, .int p1]) ++ List.replicate (2 - (lg_sl ([.ref p0, .int p1])).length) Slot.unset).toArray = ls at hl ⊢
  have hl : lv_has ls 2 [(0, .ref p0), (1, .int p1)] := hl
  refine lv_aload_n hx hb dX8_clamp_0 rfl (lv_at hl 0 rfl) ?_
  refine lv_iload_n hx hb dX8_clamp_1 rfl (lv_at hl 1 rfl) ?_
  refine z_xq hI (vx_runV (As := [.int p1]) (rest := []) ⟨hx, hb, hml, hown, hts⟩ (c_X8_coreAt l hnt _ _ _ _ _ _ _ p0 hk0 p1 aC hC) (cwV 1 hts gX8_clamp_X8_coreAt rfl rfl rfl (by decide +kernel) ⟨Nat.le_of_ble_eq_true rfl, Nat.le_of_ble_eq_true rfl⟩) (z_preV hK hE hI [] rfl rfl (z_recv hK hI hk0 rfl rfl)) rfl rfl hl.1 rfl (lv_room (Nat.le_of_ble_eq_true rfl)) dX8_clamp_2 ⟨Nat.le_of_ble_eq_true rfl, Nat.le_of_ble_eq_true rfl⟩) (fun E ce q9 u H locs hw hI he1 he2 he3 => ?_) (fun v1 u H locs hw2 hI => ?_)
  · obtain ⟨hxp, rfl⟩ := hw
    exact z_pass hK hI hout hlocks he1 he2 he3 (by first | exact ⟨hxp, rfl⟩ | exact ⟨Or.inl hxp, rfl⟩ | exact ⟨Or.inr hxp, rfl⟩ | exact ⟨Or.inr (Or.inl hxp), rfl⟩ | exact ⟨Or.inr (Or.inr hxp), rfl⟩) (Nat.le_of_ble_eq_true rfl) (Nat.le_of_ble_eq_true rfl)
  obtain ⟨r3, rfl, hr4, hq5, rfl⟩ := hw2
  show W p l e (headSpec wsX8_clamp ({ frames := 7, cells := 1, slots := 6, locals := 120 })).room s m ([.ref p0, .int p1] : List Value).toArray below meth c _ _ 1 6 (vx_MQ below (va_Qi (fun (r : Int32) (u : zS) => zHas g aC 6 p1 ∧ u = (L, κ, g)) (fun (u : zS) (t : State) => zB D tc (zA [] L s.heap.size) [] u t) (zA [] L s.heap.size)) (vx_X (fun u : zS => True) (fun (E : String) (u : zS) (t : State) => (((E = "java/lang/IndexOutOfBoundsException" ∧ ¬ zHas g aC 6 p1)) ∧ u = (L, κ, g)) ∧ zB D tc (zA [] L s.heap.size) [] u t) (zA [] L s.heap.size)) ([.ref p0, .int p1] : List Value).toArray s 1 6 (zA [] L s.heap.size)) (F0 m 5 ls (.ref r3 :: []))
  refine z_get (k := 5) (j := 8) hM hI hr4 rfl rfl hinX3 rfl (by decide) (by decide +kernel) (fun _ h9 => h9) dX8_clamp_5 (fun v6 hv7 => ?_)
  obtain ⟨i8, rfl, hf9⟩ := hv7
  refine vx_ret ?_
  exact W.zret (v := i8) hx hb hr (z_cn (by assumption)) (fun t ht hW => ⟨⟨_, (L, κ, g), rfl, ⟨⟨hq5.1, _, hq5.2⟩, rfl⟩, z_end hK hI ht hW⟩, z_F hI ht⟩) (z_locs hI) dX8_clamp_8

set_option maxHeartbeats 4000000 in
set_option maxRecDepth 100000 in
theorem c_X8_sleep (l : Launch) (hnt : l.stackTraces = false) (D : va_G) (tc : Nat → ClassId) (z0 : Nat) (L : List Nat) (κ : Nat → Nat) (g : Nat → Nat → Value) (sz : Nat) (p0 : Nat) (hk0 : κ p0 = 10) (p1 : Int32) (aC : Nat) (hC : g p0 1 = .ref aC) : vx_Met l yX8_sleep wsX8_sleep ({ frames := 7, cells := 1, slots := 6, locals := 120 }) (zPc D tc z0 [.ref p0, .int p1] [] (L, κ, g) sz) (va_Qi (fun (r : Int32) (u : zS) => zHas g aC 6 p1 ∧ u = (L, κ, g)) (fun (u : zS) (t : State) => zB D tc (zA [] L sz) [] u t) (zA [] L sz)) (vx_X (fun u : zS => True) (fun (E : String) (u : zS) (t : State) => (((E = "java/lang/IndexOutOfBoundsException" ∧ ¬ zHas g aC 6 p1)) ∧ u = (L, κ, g)) ∧ zB D tc (zA [] L sz) [] u t) (zA [] L sz)) 1 6 (zA [] L sz) := by
  refine vx_ofW (cc := cX8_sleep) (maxL := 2) (ret := (some .char)) (by decide) rfl ?_
  intro p e s m args below meth c s₁ B hml hxt hv
  obtain ⟨rfl, rfl, hK, hE, hI⟩ := hv.opn
  have hx := B.exec
  have hb := B.bytes
  have hr := B.returns
  have hts := atoms_spec (ws := wsX8_sleep) B.pre
  have hown : s.vm.findClass RX8 = some m.cls := findClass_of_methodNamed B.named
  have hlocks := B.notSynchronized
  have hout : ∀ (i : Nat), ∀ x ∈ c.exceptionTable.toList, covers x i = false := fun i x hx9 => (hxt x hx9).elim
  have hM : zM p s m c cX8_sleep _ wsX8_sleep RX8 D tc := ⟨hx, hb, hts, hown, hK⟩
  have hinX3 : ∀ w ∈ wsX30, w ∈ wsX8_sleep := by decide +kernel
  have hl := lv_entry ([.ref p0, .int p1]) (n := 2) (Nat.le_of_ble_eq_true rfl)
  rw [lg_entry_eq]
  generalize (lg_sl ([.ref p0, .int p1]) ++ List.replicate (2 - (lg_sl ([.ref p0, .int p1])).length) Slot.unset).toArray = ls at hl ⊢
  have hl : lv_has ls 2 [(0, .ref p0), (1, .int p1)] := hl
  refine lv_aload_n hx hb dX8_sleep_0 rfl (lv_at hl 0 rfl) ?_
  refine lv_iload_n hx hb dX8_sleep_1 rfl (lv_at hl 1 rfl) ?_
  refine z_xq hI (vx_runV (As := [.int p1]) (rest := []) ⟨hx, hb, hml, hown, hts⟩ (c_X8_coreAt l hnt _ _ _ _ _ _ _ p0 hk0 p1 aC hC) (cwV 1 hts gX8_sleep_X8_coreAt rfl rfl rfl (by decide +kernel) ⟨Nat.le_of_ble_eq_true rfl, Nat.le_of_ble_eq_true rfl⟩) (z_preV hK hE hI [] rfl rfl (z_recv hK hI hk0 rfl rfl)) rfl rfl hl.1 rfl (lv_room (Nat.le_of_ble_eq_true rfl)) dX8_sleep_2 ⟨Nat.le_of_ble_eq_true rfl, Nat.le_of_ble_eq_true rfl⟩) (fun E ce q9 u H locs hw hI he1 he2 he3 => ?_) (fun v1 u H locs hw2 hI => ?_)
  · obtain ⟨hxp, rfl⟩ := hw
    exact z_pass hK hI hout hlocks he1 he2 he3 (by first | exact ⟨hxp, rfl⟩ | exact ⟨Or.inl hxp, rfl⟩ | exact ⟨Or.inr hxp, rfl⟩ | exact ⟨Or.inr (Or.inl hxp), rfl⟩ | exact ⟨Or.inr (Or.inr hxp), rfl⟩) (Nat.le_of_ble_eq_true rfl) (Nat.le_of_ble_eq_true rfl)
  obtain ⟨r3, rfl, hr4, hq5, rfl⟩ := hw2
  show W p l e (headSpec wsX8_sleep ({ frames := 7, cells := 1, slots := 6, locals := 120 })).room s m ([.ref p0, .int p1] : List Value).toArray below meth c _ _ 1 6 (vx_MQ below (va_Qi (fun (r : Int32) (u : zS) => zHas g aC 6 p1 ∧ u = (L, κ, g)) (fun (u : zS) (t : State) => zB D tc (zA [] L s.heap.size) [] u t) (zA [] L s.heap.size)) (vx_X (fun u : zS => True) (fun (E : String) (u : zS) (t : State) => (((E = "java/lang/IndexOutOfBoundsException" ∧ ¬ zHas g aC 6 p1)) ∧ u = (L, κ, g)) ∧ zB D tc (zA [] L s.heap.size) [] u t) (zA [] L s.heap.size)) ([.ref p0, .int p1] : List Value).toArray s 1 6 (zA [] L s.heap.size)) (F0 m 5 ls (.ref r3 :: []))
  refine z_get (k := 5) (j := 9) hM hI hr4 rfl rfl hinX3 rfl (by decide) (by decide +kernel) (fun _ h9 => h9) dX8_sleep_5 (fun v6 hv7 => ?_)
  obtain ⟨i8, rfl, hf9⟩ := hv7
  refine vx_ret ?_
  exact W.zret (v := i8) hx hb hr (z_cn (by assumption)) (fun t ht hW => ⟨⟨_, (L, κ, g), rfl, ⟨⟨hq5.1, _, hq5.2⟩, rfl⟩, z_end hK hI ht hW⟩, z_F hI ht⟩) (z_locs hI) dX8_sleep_8

set_option maxHeartbeats 4000000 in
set_option maxRecDepth 100000 in
theorem c_X8_isTripped (l : Launch) (hnt : l.stackTraces = false) (D : va_G) (tc : Nat → ClassId) (z0 : Nat) (L : List Nat) (κ : Nat → Nat) (g : Nat → Nat → Value) (sz : Nat) (p0 : Nat) (hk0 : κ p0 = 10) (p1 : Int32) (aC : Nat) (hC : g p0 1 = .ref aC) : vx_Met l yX8_isTripped wsX8_isTripped ({ frames := 7, cells := 1, slots := 6, locals := 120 }) (zPc D tc z0 [.ref p0, .int p1] [] (L, κ, g) sz) (va_Qi (fun (r : Int32) (u : zS) => zHas g aC 6 p1 ∧ u = (L, κ, g)) (fun (u : zS) (t : State) => zB D tc (zA [] L sz) [] u t) (zA [] L sz)) (vx_X (fun u : zS => True) (fun (E : String) (u : zS) (t : State) => (((E = "java/lang/IndexOutOfBoundsException" ∧ ¬ zHas g aC 6 p1)) ∧ u = (L, κ, g)) ∧ zB D tc (zA [] L sz) [] u t) (zA [] L sz)) 1 6 (zA [] L sz) := by
  refine vx_ofW (cc := cX8_isTripped) (maxL := 2) (ret := (some .boolean)) (by decide) rfl ?_
  intro p e s m args below meth c s₁ B hml hxt hv
  obtain ⟨rfl, rfl, hK, hE, hI⟩ := hv.opn
  have hx := B.exec
  have hb := B.bytes
  have hr := B.returns
  have hts := atoms_spec (ws := wsX8_isTripped) B.pre
  have hown : s.vm.findClass RX8 = some m.cls := findClass_of_methodNamed B.named
  have hlocks := B.notSynchronized
  have hout : ∀ (i : Nat), ∀ x ∈ c.exceptionTable.toList, covers x i = false := fun i x hx9 => (hxt x hx9).elim
  have hM : zM p s m c cX8_isTripped _ wsX8_isTripped RX8 D tc := ⟨hx, hb, hts, hown, hK⟩
  have hinX3 : ∀ w ∈ wsX30, w ∈ wsX8_isTripped := by decide +kernel
  have hl := lv_entry ([.ref p0, .int p1]) (n := 2) (Nat.le_of_ble_eq_true rfl)
  rw [lg_entry_eq]
  generalize (lg_sl ([.ref p0, .int p1]) ++ List.replicate (2 - (lg_sl ([.ref p0, .int p1])).length) Slot.unset).toArray = ls at hl ⊢
  have hl : lv_has ls 2 [(0, .ref p0), (1, .int p1)] := hl
  refine lv_aload_n hx hb dX8_isTripped_0 rfl (lv_at hl 0 rfl) ?_
  refine lv_iload_n hx hb dX8_isTripped_1 rfl (lv_at hl 1 rfl) ?_
  refine z_xq hI (vx_runV (As := [.int p1]) (rest := []) ⟨hx, hb, hml, hown, hts⟩ (c_X8_coreAt l hnt _ _ _ _ _ _ _ p0 hk0 p1 aC hC) (cwV 1 hts gX8_isTripped_X8_coreAt rfl rfl rfl (by decide +kernel) ⟨Nat.le_of_ble_eq_true rfl, Nat.le_of_ble_eq_true rfl⟩) (z_preV hK hE hI [] rfl rfl (z_recv hK hI hk0 rfl rfl)) rfl rfl hl.1 rfl (lv_room (Nat.le_of_ble_eq_true rfl)) dX8_isTripped_2 ⟨Nat.le_of_ble_eq_true rfl, Nat.le_of_ble_eq_true rfl⟩) (fun E ce q9 u H locs hw hI he1 he2 he3 => ?_) (fun v1 u H locs hw2 hI => ?_)
  · obtain ⟨hxp, rfl⟩ := hw
    exact z_pass hK hI hout hlocks he1 he2 he3 (by first | exact ⟨hxp, rfl⟩ | exact ⟨Or.inl hxp, rfl⟩ | exact ⟨Or.inr hxp, rfl⟩ | exact ⟨Or.inr (Or.inl hxp), rfl⟩ | exact ⟨Or.inr (Or.inr hxp), rfl⟩) (Nat.le_of_ble_eq_true rfl) (Nat.le_of_ble_eq_true rfl)
  obtain ⟨r3, rfl, hr4, hq5, rfl⟩ := hw2
  show W p l e (headSpec wsX8_isTripped ({ frames := 7, cells := 1, slots := 6, locals := 120 })).room s m ([.ref p0, .int p1] : List Value).toArray below meth c _ _ 1 6 (vx_MQ below (va_Qi (fun (r : Int32) (u : zS) => zHas g aC 6 p1 ∧ u = (L, κ, g)) (fun (u : zS) (t : State) => zB D tc (zA [] L s.heap.size) [] u t) (zA [] L s.heap.size)) (vx_X (fun u : zS => True) (fun (E : String) (u : zS) (t : State) => (((E = "java/lang/IndexOutOfBoundsException" ∧ ¬ zHas g aC 6 p1)) ∧ u = (L, κ, g)) ∧ zB D tc (zA [] L s.heap.size) [] u t) (zA [] L s.heap.size)) ([.ref p0, .int p1] : List Value).toArray s 1 6 (zA [] L s.heap.size)) (F0 m 5 ls (.ref r3 :: []))
  refine z_get (k := 5) (j := 18) hM hI hr4 rfl rfl hinX3 rfl (by decide) (by decide +kernel) (fun _ h9 => h9) dX8_isTripped_5 (fun v6 hv7 => ?_)
  obtain ⟨i8, rfl, hz9⟩ := zv_b hv7
  refine vx_ret ?_
  exact W.zret (v := i8) hx hb hr (z_bn (by assumption)) (fun t ht hW => ⟨⟨_, (L, κ, g), rfl, ⟨⟨hq5.1, _, hq5.2⟩, rfl⟩, z_end hK hI ht hW⟩, z_F hI ht⟩) (z_locs hI) dX8_isTripped_8

set_option maxHeartbeats 4000000 in
set_option maxRecDepth 100000 in
theorem c_X8_age (l : Launch) (hnt : l.stackTraces = false) (D : va_G) (tc : Nat → ClassId) (z0 : Nat) (L : List Nat) (κ : Nat → Nat) (g : Nat → Nat → Value) (sz : Nat) (p0 : Nat) (hk0 : κ p0 = 10) (p1 : Int32) (aC : Nat) (hC : g p0 1 = .ref aC) (hWa : zWa g aC 19998) : vx_Met l yX8_age wsX8_age ({ frames := 7, cells := 1, slots := 6, locals := 120 }) (zPc D tc z0 [.ref p0, .int p1] [] (L, κ, g) sz) (va_Qi (fun (r : Int32) (u : zS) => zHas g aC 6 p1 ∧ u = (L, κ, g)) (fun (u : zS) (t : State) => zB D tc (zA [] L sz) [] u t) (zA [] L sz)) (vx_X (fun u : zS => True) (fun (E : String) (u : zS) (t : State) => (((E = "java/lang/IndexOutOfBoundsException" ∧ ¬ zHas g aC 6 p1)) ∧ u = (L, κ, g)) ∧ zB D tc (zA [] L sz) [] u t) (zA [] L sz)) 1 6 (zA [] L sz) := by
  refine vx_ofW (cc := cX8_age) (maxL := 2) (ret := (some .int)) (by decide) rfl ?_
  intro p e s m args below meth c s₁ B hml hxt hv
  obtain ⟨rfl, rfl, hK, hE, hI⟩ := hv.opn
  have hx := B.exec
  have hb := B.bytes
  have hr := B.returns
  have hts := atoms_spec (ws := wsX8_age) B.pre
  have hown : s.vm.findClass RX8 = some m.cls := findClass_of_methodNamed B.named
  have hlocks := B.notSynchronized
  have hout : ∀ (i : Nat), ∀ x ∈ c.exceptionTable.toList, covers x i = false := fun i x hx9 => (hxt x hx9).elim
  have hM : zM p s m c cX8_age _ wsX8_age RX8 D tc := ⟨hx, hb, hts, hown, hK⟩
  skip
  have hl := lv_entry ([.ref p0, .int p1]) (n := 2) (Nat.le_of_ble_eq_true rfl)
  rw [lg_entry_eq]
  generalize (lg_sl ([.ref p0, .int p1]) ++ List.replicate (2 - (lg_sl ([.ref p0, .int p1])).length) Slot.unset).toArray = ls at hl ⊢
  have hl : lv_has ls 2 [(0, .ref p0), (1, .int p1)] := hl
  refine lv_aload_n hx hb dX8_age_0 rfl (lv_at hl 0 rfl) ?_
  refine lv_iload_n hx hb dX8_age_1 rfl (lv_at hl 1 rfl) ?_
  refine z_xq hI (vx_runV (As := [.int p1]) (rest := []) ⟨hx, hb, hml, hown, hts⟩ (c_X8_coreAt l hnt _ _ _ _ _ _ _ p0 hk0 p1 aC hC) (cwV 1 hts gX8_age_X8_coreAt rfl rfl rfl (by decide +kernel) ⟨Nat.le_of_ble_eq_true rfl, Nat.le_of_ble_eq_true rfl⟩) (z_preV hK hE hI [] rfl rfl (z_recv hK hI hk0 rfl rfl)) rfl rfl hl.1 rfl (lv_room (Nat.le_of_ble_eq_true rfl)) dX8_age_2 ⟨Nat.le_of_ble_eq_true rfl, Nat.le_of_ble_eq_true rfl⟩) (fun E ce q9 u H locs hw hI he1 he2 he3 => ?_) (fun v1 u H locs hw2 hI => ?_)
  · obtain ⟨hxp, rfl⟩ := hw
    exact z_pass hK hI hout hlocks he1 he2 he3 (by first | exact ⟨hxp, rfl⟩ | exact ⟨Or.inl hxp, rfl⟩ | exact ⟨Or.inr hxp, rfl⟩ | exact ⟨Or.inr (Or.inl hxp), rfl⟩ | exact ⟨Or.inr (Or.inr hxp), rfl⟩) (Nat.le_of_ble_eq_true rfl) (Nat.le_of_ble_eq_true rfl)
  obtain ⟨r3, rfl, hr4, hq5, rfl⟩ := hw2
  show W p l e (headSpec wsX8_age ({ frames := 7, cells := 1, slots := 6, locals := 120 })).room s m ([.ref p0, .int p1] : List Value).toArray below meth c _ _ 1 6 (vx_MQ below (va_Qi (fun (r : Int32) (u : zS) => zHas g aC 6 p1 ∧ u = (L, κ, g)) (fun (u : zS) (t : State) => zB D tc (zA [] L s.heap.size) [] u t) (zA [] L s.heap.size)) (vx_X (fun u : zS => True) (fun (E : String) (u : zS) (t : State) => (((E = "java/lang/IndexOutOfBoundsException" ∧ ¬ zHas g aC 6 p1)) ∧ u = (L, κ, g)) ∧ zB D tc (zA [] L s.heap.size) [] u t) (zA [] L s.heap.size)) ([.ref p0, .int p1] : List Value).toArray s 1 6 (zA [] L s.heap.size)) (F0 m 5 ls (.ref r3 :: []))
  refine vp_callSi (W.runV (As := []) (rest := []) ⟨hx, hb, hml, hown, hts⟩ (c_X3_inAge l _ _ _ _ _ _ _ r3 hr4 (hWa _ _ (Nat.not_le.mp fun q => hq5.1 (Or.inr q)) hq5.2)) (cwV 0 hts gX8_age_X3_inAge rfl rfl rfl (by decide +kernel) ⟨Nat.le_of_ble_eq_true rfl, Nat.le_of_ble_eq_true rfl⟩) (z_preV hK hE hI [] rfl rfl (z_recv hK hI hr4 rfl rfl)) rfl rfl hl.1 rfl (lv_room (Nat.le_of_ble_eq_true rfl)) dX8_age_5 ⟨Nat.le_of_ble_eq_true rfl, Nat.le_of_ble_eq_true rfl⟩) (fun v6 hw7 => ?_)
  refine vx_ret ?_
  exact W.iret (v := v6) hx hb hr (fun t ht hW => ⟨⟨_, (L, κ, g), rfl, ⟨⟨hq5.1, _, hq5.2⟩, rfl⟩, z_end hK hI ht hW⟩, z_F hI ht⟩) (z_locs hI) dX8_age_8

set_option maxHeartbeats 4000000 in
set_option maxRecDepth 100000 in
theorem c_X8_isRetired (l : Launch) (hnt : l.stackTraces = false) (D : va_G) (tc : Nat → ClassId) (z0 : Nat) (L : List Nat) (κ : Nat → Nat) (g : Nat → Nat → Value) (sz : Nat) (p0 : Nat) (hk0 : κ p0 = 10) (p1 : Int32) (aC : Nat) (hC : g p0 1 = .ref aC) (hWa : zWa g aC 19998) : vx_Met l yX8_isRetired wsX8_isRetired ({ frames := 7, cells := 1, slots := 6, locals := 120 }) (zPc D tc z0 [.ref p0, .int p1] [] (L, κ, g) sz) (va_Qi (fun (r : Int32) (u : zS) => zHas g aC 6 p1 ∧ u = (L, κ, g)) (fun (u : zS) (t : State) => zB D tc (zA [] L sz) [] u t) (zA [] L sz)) (vx_X (fun u : zS => True) (fun (E : String) (u : zS) (t : State) => (((E = "java/lang/IndexOutOfBoundsException" ∧ ¬ zHas g aC 6 p1)) ∧ u = (L, κ, g)) ∧ zB D tc (zA [] L sz) [] u t) (zA [] L sz)) 1 6 (zA [] L sz) := by
  refine vx_ofW (cc := cX8_isRetired) (maxL := 2) (ret := (some .boolean)) (by decide) rfl ?_
  intro p e s m args below meth c s₁ B hml hxt hv
  obtain ⟨rfl, rfl, hK, hE, hI⟩ := hv.opn
  have hx := B.exec
  have hb := B.bytes
  have hr := B.returns
  have hts := atoms_spec (ws := wsX8_isRetired) B.pre
  have hown : s.vm.findClass RX8 = some m.cls := findClass_of_methodNamed B.named
  have hlocks := B.notSynchronized
  have hout : ∀ (i : Nat), ∀ x ∈ c.exceptionTable.toList, covers x i = false := fun i x hx9 => (hxt x hx9).elim
  have hM : zM p s m c cX8_isRetired _ wsX8_isRetired RX8 D tc := ⟨hx, hb, hts, hown, hK⟩
  skip
  have hl := lv_entry ([.ref p0, .int p1]) (n := 2) (Nat.le_of_ble_eq_true rfl)
  rw [lg_entry_eq]
  generalize (lg_sl ([.ref p0, .int p1]) ++ List.replicate (2 - (lg_sl ([.ref p0, .int p1])).length) Slot.unset).toArray = ls at hl ⊢
  have hl : lv_has ls 2 [(0, .ref p0), (1, .int p1)] := hl
  refine lv_aload_n hx hb dX8_isRetired_0 rfl (lv_at hl 0 rfl) ?_
  refine lv_iload_n hx hb dX8_isRetired_1 rfl (lv_at hl 1 rfl) ?_
  refine z_xq hI (vx_runV (As := [.int p1]) (rest := []) ⟨hx, hb, hml, hown, hts⟩ (c_X8_coreAt l hnt _ _ _ _ _ _ _ p0 hk0 p1 aC hC) (cwV 1 hts gX8_isRetired_X8_coreAt rfl rfl rfl (by decide +kernel) ⟨Nat.le_of_ble_eq_true rfl, Nat.le_of_ble_eq_true rfl⟩) (z_preV hK hE hI [] rfl rfl (z_recv hK hI hk0 rfl rfl)) rfl rfl hl.1 rfl (lv_room (Nat.le_of_ble_eq_true rfl)) dX8_isRetired_2 ⟨Nat.le_of_ble_eq_true rfl, Nat.le_of_ble_eq_true rfl⟩) (fun E ce q9 u H locs hw hI he1 he2 he3 => ?_) (fun v1 u H locs hw2 hI => ?_)
  · obtain ⟨hxp, rfl⟩ := hw
    exact z_pass hK hI hout hlocks he1 he2 he3 (by first | exact ⟨hxp, rfl⟩ | exact ⟨Or.inl hxp, rfl⟩ | exact ⟨Or.inr hxp, rfl⟩ | exact ⟨Or.inr (Or.inl hxp), rfl⟩ | exact ⟨Or.inr (Or.inr hxp), rfl⟩) (Nat.le_of_ble_eq_true rfl) (Nat.le_of_ble_eq_true rfl)
  obtain ⟨r3, rfl, hr4, hq5, rfl⟩ := hw2
  show W p l e (headSpec wsX8_isRetired ({ frames := 7, cells := 1, slots := 6, locals := 120 })).room s m ([.ref p0, .int p1] : List Value).toArray below meth c _ _ 1 6 (vx_MQ below (va_Qi (fun (r : Int32) (u : zS) => zHas g aC 6 p1 ∧ u = (L, κ, g)) (fun (u : zS) (t : State) => zB D tc (zA [] L s.heap.size) [] u t) (zA [] L s.heap.size)) (vx_X (fun u : zS => True) (fun (E : String) (u : zS) (t : State) => (((E = "java/lang/IndexOutOfBoundsException" ∧ ¬ zHas g aC 6 p1)) ∧ u = (L, κ, g)) ∧ zB D tc (zA [] L s.heap.size) [] u t) (zA [] L s.heap.size)) ([.ref p0, .int p1] : List Value).toArray s 1 6 (zA [] L s.heap.size)) (F0 m 5 ls (.ref r3 :: []))
  refine vp_callSi (W.runV (As := []) (rest := []) ⟨hx, hb, hml, hown, hts⟩ (c_X3_isTooOld l _ _ _ _ _ _ _ r3 hr4 (hWa _ _ (Nat.not_le.mp fun q => hq5.1 (Or.inr q)) hq5.2)) (cwV 0 hts gX8_isRetired_X3_isTooOld rfl rfl rfl (by decide +kernel) ⟨Nat.le_of_ble_eq_true rfl, Nat.le_of_ble_eq_true rfl⟩) (z_preV hK hE hI [] rfl rfl (z_recv hK hI hr4 rfl rfl)) rfl rfl hl.1 rfl (lv_room (Nat.le_of_ble_eq_true rfl)) dX8_isRetired_5 ⟨Nat.le_of_ble_eq_true rfl, Nat.le_of_ble_eq_true rfl⟩) (fun v6 hw7 => ?_)
  refine vx_ret ?_
  exact W.zret (v := v6) hx hb hr (z_bn (by assumption)) (fun t ht hW => ⟨⟨_, (L, κ, g), rfl, ⟨⟨hq5.1, _, hq5.2⟩, rfl⟩, z_end hK hI ht hW⟩, z_F hI ht⟩) (z_locs hI) dX8_isRetired_8

set_option maxHeartbeats 4000000 in
set_option maxRecDepth 100000 in
theorem c_X8_work (l : Launch) (hnt : l.stackTraces = false) (D : va_G) (tc : Nat → ClassId) (z0 : Nat) (L : List Nat) (κ : Nat → Nat) (g : Nat → Nat → Value) (sz : Nat) (p0 : Nat) (hk0 : κ p0 = 10) (p1 : Int32) (aT : Nat) (hT : g p0 2 = .ref aT) : vx_Met l yX8_work wsX8_work ({ frames := 7, cells := 1, slots := 6, locals := 120 }) (zPc D tc z0 [.ref p0, .int p1] [] (L, κ, g) sz) (va_Qi (fun (r : Int32) (u : zS) => zHas g aT 8 p1 ∧ u = (L, κ, g)) (fun (u : zS) (t : State) => zB D tc (zA [] L sz) [] u t) (zA [] L sz)) (vx_X (fun u : zS => True) (fun (E : String) (u : zS) (t : State) => (((E = "java/lang/IndexOutOfBoundsException" ∧ ¬ zHas g aT 8 p1)) ∧ u = (L, κ, g)) ∧ zB D tc (zA [] L sz) [] u t) (zA [] L sz)) 1 6 (zA [] L sz) := by
  refine vx_ofW (cc := cX8_work) (maxL := 2) (ret := (some .int)) (by decide) rfl ?_
  intro p e s m args below meth c s₁ B hml hxt hv
  obtain ⟨rfl, rfl, hK, hE, hI⟩ := hv.opn
  have hx := B.exec
  have hb := B.bytes
  have hr := B.returns
  have hts := atoms_spec (ws := wsX8_work) B.pre
  have hown : s.vm.findClass RX8 = some m.cls := findClass_of_methodNamed B.named
  have hlocks := B.notSynchronized
  have hout : ∀ (i : Nat), ∀ x ∈ c.exceptionTable.toList, covers x i = false := fun i x hx9 => (hxt x hx9).elim
  have hM : zM p s m c cX8_work _ wsX8_work RX8 D tc := ⟨hx, hb, hts, hown, hK⟩
  have hinX7 : ∀ w ∈ wsX70, w ∈ wsX8_work := by decide +kernel
  have hl := lv_entry ([.ref p0, .int p1]) (n := 2) (Nat.le_of_ble_eq_true rfl)
  rw [lg_entry_eq]
  generalize (lg_sl ([.ref p0, .int p1]) ++ List.replicate (2 - (lg_sl ([.ref p0, .int p1])).length) Slot.unset).toArray = ls at hl ⊢
  have hl : lv_has ls 2 [(0, .ref p0), (1, .int p1)] := hl
  refine lv_aload_n hx hb dX8_work_0 rfl (lv_at hl 0 rfl) ?_
  refine lv_iload_n hx hb dX8_work_1 rfl (lv_at hl 1 rfl) ?_
  refine z_xq hI (vx_runV (As := [.int p1]) (rest := []) ⟨hx, hb, hml, hown, hts⟩ (c_X8_taskAt l hnt _ _ _ _ _ _ _ p0 hk0 p1 aT hT) (cwV 1 hts gX8_work_X8_taskAt rfl rfl rfl (by decide +kernel) ⟨Nat.le_of_ble_eq_true rfl, Nat.le_of_ble_eq_true rfl⟩) (z_preV hK hE hI [] rfl rfl (z_recv hK hI hk0 rfl rfl)) rfl rfl hl.1 rfl (lv_room (Nat.le_of_ble_eq_true rfl)) dX8_work_2 ⟨Nat.le_of_ble_eq_true rfl, Nat.le_of_ble_eq_true rfl⟩) (fun E ce q9 u H locs hw hI he1 he2 he3 => ?_) (fun v1 u H locs hw2 hI => ?_)
  · obtain ⟨hxp, rfl⟩ := hw
    exact z_pass hK hI hout hlocks he1 he2 he3 (by first | exact ⟨hxp, rfl⟩ | exact ⟨Or.inl hxp, rfl⟩ | exact ⟨Or.inr hxp, rfl⟩ | exact ⟨Or.inr (Or.inl hxp), rfl⟩ | exact ⟨Or.inr (Or.inr hxp), rfl⟩) (Nat.le_of_ble_eq_true rfl) (Nat.le_of_ble_eq_true rfl)
  obtain ⟨r3, rfl, hr4, hq5, rfl⟩ := hw2
  show W p l e (headSpec wsX8_work ({ frames := 7, cells := 1, slots := 6, locals := 120 })).room s m ([.ref p0, .int p1] : List Value).toArray below meth c _ _ 1 6 (vx_MQ below (va_Qi (fun (r : Int32) (u : zS) => zHas g aT 8 p1 ∧ u = (L, κ, g)) (fun (u : zS) (t : State) => zB D tc (zA [] L s.heap.size) [] u t) (zA [] L s.heap.size)) (vx_X (fun u : zS => True) (fun (E : String) (u : zS) (t : State) => (((E = "java/lang/IndexOutOfBoundsException" ∧ ¬ zHas g aT 8 p1)) ∧ u = (L, κ, g)) ∧ zB D tc (zA [] L s.heap.size) [] u t) (zA [] L s.heap.size)) ([.ref p0, .int p1] : List Value).toArray s 1 6 (zA [] L s.heap.size)) (F0 m 5 ls (.ref r3 :: []))
  refine z_get (k := 9) (j := 2) hM hI hr4 rfl rfl hinX7 rfl (by decide) (by decide +kernel) (fun _ h9 => h9) dX8_work_5 (fun v6 hv7 => ?_)
  obtain ⟨i8, rfl⟩ := hv7
  refine vx_ret ?_
  exact W.iret (v := i8) hx hb hr (fun t ht hW => ⟨⟨_, (L, κ, g), rfl, ⟨⟨hq5.1, _, hq5.2⟩, rfl⟩, z_end hK hI ht hW⟩, z_F hI ht⟩) (z_locs hI) dX8_work_8

set_option maxHeartbeats 4000000 in
set_option maxRecDepth 100000 in
theorem c_X8_isCold (l : Launch) (hnt : l.stackTraces = false) (D : va_G) (tc : Nat → ClassId) (z0 : Nat) (L : List Nat) (κ : Nat → Nat) (g : Nat → Nat → Value) (sz : Nat) (p0 : Nat) (hk0 : κ p0 = 10) (p1 : Int32) (aT : Nat) (hT : g p0 2 = .ref aT) : vx_Met l yX8_isCold wsX8_isCold ({ frames := 7, cells := 1, slots := 6, locals := 120 }) (zPc D tc z0 [.ref p0, .int p1] [] (L, κ, g) sz) (va_Qi (fun (r : Int32) (u : zS) => zHas g aT 8 p1 ∧ u = (L, κ, g)) (fun (u : zS) (t : State) => zB D tc (zA [] L sz) [] u t) (zA [] L sz)) (vx_X (fun u : zS => True) (fun (E : String) (u : zS) (t : State) => (((E = "java/lang/IndexOutOfBoundsException" ∧ ¬ zHas g aT 8 p1)) ∧ u = (L, κ, g)) ∧ zB D tc (zA [] L sz) [] u t) (zA [] L sz)) 1 6 (zA [] L sz) := by
  refine vx_ofW (cc := cX8_isCold) (maxL := 2) (ret := (some .boolean)) (by decide) rfl ?_
  intro p e s m args below meth c s₁ B hml hxt hv
  obtain ⟨rfl, rfl, hK, hE, hI⟩ := hv.opn
  have hx := B.exec
  have hb := B.bytes
  have hr := B.returns
  have hts := atoms_spec (ws := wsX8_isCold) B.pre
  have hown : s.vm.findClass RX8 = some m.cls := findClass_of_methodNamed B.named
  have hlocks := B.notSynchronized
  have hout : ∀ (i : Nat), ∀ x ∈ c.exceptionTable.toList, covers x i = false := fun i x hx9 => (hxt x hx9).elim
  have hM : zM p s m c cX8_isCold _ wsX8_isCold RX8 D tc := ⟨hx, hb, hts, hown, hK⟩
  have hinX7 : ∀ w ∈ wsX70, w ∈ wsX8_isCold := by decide +kernel
  have hl := lv_entry ([.ref p0, .int p1]) (n := 2) (Nat.le_of_ble_eq_true rfl)
  rw [lg_entry_eq]
  generalize (lg_sl ([.ref p0, .int p1]) ++ List.replicate (2 - (lg_sl ([.ref p0, .int p1])).length) Slot.unset).toArray = ls at hl ⊢
  have hl : lv_has ls 2 [(0, .ref p0), (1, .int p1)] := hl
  refine lv_aload_n hx hb dX8_isCold_0 rfl (lv_at hl 0 rfl) ?_
  refine lv_iload_n hx hb dX8_isCold_1 rfl (lv_at hl 1 rfl) ?_
  refine z_xq hI (vx_runV (As := [.int p1]) (rest := []) ⟨hx, hb, hml, hown, hts⟩ (c_X8_taskAt l hnt _ _ _ _ _ _ _ p0 hk0 p1 aT hT) (cwV 1 hts gX8_isCold_X8_taskAt rfl rfl rfl (by decide +kernel) ⟨Nat.le_of_ble_eq_true rfl, Nat.le_of_ble_eq_true rfl⟩) (z_preV hK hE hI [] rfl rfl (z_recv hK hI hk0 rfl rfl)) rfl rfl hl.1 rfl (lv_room (Nat.le_of_ble_eq_true rfl)) dX8_isCold_2 ⟨Nat.le_of_ble_eq_true rfl, Nat.le_of_ble_eq_true rfl⟩) (fun E ce q9 u H locs hw hI he1 he2 he3 => ?_) (fun v1 u H locs hw2 hI => ?_)
  · obtain ⟨hxp, rfl⟩ := hw
    exact z_pass hK hI hout hlocks he1 he2 he3 (by first | exact ⟨hxp, rfl⟩ | exact ⟨Or.inl hxp, rfl⟩ | exact ⟨Or.inr hxp, rfl⟩ | exact ⟨Or.inr (Or.inl hxp), rfl⟩ | exact ⟨Or.inr (Or.inr hxp), rfl⟩) (Nat.le_of_ble_eq_true rfl) (Nat.le_of_ble_eq_true rfl)
  obtain ⟨r3, rfl, hr4, hq5, rfl⟩ := hw2
  show W p l e (headSpec wsX8_isCold ({ frames := 7, cells := 1, slots := 6, locals := 120 })).room s m ([.ref p0, .int p1] : List Value).toArray below meth c _ _ 1 6 (vx_MQ below (va_Qi (fun (r : Int32) (u : zS) => zHas g aT 8 p1 ∧ u = (L, κ, g)) (fun (u : zS) (t : State) => zB D tc (zA [] L s.heap.size) [] u t) (zA [] L s.heap.size)) (vx_X (fun u : zS => True) (fun (E : String) (u : zS) (t : State) => (((E = "java/lang/IndexOutOfBoundsException" ∧ ¬ zHas g aT 8 p1)) ∧ u = (L, κ, g)) ∧ zB D tc (zA [] L s.heap.size) [] u t) (zA [] L s.heap.size)) ([.ref p0, .int p1] : List Value).toArray s 1 6 (zA [] L s.heap.size)) (F0 m 5 ls (.ref r3 :: []))
  refine z_get (k := 9) (j := 3) hM hI hr4 rfl rfl hinX7 rfl (by decide) (by decide +kernel) (fun _ h9 => h9) dX8_isCold_5 (fun v6 hv7 => ?_)
  obtain ⟨i8, rfl⟩ := hv7
  refine lv_if_le (tgt := 15) hx hb dX8_isCold_8 (by decide) (fun c9 => ?_) (fun c9 => ?_)
  · skip
    refine lv_iconst (v := 0) hx hb dX8_isCold_15 (by decide) ?_
    refine vx_ret ?_
    exact W.zret (v := 0) hx hb hr (by decide) (fun t ht hW => ⟨⟨_, (L, κ, g), rfl, ⟨⟨hq5.1, _, hq5.2⟩, rfl⟩, z_end hK hI ht hW⟩, z_F hI ht⟩) (z_locs hI) dX8_isCold_16
  · skip
    refine lv_iconst (v := 1) hx hb dX8_isCold_11 (by decide) ?_
    refine lv_goto (tgt := 16) hx hb dX8_isCold_12 (by decide) ?_
    refine vx_ret ?_
    exact W.zret (v := 1) hx hb hr (by decide) (fun t ht hW => ⟨⟨_, (L, κ, g), rfl, ⟨⟨hq5.1, _, hq5.2⟩, rfl⟩, z_end hK hI ht hW⟩, z_F hI ht⟩) (z_locs hI) dX8_isCold_16

set_option maxHeartbeats 4000000 in
set_option maxRecDepth 100000 in
theorem c_X8_isBusy (l : Launch) (hnt : l.stackTraces = false) (D : va_G) (tc : Nat → ClassId) (z0 : Nat) (L : List Nat) (κ : Nat → Nat) (g : Nat → Nat → Value) (sz : Nat) (p0 : Nat) (hk0 : κ p0 = 10) (p1 : Int32) (aC : Nat) (hC : g p0 1 = .ref aC) : vx_Met l yX8_isBusy wsX8_isBusy ({ frames := 7, cells := 1, slots := 6, locals := 120 }) (zPc D tc z0 [.ref p0, .int p1] [] (L, κ, g) sz) (va_Qi (fun (r : Int32) (u : zS) => zHas g aC 6 p1 ∧ u = (L, κ, g)) (fun (u : zS) (t : State) => zB D tc (zA [] L sz) [] u t) (zA [] L sz)) (vx_X (fun u : zS => True) (fun (E : String) (u : zS) (t : State) => (((E = "java/lang/IndexOutOfBoundsException" ∧ ¬ zHas g aC 6 p1)) ∧ u = (L, κ, g)) ∧ zB D tc (zA [] L sz) [] u t) (zA [] L sz)) 1 6 (zA [] L sz) := by
  refine vx_ofW (cc := cX8_isBusy) (maxL := 2) (ret := (some .boolean)) (by decide) rfl ?_
  intro p e s m args below meth c s₁ B hml hxt hv
  obtain ⟨rfl, rfl, hK, hE, hI⟩ := hv.opn
  have hx := B.exec
  have hb := B.bytes
  have hr := B.returns
  have hts := atoms_spec (ws := wsX8_isBusy) B.pre
  have hown : s.vm.findClass RX8 = some m.cls := findClass_of_methodNamed B.named
  have hlocks := B.notSynchronized
  have hout : ∀ (i : Nat), ∀ x ∈ c.exceptionTable.toList, covers x i = false := fun i x hx9 => (hxt x hx9).elim
  have hM : zM p s m c cX8_isBusy _ wsX8_isBusy RX8 D tc := ⟨hx, hb, hts, hown, hK⟩
  skip
  have hl := lv_entry ([.ref p0, .int p1]) (n := 2) (Nat.le_of_ble_eq_true rfl)
  rw [lg_entry_eq]
  generalize (lg_sl ([.ref p0, .int p1]) ++ List.replicate (2 - (lg_sl ([.ref p0, .int p1])).length) Slot.unset).toArray = ls at hl ⊢
  have hl : lv_has ls 2 [(0, .ref p0), (1, .int p1)] := hl
  refine lv_aload_n hx hb dX8_isBusy_0 rfl (lv_at hl 0 rfl) ?_
  refine lv_iload_n hx hb dX8_isBusy_1 rfl (lv_at hl 1 rfl) ?_
  refine z_xq hI (vx_runV (As := [.int p1]) (rest := []) ⟨hx, hb, hml, hown, hts⟩ (c_X8_coreAt l hnt _ _ _ _ _ _ _ p0 hk0 p1 aC hC) (cwV 1 hts gX8_isBusy_X8_coreAt rfl rfl rfl (by decide +kernel) ⟨Nat.le_of_ble_eq_true rfl, Nat.le_of_ble_eq_true rfl⟩) (z_preV hK hE hI [] rfl rfl (z_recv hK hI hk0 rfl rfl)) rfl rfl hl.1 rfl (lv_room (Nat.le_of_ble_eq_true rfl)) dX8_isBusy_2 ⟨Nat.le_of_ble_eq_true rfl, Nat.le_of_ble_eq_true rfl⟩) (fun E ce q9 u H locs hw hI he1 he2 he3 => ?_) (fun v1 u H locs hw2 hI => ?_)
  · obtain ⟨hxp, rfl⟩ := hw
    exact z_pass hK hI hout hlocks he1 he2 he3 (by first | exact ⟨hxp, rfl⟩ | exact ⟨Or.inl hxp, rfl⟩ | exact ⟨Or.inr hxp, rfl⟩ | exact ⟨Or.inr (Or.inl hxp), rfl⟩ | exact ⟨Or.inr (Or.inr hxp), rfl⟩) (Nat.le_of_ble_eq_true rfl) (Nat.le_of_ble_eq_true rfl)
  obtain ⟨r3, rfl, hr4, hq5, rfl⟩ := hw2
  show W p l e (headSpec wsX8_isBusy ({ frames := 7, cells := 1, slots := 6, locals := 120 })).room s m ([.ref p0, .int p1] : List Value).toArray below meth c _ _ 1 6 (vx_MQ below (va_Qi (fun (r : Int32) (u : zS) => zHas g aC 6 p1 ∧ u = (L, κ, g)) (fun (u : zS) (t : State) => zB D tc (zA [] L s.heap.size) [] u t) (zA [] L s.heap.size)) (vx_X (fun u : zS => True) (fun (E : String) (u : zS) (t : State) => (((E = "java/lang/IndexOutOfBoundsException" ∧ ¬ zHas g aC 6 p1)) ∧ u = (L, κ, g)) ∧ zB D tc (zA [] L s.heap.size) [] u t) (zA [] L s.heap.size)) ([.ref p0, .int p1] : List Value).toArray s 1 6 (zA [] L s.heap.size)) (F0 m 5 ls (.ref r3 :: []))
  refine lv_pop hx hb dX8_isBusy_5 rfl ?_
  refine lv_aload_n hx hb dX8_isBusy_6 rfl (lv_at hl 0 rfl) ?_
  refine lv_iload_n hx hb dX8_isBusy_7 rfl (lv_at hl 1 rfl) ?_
  refine va_csq (W.runV (As := [.int p1]) (rest := []) ⟨hx, hb, hml, hown, hts⟩ (c_X8_runningOn l _ _ _ _ _ _ _ p0 hk0 p1) (cwV 1 hts gX8_isBusy_X8_runningOn rfl rfl rfl (by decide +kernel) ⟨Nat.le_of_ble_eq_true rfl, Nat.le_of_ble_eq_true rfl⟩) (z_preV hK hE hI [] rfl rfl (z_recv hK hI hk0 rfl rfl)) rfl rfl hl.1 rfl (lv_room (Nat.le_of_ble_eq_true rfl)) dX8_isBusy_8 ⟨Nat.le_of_ble_eq_true rfl, Nat.le_of_ble_eq_true rfl⟩) (fun v6 hw7 => ?_)
  rcases v6 with _ | r8
  · show W p l e (headSpec wsX8_isBusy ({ frames := 7, cells := 1, slots := 6, locals := 120 })).room s m ([.ref p0, .int p1] : List Value).toArray below meth c _ _ _ _ (vx_MQ below (va_Qi (fun (r : Int32) (u : zS) => zHas g aC 6 p1 ∧ u = (L, κ, g)) (fun (u : zS) (t : State) => zB D tc (zA [] L s.heap.size) [] u t) (zA [] L s.heap.size)) (vx_X (fun u : zS => True) (fun (E : String) (u : zS) (t : State) => (((E = "java/lang/IndexOutOfBoundsException" ∧ ¬ zHas g aC 6 p1)) ∧ u = (L, κ, g)) ∧ zB D tc (zA [] L s.heap.size) [] u t) (zA [] L s.heap.size)) ([.ref p0, .int p1] : List Value).toArray s 1 6 (zA [] L s.heap.size)) (F0 m 11 ls (.null :: []))
    skip
    refine lv_ifnullN (tgt := 18) hx hb dX8_isBusy_11 (by decide) ?_
    refine lv_iconst (v := 0) hx hb dX8_isBusy_18 (by decide) ?_
    refine vx_ret ?_
    exact W.zret (v := 0) hx hb hr (by decide) (fun t ht hW => ⟨⟨_, (L, κ, g), rfl, ⟨⟨hq5.1, _, hq5.2⟩, rfl⟩, z_end hK hI ht hW⟩, z_F hI ht⟩) (z_locs hI) dX8_isBusy_19
  · show W p l e (headSpec wsX8_isBusy ({ frames := 7, cells := 1, slots := 6, locals := 120 })).room s m ([.ref p0, .int p1] : List Value).toArray below meth c _ _ _ _ (vx_MQ below (va_Qi (fun (r : Int32) (u : zS) => zHas g aC 6 p1 ∧ u = (L, κ, g)) (fun (u : zS) (t : State) => zB D tc (zA [] L s.heap.size) [] u t) (zA [] L s.heap.size)) (vx_X (fun u : zS => True) (fun (E : String) (u : zS) (t : State) => (((E = "java/lang/IndexOutOfBoundsException" ∧ ¬ zHas g aC 6 p1)) ∧ u = (L, κ, g)) ∧ zB D tc (zA [] L s.heap.size) [] u t) (zA [] L s.heap.size)) ([.ref p0, .int p1] : List Value).toArray s 1 6 (zA [] L s.heap.size)) (F0 m 11 ls (.ref r8 :: []))
    have hr9 : κ r8 = 9 := hw7 _ rfl
    refine lv_ifnull hx hb dX8_isBusy_11 ?_
    refine lv_iconst (v := 1) hx hb dX8_isBusy_14 (by decide) ?_
    refine lv_goto (tgt := 19) hx hb dX8_isBusy_15 (by decide) ?_
    refine vx_ret ?_
    exact W.zret (v := 1) hx hb hr (by decide) (fun t ht hW => ⟨⟨_, (L, κ, g), rfl, ⟨⟨hq5.1, _, hq5.2⟩, rfl⟩, z_end hK hI ht hW⟩, z_F hI ht⟩) (z_locs hI) dX8_isBusy_19

set_option maxHeartbeats 4000000 in
set_option maxRecDepth 100000 in
theorem c_X8_need (l : Launch) (hnt : l.stackTraces = false) (D : va_G) (tc : Nat → ClassId) (z0 : Nat) (L : List Nat) (κ : Nat → Nat) (g : Nat → Nat → Value) (sz : Nat) (p0 : Nat) (hk0 : κ p0 = 10) (p1 : Int32) (p2 : Int32) (aC : Nat) (hC : g p0 1 = .ref aC) (hWa : zWa g aC 19998) : vx_Met l yX8_need wsX8_need ({ frames := 7, cells := 2, slots := 12, locals := 120 }) (zPc D tc z0 [.ref p0, .int p1, .int p2] [] (L, κ, g) sz) (va_Qi (fun (r : Int32) (u : zS) => zHas g aC 6 p1 ∧ u = (L, κ, g)) (fun (u : zS) (t : State) => zB D tc (zA [] L sz) [] u t) (zA [] L sz)) (vx_X (fun u : zS => True) (fun (E : String) (u : zS) (t : State) => (((E = "java/lang/IndexOutOfBoundsException" ∧ ¬ zHas g aC 6 p1) ∨ (E = "java/lang/IllegalArgumentException")) ∧ u = (L, κ, g)) ∧ zB D tc (zA [] L sz) [] u t) (zA [] L sz)) 2 12 (zA [] L sz) := by
  refine vx_ofW (cc := cX8_need) (maxL := 4) (ret := (some .int)) (by decide) rfl ?_
  intro p e s m args below meth c s₁ B hml hxt hv
  obtain ⟨rfl, rfl, hK, hE, hI⟩ := hv.opn
  have hx := B.exec
  have hb := B.bytes
  have hr := B.returns
  have hts := atoms_spec (ws := wsX8_need) B.pre
  have hown : s.vm.findClass RX8 = some m.cls := findClass_of_methodNamed B.named
  have hlocks := B.notSynchronized
  have hout : ∀ (i : Nat), ∀ x ∈ c.exceptionTable.toList, covers x i = false := fun i x hx9 => (hxt x hx9).elim
  have hM : zM p s m c cX8_need _ wsX8_need RX8 D tc := ⟨hx, hb, hts, hown, hK⟩
  skip
  have hl := lv_entry ([.ref p0, .int p1, .int p2]) (n := 4) (Nat.le_of_ble_eq_true rfl)
  rw [lg_entry_eq]
  generalize (lg_sl ([.ref p0, .int p1, .int p2]) ++ List.replicate (4 - (lg_sl ([.ref p0, .int p1, .int p2])).length) Slot.unset).toArray = ls at hl ⊢
  have hl : lv_has ls 4 [(0, .ref p0), (1, .int p1), (2, .int p2)] := hl
  refine lv_aload_n hx hb dX8_need_0 rfl (lv_at hl 0 rfl) ?_
  refine lv_iload_n hx hb dX8_need_1 rfl (lv_at hl 1 rfl) ?_
  refine z_xq hI (vx_runV (As := [.int p1]) (rest := []) ⟨hx, hb, hml, hown, hts⟩ (c_X8_coreAt l hnt _ _ _ _ _ _ _ p0 hk0 p1 aC hC) (cwV 1 hts gX8_need_X8_coreAt rfl rfl rfl (by decide +kernel) ⟨Nat.le_of_ble_eq_true rfl, Nat.le_of_ble_eq_true rfl⟩) (z_preV hK hE hI [] rfl rfl (z_recv hK hI hk0 rfl rfl)) rfl rfl hl.1 rfl (lv_room (Nat.le_of_ble_eq_true rfl)) dX8_need_2 ⟨Nat.le_of_ble_eq_true rfl, Nat.le_of_ble_eq_true rfl⟩) (fun E ce q9 u H locs hw hI he1 he2 he3 => ?_) (fun v1 u H locs hw2 hI => ?_)
  · obtain ⟨hxp, rfl⟩ := hw
    exact z_pass hK hI hout hlocks he1 he2 he3 (by first | exact ⟨hxp, rfl⟩ | exact ⟨Or.inl hxp, rfl⟩ | exact ⟨Or.inr hxp, rfl⟩ | exact ⟨Or.inr (Or.inl hxp), rfl⟩ | exact ⟨Or.inr (Or.inr hxp), rfl⟩) (Nat.le_of_ble_eq_true rfl) (Nat.le_of_ble_eq_true rfl)
  obtain ⟨r3, rfl, hr4, hq5, rfl⟩ := hw2
  show W p l e (headSpec wsX8_need ({ frames := 7, cells := 2, slots := 12, locals := 120 })).room s m ([.ref p0, .int p1, .int p2] : List Value).toArray below meth c _ _ 1 6 (vx_MQ below (va_Qi (fun (r : Int32) (u : zS) => zHas g aC 6 p1 ∧ u = (L, κ, g)) (fun (u : zS) (t : State) => zB D tc (zA [] L s.heap.size) [] u t) (zA [] L s.heap.size)) (vx_X (fun u : zS => True) (fun (E : String) (u : zS) (t : State) => (((E = "java/lang/IndexOutOfBoundsException" ∧ ¬ zHas g aC 6 p1) ∨ (E = "java/lang/IllegalArgumentException")) ∧ u = (L, κ, g)) ∧ zB D tc (zA [] L s.heap.size) [] u t) (zA [] L s.heap.size)) ([.ref p0, .int p1, .int p2] : List Value).toArray s 2 12 (zA [] L s.heap.size)) (F0 m 5 ls (.ref r3 :: []))
  refine lv_astore_n (lv' := [(3, .ref r3), (0, .ref p0), (1, .int p1), (2, .int p2)]) hx hb dX8_need_5 rfl hl (by decide) rfl (fun ls hl => ?_)
  refine lv_iconst (v := 0) hx hb dX8_need_6 (by decide) ?_
  refine lv_iload_n hx hb dX8_need_7 rfl (lv_at hl 3 rfl) ?_
  refine lv_aload_n hx hb dX8_need_8 rfl (lv_at hl 0 rfl) ?_
  refine vp_callSi (W.runV (As := []) (rest := [.int p2, .int 0]) ⟨hx, hb, hml, hown, hts⟩ (c_X3_greatestSpeed l _ _ _ _ _ _ _ r3 hr4) (cwV 0 hts gX8_need_X3_greatestSpeed rfl rfl rfl (by decide +kernel) ⟨Nat.le_of_ble_eq_true rfl, Nat.le_of_ble_eq_true rfl⟩) (z_preV hK hE hI [] rfl rfl (z_recv hK hI hr4 rfl rfl)) rfl rfl hl.1 rfl (lv_room (Nat.le_of_ble_eq_true rfl)) dX8_need_9 ⟨Nat.le_of_ble_eq_true rfl, Nat.le_of_ble_eq_true rfl⟩) (fun v6 hw7 => ?_)
  refine vp_callSi (W.runS (As := [.int 0, .int p2, .int v6]) (rest := []) ⟨hx, hb, hml, hown, hts⟩ (c_X8_isFrom l _ _ _ _ _ _ _ 0 p2 v6) (va_cwS 3 hts gX8_need_X8_isFrom rfl rfl rfl (by decide +kernel) ⟨Nat.le_of_ble_eq_true rfl, Nat.le_of_ble_eq_true rfl⟩) (z_pre hK hE hI [] rfl rfl) rfl rfl hl.1 rfl (lv_room (Nat.le_of_ble_eq_true rfl)) dX8_need_12 ⟨Nat.le_of_ble_eq_true rfl, Nat.le_of_ble_eq_true rfl⟩) (fun v8 hw9 => ?_)
  refine lv_if_ne (tgt := 28) hx hb dX8_need_15 (by decide) (fun c10 => ?_) (fun c10 => ?_)
  · skip
    refine lv_aload_n hx hb dX8_need_28 rfl (lv_at hl 0 rfl) ?_
    refine lv_iload_n hx hb dX8_need_29 rfl (lv_at hl 3 rfl) ?_
    refine vp_callSi (W.runV (As := [.int p2]) (rest := []) ⟨hx, hb, hml, hown, hts⟩ (c_X3_voltsFor l _ _ _ _ _ _ _ r3 hr4 p2 (w_need (Classical.not_not.mp (fun h => c10 (hw9.mpr h))) hw7) (hWa _ _ (Nat.not_le.mp fun q => hq5.1 (Or.inr q)) hq5.2)) (cwV 1 hts gX8_need_X3_voltsFor rfl rfl rfl (by decide +kernel) ⟨Nat.le_of_ble_eq_true rfl, Nat.le_of_ble_eq_true rfl⟩) (z_preV hK hE hI [] rfl rfl (z_recv hK hI hr4 rfl rfl)) rfl rfl hl.1 rfl (lv_room (Nat.le_of_ble_eq_true rfl)) dX8_need_30 ⟨Nat.le_of_ble_eq_true rfl, Nat.le_of_ble_eq_true rfl⟩) (fun v11 hw12 => ?_)
    refine vx_ret ?_
    refine W.widen (k := 2) (n := 12) (Nat.le_of_ble_eq_true rfl) (Nat.le_of_ble_eq_true rfl) ?_
    exact W.iret (v := v11) hx hb hr (fun t ht hW => ⟨⟨_, (L, κ, g), rfl, ⟨⟨hq5.1, _, hq5.2⟩, rfl⟩, z_end hK hI ht hW⟩, z_F hI ht⟩) (z_locs hI) dX8_need_33
  · skip
    refine z_throw (ik := 71) (is := 158) (ic := 75) (cls := "java/lang/IllegalArgumentException") (text := "no speed of its kind") (L0 := L) ["java/lang/RuntimeException", "java/lang/Exception"] (by decide) hM hE hI hnt (by decide) (by decide +kernel) (by decide +kernel) (by decide +kernel) (by decide +kernel) (by decide +kernel) (by decide +kernel) (hl.1.trans hml.symm) dX8_need_18 dX8_need_21 dX8_need_22 dX8_need_24 dX8_need_27 hout (Nat.le_of_ble_eq_true rfl) (Nat.le_of_ble_eq_true rfl) (Nat.le_of_ble_eq_true rfl) (Nat.le_of_ble_eq_true rfl) hlocks ⟨Or.inr rfl, rfl⟩ (Nat.le_of_ble_eq_true rfl) (Nat.le_of_ble_eq_true rfl)

set_option maxHeartbeats 4000000 in
set_option maxRecDepth 100000 in
theorem c_X8_heat (l : Launch) (hnt : l.stackTraces = false) (D : va_G) (tc : Nat → ClassId) (z0 : Nat) (L : List Nat) (κ : Nat → Nat) (g : Nat → Nat → Value) (sz : Nat) (p0 : Nat) (hk0 : κ p0 = 10) (p1 : Int32) (aC : Nat) (hC : g p0 1 = .ref aC) : vx_Met l yX8_heat wsX8_heat ({ frames := 7, cells := 1, slots := 6, locals := 120 }) (zPc D tc z0 [.ref p0, .int p1] [] (L, κ, g) sz) (va_Qi (fun (r : Int32) (u : zS) => zHas g aC 6 p1 ∧ u = (L, κ, g)) (fun (u : zS) (t : State) => zB D tc (zA [] L sz) [] u t) (zA [] L sz)) (vx_X (fun u : zS => True) (fun (E : String) (u : zS) (t : State) => (((E = "java/lang/IndexOutOfBoundsException" ∧ ¬ zHas g aC 6 p1)) ∧ u = (L, κ, g)) ∧ zB D tc (zA [] L sz) [] u t) (zA [] L sz)) 1 6 (zA [] L sz) := by
  refine vx_ofW (cc := cX8_heat) (maxL := 2) (ret := (some .int)) (by decide) rfl ?_
  intro p e s m args below meth c s₁ B hml hxt hv
  obtain ⟨rfl, rfl, hK, hE, hI⟩ := hv.opn
  have hx := B.exec
  have hb := B.bytes
  have hr := B.returns
  have hts := atoms_spec (ws := wsX8_heat) B.pre
  have hown : s.vm.findClass RX8 = some m.cls := findClass_of_methodNamed B.named
  have hlocks := B.notSynchronized
  have hout : ∀ (i : Nat), ∀ x ∈ c.exceptionTable.toList, covers x i = false := fun i x hx9 => (hxt x hx9).elim
  have hM : zM p s m c cX8_heat _ wsX8_heat RX8 D tc := ⟨hx, hb, hts, hown, hK⟩
  have hinX3 : ∀ w ∈ wsX30, w ∈ wsX8_heat := by decide +kernel
  have hinX1 : ∀ w ∈ wsX10, w ∈ wsX8_heat := by decide +kernel
  have hl := lv_entry ([.ref p0, .int p1]) (n := 2) (Nat.le_of_ble_eq_true rfl)
  rw [lg_entry_eq]
  generalize (lg_sl ([.ref p0, .int p1]) ++ List.replicate (2 - (lg_sl ([.ref p0, .int p1])).length) Slot.unset).toArray = ls at hl ⊢
  have hl : lv_has ls 2 [(0, .ref p0), (1, .int p1)] := hl
  refine lv_aload_n hx hb dX8_heat_0 rfl (lv_at hl 0 rfl) ?_
  refine lv_iload_n hx hb dX8_heat_1 rfl (lv_at hl 1 rfl) ?_
  refine z_xq hI (vx_runV (As := [.int p1]) (rest := []) ⟨hx, hb, hml, hown, hts⟩ (c_X8_coreAt l hnt _ _ _ _ _ _ _ p0 hk0 p1 aC hC) (cwV 1 hts gX8_heat_X8_coreAt rfl rfl rfl (by decide +kernel) ⟨Nat.le_of_ble_eq_true rfl, Nat.le_of_ble_eq_true rfl⟩) (z_preV hK hE hI [] rfl rfl (z_recv hK hI hk0 rfl rfl)) rfl rfl hl.1 rfl (lv_room (Nat.le_of_ble_eq_true rfl)) dX8_heat_2 ⟨Nat.le_of_ble_eq_true rfl, Nat.le_of_ble_eq_true rfl⟩) (fun E ce q9 u H locs hw hI he1 he2 he3 => ?_) (fun v1 u H locs hw2 hI => ?_)
  · obtain ⟨hxp, rfl⟩ := hw
    exact z_pass hK hI hout hlocks he1 he2 he3 (by first | exact ⟨hxp, rfl⟩ | exact ⟨Or.inl hxp, rfl⟩ | exact ⟨Or.inr hxp, rfl⟩ | exact ⟨Or.inr (Or.inl hxp), rfl⟩ | exact ⟨Or.inr (Or.inr hxp), rfl⟩) (Nat.le_of_ble_eq_true rfl) (Nat.le_of_ble_eq_true rfl)
  obtain ⟨r3, rfl, hr4, hq5, rfl⟩ := hw2
  show W p l e (headSpec wsX8_heat ({ frames := 7, cells := 1, slots := 6, locals := 120 })).room s m ([.ref p0, .int p1] : List Value).toArray below meth c _ _ 1 6 (vx_MQ below (va_Qi (fun (r : Int32) (u : zS) => zHas g aC 6 p1 ∧ u = (L, κ, g)) (fun (u : zS) (t : State) => zB D tc (zA [] L s.heap.size) [] u t) (zA [] L s.heap.size)) (vx_X (fun u : zS => True) (fun (E : String) (u : zS) (t : State) => (((E = "java/lang/IndexOutOfBoundsException" ∧ ¬ zHas g aC 6 p1)) ∧ u = (L, κ, g)) ∧ zB D tc (zA [] L s.heap.size) [] u t) (zA [] L s.heap.size)) ([.ref p0, .int p1] : List Value).toArray s 1 6 (zA [] L s.heap.size)) (F0 m 5 ls (.ref r3 :: []))
  refine z_get (k := 5) (j := 15) hM hI hr4 rfl rfl hinX3 rfl (by decide) (by decide +kernel) (fun _ h9 => h9) dX8_heat_5 (fun v6 hv7 => ?_)
  obtain ⟨hg9, i8, rfl, hr10⟩ := hv7
  refine z_get (k := 3) (j := 1) hM hI hr10 rfl rfl hinX1 rfl (by decide) (by decide +kernel) (fun _ h9 => h9) dX8_heat_8 (fun v11 hv12 => ?_)
  obtain ⟨hg14, i13, rfl, hr15⟩ := hv12
  refine vp_callSl (W.runV (As := []) (rest := []) ⟨hx, hb, hml, hown, hts⟩ (c_X0_lowBits l _ _ _ _ _ _ _ i13 32 52 ⟨rfl, rfl, rfl⟩ hr15) (cwV 0 hts gX8_heat_X0_lowBits rfl rfl rfl (by decide +kernel) ⟨Nat.le_of_ble_eq_true rfl, Nat.le_of_ble_eq_true rfl⟩) (z_preV hK hE hI [] rfl rfl (z_recv hK hI hr15 rfl rfl)) rfl rfl hl.1 rfl (lv_room (Nat.le_of_ble_eq_true rfl)) dX8_heat_11 ⟨Nat.le_of_ble_eq_true rfl, Nat.le_of_ble_eq_true rfl⟩) (fun v16 hw17 => ?_)
  refine lv_l2i hx hb dX8_heat_14 rfl ?_
  refine lv_topi (fun v18 e19 => ?_)
  refine vx_ret ?_
  exact W.iret (v := v18) hx hb hr (fun t ht hW => ⟨⟨_, (L, κ, g), rfl, ⟨⟨hq5.1, _, hq5.2⟩, rfl⟩, z_end hK hI ht hW⟩, z_F hI ht⟩) (z_locs hI) dX8_heat_15

set_option maxHeartbeats 4000000 in
set_option maxRecDepth 100000 in
theorem c_X8_degrees (l : Launch) (hnt : l.stackTraces = false) (D : va_G) (tc : Nat → ClassId) (z0 : Nat) (L : List Nat) (κ : Nat → Nat) (g : Nat → Nat → Value) (sz : Nat) (p0 : Nat) (hk0 : κ p0 = 10) (p1 : Int32) (aC : Nat) (hC : g p0 1 = .ref aC) : vx_Met l yX8_degrees wsX8_degrees ({ frames := 7, cells := 1, slots := 6, locals := 120 }) (zPc D tc z0 [.ref p0, .int p1] [] (L, κ, g) sz) (va_Qi (fun (r : Int32) (u : zS) => zHas g aC 6 p1 ∧ u = (L, κ, g)) (fun (u : zS) (t : State) => zB D tc (zA [] L sz) [] u t) (zA [] L sz)) (vx_X (fun u : zS => True) (fun (E : String) (u : zS) (t : State) => (((E = "java/lang/IndexOutOfBoundsException" ∧ ¬ zHas g aC 6 p1)) ∧ u = (L, κ, g)) ∧ zB D tc (zA [] L sz) [] u t) (zA [] L sz)) 1 6 (zA [] L sz) := by
  refine vx_ofW (cc := cX8_degrees) (maxL := 2) (ret := (some .int)) (by decide) rfl ?_
  intro p e s m args below meth c s₁ B hml hxt hv
  obtain ⟨rfl, rfl, hK, hE, hI⟩ := hv.opn
  have hx := B.exec
  have hb := B.bytes
  have hr := B.returns
  have hts := atoms_spec (ws := wsX8_degrees) B.pre
  have hown : s.vm.findClass RX8 = some m.cls := findClass_of_methodNamed B.named
  have hlocks := B.notSynchronized
  have hout : ∀ (i : Nat), ∀ x ∈ c.exceptionTable.toList, covers x i = false := fun i x hx9 => (hxt x hx9).elim
  have hM : zM p s m c cX8_degrees _ wsX8_degrees RX8 D tc := ⟨hx, hb, hts, hown, hK⟩
  have hinX3 : ∀ w ∈ wsX30, w ∈ wsX8_degrees := by decide +kernel
  have hinX1 : ∀ w ∈ wsX10, w ∈ wsX8_degrees := by decide +kernel
  have hl := lv_entry ([.ref p0, .int p1]) (n := 2) (Nat.le_of_ble_eq_true rfl)
  rw [lg_entry_eq]
  generalize (lg_sl ([.ref p0, .int p1]) ++ List.replicate (2 - (lg_sl ([.ref p0, .int p1])).length) Slot.unset).toArray = ls at hl ⊢
  have hl : lv_has ls 2 [(0, .ref p0), (1, .int p1)] := hl
  refine lv_aload_n hx hb dX8_degrees_0 rfl (lv_at hl 0 rfl) ?_
  refine lv_iload_n hx hb dX8_degrees_1 rfl (lv_at hl 1 rfl) ?_
  refine z_xq hI (vx_runV (As := [.int p1]) (rest := []) ⟨hx, hb, hml, hown, hts⟩ (c_X8_coreAt l hnt _ _ _ _ _ _ _ p0 hk0 p1 aC hC) (cwV 1 hts gX8_degrees_X8_coreAt rfl rfl rfl (by decide +kernel) ⟨Nat.le_of_ble_eq_true rfl, Nat.le_of_ble_eq_true rfl⟩) (z_preV hK hE hI [] rfl rfl (z_recv hK hI hk0 rfl rfl)) rfl rfl hl.1 rfl (lv_room (Nat.le_of_ble_eq_true rfl)) dX8_degrees_2 ⟨Nat.le_of_ble_eq_true rfl, Nat.le_of_ble_eq_true rfl⟩) (fun E ce q9 u H locs hw hI he1 he2 he3 => ?_) (fun v1 u H locs hw2 hI => ?_)
  · obtain ⟨hxp, rfl⟩ := hw
    exact z_pass hK hI hout hlocks he1 he2 he3 (by first | exact ⟨hxp, rfl⟩ | exact ⟨Or.inl hxp, rfl⟩ | exact ⟨Or.inr hxp, rfl⟩ | exact ⟨Or.inr (Or.inl hxp), rfl⟩ | exact ⟨Or.inr (Or.inr hxp), rfl⟩) (Nat.le_of_ble_eq_true rfl) (Nat.le_of_ble_eq_true rfl)
  obtain ⟨r3, rfl, hr4, hq5, rfl⟩ := hw2
  show W p l e (headSpec wsX8_degrees ({ frames := 7, cells := 1, slots := 6, locals := 120 })).room s m ([.ref p0, .int p1] : List Value).toArray below meth c _ _ 1 6 (vx_MQ below (va_Qi (fun (r : Int32) (u : zS) => zHas g aC 6 p1 ∧ u = (L, κ, g)) (fun (u : zS) (t : State) => zB D tc (zA [] L s.heap.size) [] u t) (zA [] L s.heap.size)) (vx_X (fun u : zS => True) (fun (E : String) (u : zS) (t : State) => (((E = "java/lang/IndexOutOfBoundsException" ∧ ¬ zHas g aC 6 p1)) ∧ u = (L, κ, g)) ∧ zB D tc (zA [] L s.heap.size) [] u t) (zA [] L s.heap.size)) ([.ref p0, .int p1] : List Value).toArray s 1 6 (zA [] L s.heap.size)) (F0 m 5 ls (.ref r3 :: []))
  refine z_get (k := 5) (j := 15) hM hI hr4 rfl rfl hinX3 rfl (by decide) (by decide +kernel) (fun _ h9 => h9) dX8_degrees_5 (fun v6 hv7 => ?_)
  obtain ⟨hg9, i8, rfl, hr10⟩ := hv7
  refine z_get (k := 3) (j := 2) hM hI hr10 rfl rfl hinX1 rfl (by decide) (by decide +kernel) (fun _ h9 => h9) dX8_degrees_8 (fun v11 hv12 => ?_)
  obtain ⟨hg14, i13, rfl, hr15⟩ := hv12
  refine vp_callSl (W.runV (As := []) (rest := []) ⟨hx, hb, hml, hown, hts⟩ (c_X0_lowBits l _ _ _ _ _ _ _ i13 33 53 ⟨rfl, rfl, rfl⟩ hr15) (cwV 0 hts gX8_degrees_X0_lowBits rfl rfl rfl (by decide +kernel) ⟨Nat.le_of_ble_eq_true rfl, Nat.le_of_ble_eq_true rfl⟩) (z_preV hK hE hI [] rfl rfl (z_recv hK hI hr15 rfl rfl)) rfl rfl hl.1 rfl (lv_room (Nat.le_of_ble_eq_true rfl)) dX8_degrees_11 ⟨Nat.le_of_ble_eq_true rfl, Nat.le_of_ble_eq_true rfl⟩) (fun v16 hw17 => ?_)
  refine lv_l2i hx hb dX8_degrees_14 rfl ?_
  refine lv_topi (fun v18 e19 => ?_)
  refine vx_ret ?_
  exact W.iret (v := v18) hx hb hr (fun t ht hW => ⟨⟨_, (L, κ, g), rfl, ⟨⟨hq5.1, _, hq5.2⟩, rfl⟩, z_end hK hI ht hW⟩, z_F hI ht⟩) (z_locs hI) dX8_degrees_15

set_option maxHeartbeats 4000000 in
set_option maxRecDepth 100000 in
theorem c_X8_feed (l : Launch) (hnt : l.stackTraces = false) (D : va_G) (tc : Nat → ClassId) (z0 : Nat) (L : List Nat) (κ : Nat → Nat) (g : Nat → Nat → Value) (sz : Nat) (p0 : Nat) (hk0 : κ p0 = 10) (p1 : Int32) (p2 : Int32) (aT : Nat) (hT : g p0 2 = .ref aT) : vx_Met l yX8_feed wsX8_feed ({ frames := 7, cells := 2, slots := 12, locals := 120 }) (zPc D tc z0 [.ref p0, .int p1, .int p2] [] (L, κ, g) sz) (va_Qi (fun (r : Int32) (u : zS) => zHas g aT 8 p1 ∧ u = (L, κ, g)) (fun (u : zS) (t : State) => zB D tc (zA [] L sz) [] u t) (zA [] L sz)) (vx_X (fun u : zS => True) (fun (E : String) (u : zS) (t : State) => (((E = "java/lang/IndexOutOfBoundsException" ∧ ¬ zHas g aT 8 p1) ∨ (E = "java/lang/IllegalArgumentException") ∨ (E = "java/lang/IllegalStateException")) ∧ u = (L, κ, g)) ∧ zB D tc (zA [] L sz) [] u t) (zA [] L sz)) 2 12 (zA [] L sz) := by
  refine vx_ofW (cc := cX8_feed) (maxL := 4) (ret := (some .int)) (by decide) rfl ?_
  intro p e s m args below meth c s₁ B hml hxt hv
  obtain ⟨rfl, rfl, hK, hE, hI⟩ := hv.opn
  have hx := B.exec
  have hb := B.bytes
  have hr := B.returns
  have hts := atoms_spec (ws := wsX8_feed) B.pre
  have hown : s.vm.findClass RX8 = some m.cls := findClass_of_methodNamed B.named
  have hlocks := B.notSynchronized
  have hout : ∀ (i : Nat), ∀ x ∈ c.exceptionTable.toList, covers x i = false := fun i x hx9 => (hxt x hx9).elim
  have hM : zM p s m c cX8_feed _ wsX8_feed RX8 D tc := ⟨hx, hb, hts, hown, hK⟩
  have hinX7 : ∀ w ∈ wsX70, w ∈ wsX8_feed := by decide +kernel
  have hl := lv_entry ([.ref p0, .int p1, .int p2]) (n := 4) (Nat.le_of_ble_eq_true rfl)
  rw [lg_entry_eq]
  generalize (lg_sl ([.ref p0, .int p1, .int p2]) ++ List.replicate (4 - (lg_sl ([.ref p0, .int p1, .int p2])).length) Slot.unset).toArray = ls at hl ⊢
  have hl : lv_has ls 4 [(0, .ref p0), (1, .int p1), (2, .int p2)] := hl
  refine lv_aload_n hx hb dX8_feed_0 rfl (lv_at hl 0 rfl) ?_
  refine lv_iload_n hx hb dX8_feed_1 rfl (lv_at hl 1 rfl) ?_
  refine z_xq hI (vx_runV (As := [.int p1]) (rest := []) ⟨hx, hb, hml, hown, hts⟩ (c_X8_taskAt l hnt _ _ _ _ _ _ _ p0 hk0 p1 aT hT) (cwV 1 hts gX8_feed_X8_taskAt rfl rfl rfl (by decide +kernel) ⟨Nat.le_of_ble_eq_true rfl, Nat.le_of_ble_eq_true rfl⟩) (z_preV hK hE hI [] rfl rfl (z_recv hK hI hk0 rfl rfl)) rfl rfl hl.1 rfl (lv_room (Nat.le_of_ble_eq_true rfl)) dX8_feed_2 ⟨Nat.le_of_ble_eq_true rfl, Nat.le_of_ble_eq_true rfl⟩) (fun E ce q9 u H locs hw hI he1 he2 he3 => ?_) (fun v1 u H locs hw2 hI => ?_)
  · obtain ⟨hxp, rfl⟩ := hw
    exact z_pass hK hI hout hlocks he1 he2 he3 (by first | exact ⟨hxp, rfl⟩ | exact ⟨Or.inl hxp, rfl⟩ | exact ⟨Or.inr hxp, rfl⟩ | exact ⟨Or.inr (Or.inl hxp), rfl⟩ | exact ⟨Or.inr (Or.inr hxp), rfl⟩) (Nat.le_of_ble_eq_true rfl) (Nat.le_of_ble_eq_true rfl)
  obtain ⟨r3, rfl, hr4, hq5, rfl⟩ := hw2
  show W p l e (headSpec wsX8_feed ({ frames := 7, cells := 2, slots := 12, locals := 120 })).room s m ([.ref p0, .int p1, .int p2] : List Value).toArray below meth c _ _ 1 6 (vx_MQ below (va_Qi (fun (r : Int32) (u : zS) => zHas g aT 8 p1 ∧ u = (L, κ, g)) (fun (u : zS) (t : State) => zB D tc (zA [] L s.heap.size) [] u t) (zA [] L s.heap.size)) (vx_X (fun u : zS => True) (fun (E : String) (u : zS) (t : State) => (((E = "java/lang/IndexOutOfBoundsException" ∧ ¬ zHas g aT 8 p1) ∨ (E = "java/lang/IllegalArgumentException") ∨ (E = "java/lang/IllegalStateException")) ∧ u = (L, κ, g)) ∧ zB D tc (zA [] L s.heap.size) [] u t) (zA [] L s.heap.size)) ([.ref p0, .int p1, .int p2] : List Value).toArray s 2 12 (zA [] L s.heap.size)) (F0 m 5 ls (.ref r3 :: []))
  refine lv_astore_n (lv' := [(3, .ref r3), (0, .ref p0), (1, .int p1), (2, .int p2)]) hx hb dX8_feed_5 rfl hl (by decide) rfl (fun ls hl => ?_)
  refine lv_iconst (v := 1) hx hb dX8_feed_6 (by decide) ?_
  refine lv_iload_n hx hb dX8_feed_7 rfl (lv_at hl 3 rfl) ?_
  refine lv_ldc (v := 99999) hx hb hown (hts (.constant RX8 90 (99999)) (by decide +kernel)) dX8_feed_8 ?_
  refine vp_callSi (W.runS (As := [.int 1, .int p2, .int 99999]) (rest := []) ⟨hx, hb, hml, hown, hts⟩ (c_X8_isFrom l _ _ _ _ _ _ _ 1 p2 99999) (va_cwS 3 hts gX8_feed_X8_isFrom rfl rfl rfl (by decide +kernel) ⟨Nat.le_of_ble_eq_true rfl, Nat.le_of_ble_eq_true rfl⟩) (z_pre hK hE hI [] rfl rfl) rfl rfl hl.1 rfl (lv_room (Nat.le_of_ble_eq_true rfl)) dX8_feed_10 ⟨Nat.le_of_ble_eq_true rfl, Nat.le_of_ble_eq_true rfl⟩) (fun v6 hw7 => ?_)
  refine lv_if_ne (tgt := 26) hx hb dX8_feed_13 (by decide) (fun c8 => ?_) (fun c8 => ?_)
  · skip
    refine lv_aload_n hx hb dX8_feed_26 rfl (lv_at hl 0 rfl) ?_
    refine z_get (k := 9) (j := 2) hM hI hr4 rfl rfl hinX7 rfl (by decide) (by decide +kernel) (fun _ h9 => h9) dX8_feed_27 (fun v9 hv10 => ?_)
    obtain ⟨i11, rfl⟩ := hv10
    refine lv_iload_n hx hb dX8_feed_30 rfl (lv_at hl 3 rfl) ?_
    refine lv_iadd hx hb dX8_feed_31 ?_
    refine lv_topi (fun v12 e13 => ?_)
    refine lv_ldc (v := 999999) hx hb hown (hts (.constant RX8 109 (999999)) (by decide +kernel)) dX8_feed_32 ?_
    refine lv_icmp_le (tgt := 47) hx hb dX8_feed_34 (by decide) (fun c14 => ?_) (fun c14 => ?_)
    · skip
      refine lv_aload_n hx hb dX8_feed_47 rfl (lv_at hl 0 rfl) ?_
      refine lv_dup hx hb dX8_feed_48 rfl ?_
      refine z_get (k := 9) (j := 2) hM hI hr4 rfl rfl hinX7 rfl (by decide) (by decide +kernel) (fun _ h9 => h9) dX8_feed_49 (fun v15 hv16 => ?_)
      obtain ⟨i17, rfl⟩ := hv16
      refine lv_iload_n hx hb dX8_feed_52 rfl (lv_at hl 3 rfl) ?_
      refine lv_iadd hx hb dX8_feed_53 ?_
      refine lv_topi (fun v18 e19 => ?_)
      refine z_put (g' := g) (k := 9) (j := 2) hM hI hr4 rfl rfl hinX7 tyX7 tyX7_ok nmX7 rfl (by decide) (by decide +kernel) (fun _ h9 => h9) rfl rfl rfl rfl ⟨_, rfl⟩ (fun _ _ _ => rfl) dX8_feed_54 (fun H locs hI => ?_)
      refine lv_aload_n hx hb dX8_feed_57 rfl (lv_at hl 0 rfl) ?_
      refine z_get (k := 9) (j := 2) hM hI hr4 rfl rfl hinX7 rfl (by decide) (by decide +kernel) (fun _ h9 => h9) dX8_feed_58 (fun v20 hv21 => ?_)
      obtain ⟨i22, rfl⟩ := hv21
      refine vx_ret ?_
      refine W.widen (k := 2) (n := 12) (Nat.le_of_ble_eq_true rfl) (Nat.le_of_ble_eq_true rfl) ?_
      exact W.iret (v := i22) hx hb hr (fun t ht hW => ⟨⟨_, (L, κ, g), rfl, ⟨⟨hq5.1, _, hq5.2⟩, rfl⟩, z_end hK hI ht hW⟩, z_F hI ht⟩) (z_locs hI) dX8_feed_61
    · skip
      refine z_throw (ik := 81) (is := 110) (ic := 85) (cls := "java/lang/IllegalStateException") (text := "too much work") (L0 := L) ["java/lang/RuntimeException", "java/lang/Exception"] (by decide) hM hE hI hnt (by decide) (by decide +kernel) (by decide +kernel) (by decide +kernel) (by decide +kernel) (by decide +kernel) (by decide +kernel) (hl.1.trans hml.symm) dX8_feed_37 dX8_feed_40 dX8_feed_41 dX8_feed_43 dX8_feed_46 hout (Nat.le_of_ble_eq_true rfl) (Nat.le_of_ble_eq_true rfl) (Nat.le_of_ble_eq_true rfl) (Nat.le_of_ble_eq_true rfl) hlocks ⟨by first | exact Or.inr (Or.inl rfl) | exact Or.inr (Or.inr rfl), rfl⟩ (Nat.le_of_ble_eq_true rfl) (Nat.le_of_ble_eq_true rfl)
  · skip
    refine z_throw (ik := 71) (is := 95) (ic := 75) (cls := "java/lang/IllegalArgumentException") (text := "a number out of range") (L0 := L) ["java/lang/RuntimeException", "java/lang/Exception"] (by decide) hM hE hI hnt (by decide) (by decide +kernel) (by decide +kernel) (by decide +kernel) (by decide +kernel) (by decide +kernel) (by decide +kernel) (hl.1.trans hml.symm) dX8_feed_16 dX8_feed_19 dX8_feed_20 dX8_feed_22 dX8_feed_25 hout (Nat.le_of_ble_eq_true rfl) (Nat.le_of_ble_eq_true rfl) (Nat.le_of_ble_eq_true rfl) (Nat.le_of_ble_eq_true rfl) hlocks ⟨by first | exact Or.inr (Or.inl rfl) | exact Or.inr (Or.inr rfl), rfl⟩ (Nat.le_of_ble_eq_true rfl) (Nat.le_of_ble_eq_true rfl)

set_option maxHeartbeats 4000000 in
set_option maxRecDepth 100000 in
theorem c_X8_volts (l : Launch) (hnt : l.stackTraces = false) (D : va_G) (tc : Nat → ClassId) (z0 : Nat) (L : List Nat) (κ : Nat → Nat) (g : Nat → Nat → Value) (sz : Nat) (p0 : Nat) (hk0 : κ p0 = 10) (p1 : Int32) : vx_Met l yX8_volts wsX8_volts ({ frames := 7, cells := 1, slots := 6, locals := 120 }) (zPc D tc z0 [.ref p0, .int p1] [] (L, κ, g) sz) (va_Qi (fun (r : Int32) (u : zS) => vp_in p1 3 ∧ u = (L, κ, g)) (fun (u : zS) (t : State) => zB D tc (zA [] L sz) [] u t) (zA [] L sz)) (vx_X (fun u : zS => True) (fun (E : String) (u : zS) (t : State) => ((E = "java/lang/IndexOutOfBoundsException" ∧ ¬ vp_in p1 3) ∧ u = (L, κ, g)) ∧ zB D tc (zA [] L sz) [] u t) (zA [] L sz)) 1 6 (zA [] L sz) := by
  refine vx_ofW (cc := cX8_volts) (maxL := 2) (ret := (some .int)) (by decide) rfl ?_
  intro p e s m args below meth c s₁ B hml hxt hv
  obtain ⟨rfl, rfl, hK, hE, hI⟩ := hv.opn
  have hx := B.exec
  have hb := B.bytes
  have hr := B.returns
  have hts := atoms_spec (ws := wsX8_volts) B.pre
  have hown : s.vm.findClass RX8 = some m.cls := findClass_of_methodNamed B.named
  have hlocks := B.notSynchronized
  have hout : ∀ (i : Nat), ∀ x ∈ c.exceptionTable.toList, covers x i = false := fun i x hx9 => (hxt x hx9).elim
  have hM : zM p s m c cX8_volts _ wsX8_volts RX8 D tc := ⟨hx, hb, hts, hown, hK⟩
  have hinX4 : ∀ w ∈ wsX40, w ∈ wsX8_volts := by decide +kernel
  have hl := lv_entry ([.ref p0, .int p1]) (n := 2) (Nat.le_of_ble_eq_true rfl)
  rw [lg_entry_eq]
  generalize (lg_sl ([.ref p0, .int p1]) ++ List.replicate (2 - (lg_sl ([.ref p0, .int p1])).length) Slot.unset).toArray = ls at hl ⊢
  have hl : lv_has ls 2 [(0, .ref p0), (1, .int p1)] := hl
  refine lv_aload_n hx hb dX8_volts_0 rfl (lv_at hl 0 rfl) ?_
  refine lv_iload_n hx hb dX8_volts_1 rfl (lv_at hl 1 rfl) ?_
  refine z_xq hI (vx_runV (As := [.int p1]) (rest := []) ⟨hx, hb, hml, hown, hts⟩ (c_X8_railAt l hnt _ _ _ _ _ _ _ p0 hk0 p1) (cwV 1 hts gX8_volts_X8_railAt rfl rfl rfl (by decide +kernel) ⟨Nat.le_of_ble_eq_true rfl, Nat.le_of_ble_eq_true rfl⟩) (z_preV hK hE hI [] rfl rfl (z_recv hK hI hk0 rfl rfl)) rfl rfl hl.1 rfl (lv_room (Nat.le_of_ble_eq_true rfl)) dX8_volts_2 ⟨Nat.le_of_ble_eq_true rfl, Nat.le_of_ble_eq_true rfl⟩) (fun E ce q9 u H locs hw hI he1 he2 he3 => ?_) (fun v1 u H locs hw2 hI => ?_)
  · obtain ⟨hxp, rfl⟩ := hw
    exact z_pass hK hI hout hlocks he1 he2 he3 (by first | exact ⟨hxp, rfl⟩ | exact ⟨Or.inl hxp, rfl⟩ | exact ⟨Or.inr hxp, rfl⟩ | exact ⟨Or.inr (Or.inl hxp), rfl⟩ | exact ⟨Or.inr (Or.inr hxp), rfl⟩) (Nat.le_of_ble_eq_true rfl) (Nat.le_of_ble_eq_true rfl)
  obtain ⟨r3, rfl, hr4, hq5, rfl⟩ := hw2
  show W p l e (headSpec wsX8_volts ({ frames := 7, cells := 1, slots := 6, locals := 120 })).room s m ([.ref p0, .int p1] : List Value).toArray below meth c _ _ 1 6 (vx_MQ below (va_Qi (fun (r : Int32) (u : zS) => vp_in p1 3 ∧ u = (L, κ, g)) (fun (u : zS) (t : State) => zB D tc (zA [] L s.heap.size) [] u t) (zA [] L s.heap.size)) (vx_X (fun u : zS => True) (fun (E : String) (u : zS) (t : State) => ((E = "java/lang/IndexOutOfBoundsException" ∧ ¬ vp_in p1 3) ∧ u = (L, κ, g)) ∧ zB D tc (zA [] L s.heap.size) [] u t) (zA [] L s.heap.size)) ([.ref p0, .int p1] : List Value).toArray s 1 6 (zA [] L s.heap.size)) (F0 m 5 ls (.ref r3 :: []))
  refine z_get (k := 6) (j := 0) hM hI hr4 rfl rfl hinX4 rfl (by decide) (by decide +kernel) (fun _ h9 => h9) dX8_volts_5 (fun v6 hv7 => ?_)
  obtain ⟨i8, rfl, hb9, hb10⟩ := hv7
  have hb10 : i8.toInt < 2945 := hb10
  refine vx_ret ?_
  exact W.iret (v := i8) hx hb hr (fun t ht hW => ⟨⟨_, (L, κ, g), rfl, ⟨hq5, rfl⟩, z_end hK hI ht hW⟩, z_F hI ht⟩) (z_locs hI) dX8_volts_8

set_option maxHeartbeats 4000000 in
set_option maxRecDepth 100000 in
theorem c_X8_fan (l : Launch) (D : va_G) (tc : Nat → ClassId) (z0 : Nat) (L : List Nat) (κ : Nat → Nat) (g : Nat → Nat → Value) (sz : Nat) (p0 : Nat) (hk0 : κ p0 = 10) : Met l yX8_fan wsX8_fan ({ frames := 0, cells := 0, slots := 0, locals := 0 }) (zPc D tc z0 [.ref p0] [] (L, κ, g) sz) (va_Qi (fun (r : Int32) (u : zS) => u = (L, κ, g)) (fun (u : zS) (t : State) => zB D tc (zA [] L sz) [] u t) (zA [] L sz)) 0 0 (zA [] L sz) := by
  refine Met.ofW (cc := cX8_fan) (maxL := 1) (ret := (some .int)) (by decide) rfl ?_
  intro p e s m args below meth c s₁ B hml hv
  obtain ⟨rfl, rfl, hK, hE, hI⟩ := hv.opn
  have hx := B.exec
  have hb := B.bytes
  have hr := B.returns
  have hts := atoms_spec (ws := wsX8_fan) B.pre
  have hown : s.vm.findClass RX8 = some m.cls := findClass_of_methodNamed B.named
  have hlocks := B.notSynchronized
  have hM : zM p s m c cX8_fan _ wsX8_fan RX8 D tc := ⟨hx, hb, hts, hown, hK⟩
  have hinX8 : ∀ w ∈ wsX80, w ∈ wsX8_fan := by decide +kernel
  have hinX2 : ∀ w ∈ wsX20, w ∈ wsX8_fan := by decide +kernel
  have hl := lv_entry ([.ref p0]) (n := 1) (Nat.le_of_ble_eq_true rfl)
  rw [lg_entry_eq]
  generalize (lg_sl ([.ref p0]) ++ List.replicate (1 - (lg_sl ([.ref p0])).length) Slot.unset).toArray = ls at hl ⊢
  have hl : lv_has ls 1 [(0, .ref p0)] := hl
  refine lv_aload_n hx hb dX8_fan_0 rfl (lv_at hl 0 rfl) ?_
  refine z_get (k := 10) (j := 3) hM hI hk0 rfl rfl hinX8 rfl (by decide) (by decide +kernel) (fun _ h9 => h9) dX8_fan_1 (fun v1 hv2 => ?_)
  obtain ⟨hg4, i3, rfl, hr5⟩ := hv2
  refine z_get (k := 4) (j := 3) hM hI hr5 rfl rfl hinX2 rfl (by decide) (by decide +kernel) (fun _ h9 => h9) dX8_fan_4 (fun v6 hv7 => ?_)
  obtain ⟨i8, rfl, hb9, hb10⟩ := hv7
  have hb10 : i8.toInt < 4 := hb10
  exact W.iret (v := i8) hx hb hr (fun t ht hW => ⟨⟨_, (L, κ, g), rfl, rfl, z_end hK hI ht hW⟩, z_F hI ht⟩) (z_locs hI) dX8_fan_7

set_option maxHeartbeats 4000000 in
set_option maxRecDepth 100000 in
theorem c_X8_battery (l : Launch) (D : va_G) (tc : Nat → ClassId) (z0 : Nat) (L : List Nat) (κ : Nat → Nat) (g : Nat → Nat → Value) (sz : Nat) (p0 : Nat) (hk0 : κ p0 = 10) : Met l yX8_battery wsX8_battery ({ frames := 0, cells := 0, slots := 0, locals := 0 }) (zPc D tc z0 [.ref p0] [] (L, κ, g) sz) (va_Qi (fun (r : Int32) (u : zS) => u = (L, κ, g)) (fun (u : zS) (t : State) => zB D tc (zA [] L sz) [] u t) (zA [] L sz)) 0 0 (zA [] L sz) := by
  refine Met.ofW (cc := cX8_battery) (maxL := 1) (ret := (some .int)) (by decide) rfl ?_
  intro p e s m args below meth c s₁ B hml hv
  obtain ⟨rfl, rfl, hK, hE, hI⟩ := hv.opn
  have hx := B.exec
  have hb := B.bytes
  have hr := B.returns
  have hts := atoms_spec (ws := wsX8_battery) B.pre
  have hown : s.vm.findClass RX8 = some m.cls := findClass_of_methodNamed B.named
  have hlocks := B.notSynchronized
  have hM : zM p s m c cX8_battery _ wsX8_battery RX8 D tc := ⟨hx, hb, hts, hown, hK⟩
  have hinX8 : ∀ w ∈ wsX80, w ∈ wsX8_battery := by decide +kernel
  have hinX6 : ∀ w ∈ wsX60, w ∈ wsX8_battery := by decide +kernel
  have hl := lv_entry ([.ref p0]) (n := 1) (Nat.le_of_ble_eq_true rfl)
  rw [lg_entry_eq]
  generalize (lg_sl ([.ref p0]) ++ List.replicate (1 - (lg_sl ([.ref p0])).length) Slot.unset).toArray = ls at hl ⊢
  have hl : lv_has ls 1 [(0, .ref p0)] := hl
  refine lv_aload_n hx hb dX8_battery_0 rfl (lv_at hl 0 rfl) ?_
  refine z_get (k := 10) (j := 4) hM hI hk0 rfl rfl hinX8 rfl (by decide) (by decide +kernel) (fun _ h9 => h9) dX8_battery_1 (fun v1 hv2 => ?_)
  obtain ⟨hg4, i3, rfl, hr5⟩ := hv2
  refine z_get (k := 8) (j := 1) hM hI hr5 rfl rfl hinX6 rfl (by decide) (by decide +kernel) (fun _ h9 => h9) dX8_battery_4 (fun v6 hv7 => ?_)
  obtain ⟨hg9, i8, rfl⟩ := hv7
  exact W.iret (v := i8) hx hb hr (fun t ht hW => ⟨⟨_, (L, κ, g), rfl, rfl, z_end hK hI ht hW⟩, z_F hI ht⟩) (z_locs hI) dX8_battery_7

set_option maxHeartbeats 4000000 in
set_option maxRecDepth 100000 in
theorem c_X8_purse (l : Launch) (D : va_G) (tc : Nat → ClassId) (z0 : Nat) (L : List Nat) (κ : Nat → Nat) (g : Nat → Nat → Value) (sz : Nat) (p0 : Nat) (hk0 : κ p0 = 10) : Met l yX8_purse wsX8_purse ({ frames := 0, cells := 0, slots := 0, locals := 0 }) (zPc D tc z0 [.ref p0] [] (L, κ, g) sz) (va_Qi (fun (r : Int32) (u : zS) => u = (L, κ, g)) (fun (u : zS) (t : State) => zB D tc (zA [] L sz) [] u t) (zA [] L sz)) 0 0 (zA [] L sz) := by
  refine Met.ofW (cc := cX8_purse) (maxL := 1) (ret := (some .int)) (by decide) rfl ?_
  intro p e s m args below meth c s₁ B hml hv
  obtain ⟨rfl, rfl, hK, hE, hI⟩ := hv.opn
  have hx := B.exec
  have hb := B.bytes
  have hr := B.returns
  have hts := atoms_spec (ws := wsX8_purse) B.pre
  have hown : s.vm.findClass RX8 = some m.cls := findClass_of_methodNamed B.named
  have hlocks := B.notSynchronized
  have hM : zM p s m c cX8_purse _ wsX8_purse RX8 D tc := ⟨hx, hb, hts, hown, hK⟩
  have hinX8 : ∀ w ∈ wsX80, w ∈ wsX8_purse := by decide +kernel
  have hinX6 : ∀ w ∈ wsX60, w ∈ wsX8_purse := by decide +kernel
  have hl := lv_entry ([.ref p0]) (n := 1) (Nat.le_of_ble_eq_true rfl)
  rw [lg_entry_eq]
  generalize (lg_sl ([.ref p0]) ++ List.replicate (1 - (lg_sl ([.ref p0])).length) Slot.unset).toArray = ls at hl ⊢
  have hl : lv_has ls 1 [(0, .ref p0)] := hl
  refine lv_aload_n hx hb dX8_purse_0 rfl (lv_at hl 0 rfl) ?_
  refine z_get (k := 10) (j := 4) hM hI hk0 rfl rfl hinX8 rfl (by decide) (by decide +kernel) (fun _ h9 => h9) dX8_purse_1 (fun v1 hv2 => ?_)
  obtain ⟨hg4, i3, rfl, hr5⟩ := hv2
  refine z_get (k := 8) (j := 2) hM hI hr5 rfl rfl hinX6 rfl (by decide) (by decide +kernel) (fun _ h9 => h9) dX8_purse_4 (fun v6 hv7 => ?_)
  obtain ⟨i8, rfl⟩ := hv7
  exact W.iret (v := i8) hx hb hr (fun t ht hW => ⟨⟨_, (L, κ, g), rfl, rfl, z_end hK hI ht hW⟩, z_F hI ht⟩) (z_locs hI) dX8_purse_7

set_option maxHeartbeats 4000000 in
set_option maxRecDepth 100000 in
theorem c_X8_taken (l : Launch) (D : va_G) (tc : Nat → ClassId) (z0 : Nat) (L : List Nat) (κ : Nat → Nat) (g : Nat → Nat → Value) (sz : Nat) (p0 : Nat) (hk0 : κ p0 = 10) : Met l yX8_taken wsX8_taken ({ frames := 0, cells := 0, slots := 0, locals := 0 }) (zPc D tc z0 [.ref p0] [] (L, κ, g) sz) (va_Qi (fun (r : Int32) (u : zS) => u = (L, κ, g)) (fun (u : zS) (t : State) => zB D tc (zA [] L sz) [] u t) (zA [] L sz)) 0 0 (zA [] L sz) := by
  refine Met.ofW (cc := cX8_taken) (maxL := 1) (ret := (some .int)) (by decide) rfl ?_
  intro p e s m args below meth c s₁ B hml hv
  obtain ⟨rfl, rfl, hK, hE, hI⟩ := hv.opn
  have hx := B.exec
  have hb := B.bytes
  have hr := B.returns
  have hts := atoms_spec (ws := wsX8_taken) B.pre
  have hown : s.vm.findClass RX8 = some m.cls := findClass_of_methodNamed B.named
  have hlocks := B.notSynchronized
  have hM : zM p s m c cX8_taken _ wsX8_taken RX8 D tc := ⟨hx, hb, hts, hown, hK⟩
  have hinX8 : ∀ w ∈ wsX80, w ∈ wsX8_taken := by decide +kernel
  have hinX6 : ∀ w ∈ wsX60, w ∈ wsX8_taken := by decide +kernel
  have hl := lv_entry ([.ref p0]) (n := 1) (Nat.le_of_ble_eq_true rfl)
  rw [lg_entry_eq]
  generalize (lg_sl ([.ref p0]) ++ List.replicate (1 - (lg_sl ([.ref p0])).length) Slot.unset).toArray = ls at hl ⊢
  have hl : lv_has ls 1 [(0, .ref p0)] := hl
  refine lv_aload_n hx hb dX8_taken_0 rfl (lv_at hl 0 rfl) ?_
  refine z_get (k := 10) (j := 4) hM hI hk0 rfl rfl hinX8 rfl (by decide) (by decide +kernel) (fun _ h9 => h9) dX8_taken_1 (fun v1 hv2 => ?_)
  obtain ⟨hg4, i3, rfl, hr5⟩ := hv2
  refine z_get (k := 8) (j := 3) hM hI hr5 rfl rfl hinX6 rfl (by decide) (by decide +kernel) (fun _ h9 => h9) dX8_taken_4 (fun v6 hv7 => ?_)
  obtain ⟨hg9, i8, rfl⟩ := hv7
  refine lv_l2i hx hb dX8_taken_7 rfl ?_
  refine lv_topi (fun v10 e11 => ?_)
  exact W.iret (v := v10) hx hb hr (fun t ht hW => ⟨⟨_, (L, κ, g), rfl, rfl, z_end hK hI ht hW⟩, z_F hI ht⟩) (z_locs hI) dX8_taken_8

set_option maxHeartbeats 4000000 in
set_option maxRecDepth 100000 in
theorem c_X8_owed (l : Launch) (D : va_G) (tc : Nat → ClassId) (z0 : Nat) (L : List Nat) (κ : Nat → Nat) (g : Nat → Nat → Value) (sz : Nat) (p0 : Nat) (hk0 : κ p0 = 10) : Met l yX8_owed wsX8_owed ({ frames := 0, cells := 0, slots := 0, locals := 0 }) (zPc D tc z0 [.ref p0] [] (L, κ, g) sz) (va_Qi (fun (r : Int32) (u : zS) => u = (L, κ, g)) (fun (u : zS) (t : State) => zB D tc (zA [] L sz) [] u t) (zA [] L sz)) 0 0 (zA [] L sz) := by
  refine Met.ofW (cc := cX8_owed) (maxL := 1) (ret := (some .int)) (by decide) rfl ?_
  intro p e s m args below meth c s₁ B hml hv
  obtain ⟨rfl, rfl, hK, hE, hI⟩ := hv.opn
  have hx := B.exec
  have hb := B.bytes
  have hr := B.returns
  have hts := atoms_spec (ws := wsX8_owed) B.pre
  have hown : s.vm.findClass RX8 = some m.cls := findClass_of_methodNamed B.named
  have hlocks := B.notSynchronized
  have hM : zM p s m c cX8_owed _ wsX8_owed RX8 D tc := ⟨hx, hb, hts, hown, hK⟩
  have hinX8 : ∀ w ∈ wsX80, w ∈ wsX8_owed := by decide +kernel
  have hinX6 : ∀ w ∈ wsX60, w ∈ wsX8_owed := by decide +kernel
  have hl := lv_entry ([.ref p0]) (n := 1) (Nat.le_of_ble_eq_true rfl)
  rw [lg_entry_eq]
  generalize (lg_sl ([.ref p0]) ++ List.replicate (1 - (lg_sl ([.ref p0])).length) Slot.unset).toArray = ls at hl ⊢
  have hl : lv_has ls 1 [(0, .ref p0)] := hl
  refine lv_aload_n hx hb dX8_owed_0 rfl (lv_at hl 0 rfl) ?_
  refine z_get (k := 10) (j := 4) hM hI hk0 rfl rfl hinX8 rfl (by decide) (by decide +kernel) (fun _ h9 => h9) dX8_owed_1 (fun v1 hv2 => ?_)
  obtain ⟨hg4, i3, rfl, hr5⟩ := hv2
  refine z_get (k := 8) (j := 4) hM hI hr5 rfl rfl hinX6 rfl (by decide) (by decide +kernel) (fun _ h9 => h9) dX8_owed_4 (fun v6 hv7 => ?_)
  obtain ⟨hg9, i8, rfl⟩ := hv7
  refine lv_l2i hx hb dX8_owed_7 rfl ?_
  refine lv_topi (fun v10 e11 => ?_)
  exact W.iret (v := v10) hx hb hr (fun t ht hW => ⟨⟨_, (L, κ, g), rfl, rfl, z_end hK hI ht hW⟩, z_F hI ht⟩) (z_locs hI) dX8_owed_8

set_option maxHeartbeats 4000000 in
set_option maxRecDepth 100000 in
theorem c_X8_caseDegrees (l : Launch) (D : va_G) (tc : Nat → ClassId) (z0 : Nat) (L : List Nat) (κ : Nat → Nat) (g : Nat → Nat → Value) (sz : Nat) (p0 : Nat) (hk0 : κ p0 = 10) : Met l yX8_caseDegrees wsX8_caseDegrees ({ frames := 1, cells := 0, slots := 0, locals := 20 }) (zPc D tc z0 [.ref p0] [] (L, κ, g) sz) (va_Qi (fun (r : Int32) (u : zS) => u = (L, κ, g)) (fun (u : zS) (t : State) => zB D tc (zA [] L sz) [] u t) (zA [] L sz)) 0 0 (zA [] L sz) := by
  refine Met.ofW (cc := cX8_caseDegrees) (maxL := 1) (ret := (some .int)) (by decide) rfl ?_
  intro p e s m args below meth c s₁ B hml hv
  obtain ⟨rfl, rfl, hK, hE, hI⟩ := hv.opn
  have hx := B.exec
  have hb := B.bytes
  have hr := B.returns
  have hts := atoms_spec (ws := wsX8_caseDegrees) B.pre
  have hown : s.vm.findClass RX8 = some m.cls := findClass_of_methodNamed B.named
  have hlocks := B.notSynchronized
  have hM : zM p s m c cX8_caseDegrees _ wsX8_caseDegrees RX8 D tc := ⟨hx, hb, hts, hown, hK⟩
  have hinX8 : ∀ w ∈ wsX80, w ∈ wsX8_caseDegrees := by decide +kernel
  have hinX2 : ∀ w ∈ wsX20, w ∈ wsX8_caseDegrees := by decide +kernel
  have hinX1 : ∀ w ∈ wsX10, w ∈ wsX8_caseDegrees := by decide +kernel
  have hl := lv_entry ([.ref p0]) (n := 1) (Nat.le_of_ble_eq_true rfl)
  rw [lg_entry_eq]
  generalize (lg_sl ([.ref p0]) ++ List.replicate (1 - (lg_sl ([.ref p0])).length) Slot.unset).toArray = ls at hl ⊢
  have hl : lv_has ls 1 [(0, .ref p0)] := hl
  refine lv_aload_n hx hb dX8_caseDegrees_0 rfl (lv_at hl 0 rfl) ?_
  refine z_get (k := 10) (j := 3) hM hI hk0 rfl rfl hinX8 rfl (by decide) (by decide +kernel) (fun _ h9 => h9) dX8_caseDegrees_1 (fun v1 hv2 => ?_)
  obtain ⟨hg4, i3, rfl, hr5⟩ := hv2
  refine z_get (k := 4) (j := 0) hM hI hr5 rfl rfl hinX2 rfl (by decide) (by decide +kernel) (fun _ h9 => h9) dX8_caseDegrees_4 (fun v6 hv7 => ?_)
  obtain ⟨hg9, i8, rfl, hr10⟩ := hv7
  refine z_get (k := 31) (j := 2) hM hI hr10 rfl rfl hinX1 rfl (by decide) (by decide +kernel) (fun _ h9 => h9) dX8_caseDegrees_7 (fun v11 hv12 => ?_)
  obtain ⟨hg14, i13, rfl, hr15⟩ := hv12
  refine vp_callSl (W.runV (As := []) (rest := []) ⟨hx, hb, hml, hown, hts⟩ (c_X0_lowBits l _ _ _ _ _ _ _ i13 35 55 ⟨rfl, rfl, rfl⟩ hr15) (cwV 0 hts gX8_caseDegrees_X0_lowBits rfl rfl rfl (by decide +kernel) ⟨Nat.le_of_ble_eq_true rfl, Nat.le_of_ble_eq_true rfl⟩) (z_preV hK hE hI [] rfl rfl (z_recv hK hI hr15 rfl rfl)) rfl rfl hl.1 rfl (lv_room (Nat.le_of_ble_eq_true rfl)) dX8_caseDegrees_10 ⟨Nat.le_of_ble_eq_true rfl, Nat.le_of_ble_eq_true rfl⟩) (fun v16 hw17 => ?_)
  refine lv_l2i hx hb dX8_caseDegrees_13 rfl ?_
  refine lv_topi (fun v18 e19 => ?_)
  exact W.iret (v := v18) hx hb hr (fun t ht hW => ⟨⟨_, (L, κ, g), rfl, rfl, z_end hK hI ht hW⟩, z_F hI ht⟩) (z_locs hI) dX8_caseDegrees_14

set_option maxHeartbeats 4000000 in
set_option maxRecDepth 100000 in
theorem c_X8_account (l : Launch) (hnt : l.stackTraces = false) (D : va_G) (tc : Nat → ClassId) (z0 : Nat) (L : List Nat) (κ : Nat → Nat) (g : Nat → Nat → Value) (sz : Nat) (p0 : Nat) (hk0 : κ p0 = 10) (p1 : Int32) : vx_Met l yX8_account wsX8_account ({ frames := 6, cells := 1, slots := 6, locals := 98 }) (zPc D tc z0 [.ref p0, .int p1] [] (L, κ, g) sz) (va_Ql (fun (r : Int64) (u : zS) => u = (L, κ, g)) (fun (u : zS) (t : State) => zB D tc (zA [] L sz) [] u t) (zA [] L sz)) (vx_X (fun u : zS => True) (fun (E : String) (u : zS) (t : State) => (E = "java/lang/IllegalArgumentException" ∧ u = (L, κ, g)) ∧ zB D tc (zA [] L sz) [] u t) (zA [] L sz)) 1 6 (zA [] L sz) := by
  refine vx_ofW (cc := cX8_account) (maxL := 2) (ret := (some .long)) (by decide) rfl ?_
  intro p e s m args below meth c s₁ B hml hxt hv
  obtain ⟨rfl, rfl, hK, hE, hI⟩ := hv.opn
  have hx := B.exec
  have hb := B.bytes
  have hr := B.returns
  have hts := atoms_spec (ws := wsX8_account) B.pre
  have hown : s.vm.findClass RX8 = some m.cls := findClass_of_methodNamed B.named
  have hlocks := B.notSynchronized
  have hout : ∀ (i : Nat), ∀ x ∈ c.exceptionTable.toList, covers x i = false := fun i x hx9 => (hxt x hx9).elim
  have hM : zM p s m c cX8_account _ wsX8_account RX8 D tc := ⟨hx, hb, hts, hown, hK⟩
  have hinX8 : ∀ w ∈ wsX80, w ∈ wsX8_account := by decide +kernel
  have hinX6 : ∀ w ∈ wsX60, w ∈ wsX8_account := by decide +kernel
  have hinX2 : ∀ w ∈ wsX20, w ∈ wsX8_account := by decide +kernel
  have hl := lv_entry ([.ref p0, .int p1]) (n := 2) (Nat.le_of_ble_eq_true rfl)
  rw [lg_entry_eq]
  generalize (lg_sl ([.ref p0, .int p1]) ++ List.replicate (2 - (lg_sl ([.ref p0, .int p1])).length) Slot.unset).toArray = ls at hl ⊢
  have hl : lv_has ls 2 [(0, .ref p0), (1, .int p1)] := hl
  refine lv_iload_n hx hb dX8_account_0 rfl (lv_at hl 1 rfl) ?_
  refine lv_bipush (v := 119) hx hb dX8_account_1 (by decide) ?_
  refine lv_icmp_ne (tgt := 14) hx hb dX8_account_3 (by decide) (fun c1 => ?_) (fun c1 => ?_)
  · skip
    refine lv_iload_n hx hb dX8_account_14 rfl (lv_at hl 1 rfl) ?_
    refine lv_bipush (v := 98) hx hb dX8_account_15 (by decide) ?_
    refine lv_icmp_ne (tgt := 28) hx hb dX8_account_17 (by decide) (fun c2 => ?_) (fun c2 => ?_)
    · skip
      refine lv_iload_n hx hb dX8_account_28 rfl (lv_at hl 1 rfl) ?_
      refine lv_bipush (v := 111) hx hb dX8_account_29 (by decide) ?_
      refine lv_icmp_ne (tgt := 42) hx hb dX8_account_31 (by decide) (fun c3 => ?_) (fun c3 => ?_)
      · skip
        refine lv_iload_n hx hb dX8_account_42 rfl (lv_at hl 1 rfl) ?_
        refine lv_bipush (v := 104) hx hb dX8_account_43 (by decide) ?_
        refine lv_icmp_ne (tgt := 53) hx hb dX8_account_45 (by decide) (fun c4 => ?_) (fun c4 => ?_)
        · skip
          refine lv_iload_n hx hb dX8_account_53 rfl (lv_at hl 1 rfl) ?_
          refine lv_bipush (v := 97) hx hb dX8_account_54 (by decide) ?_
          refine lv_icmp_ne (tgt := 67) hx hb dX8_account_56 (by decide) (fun c5 => ?_) (fun c5 => ?_)
          · skip
            refine lv_iload_n hx hb dX8_account_67 rfl (lv_at hl 1 rfl) ?_
            refine lv_bipush (v := 116) hx hb dX8_account_68 (by decide) ?_
            refine lv_icmp_ne (tgt := 81) hx hb dX8_account_70 (by decide) (fun c6 => ?_) (fun c6 => ?_)
            · skip
              refine z_throwW (ik := 71) (is := 283) (ic := 75) (cls := "java/lang/IllegalArgumentException") (text := "no such account") (L0 := L) ["java/lang/RuntimeException", "java/lang/Exception"] (by decide) hM hE hI hnt (by decide) (by decide +kernel) (by decide +kernel) (by decide +kernel) (by decide +kernel) (by decide +kernel) (by decide +kernel) (hl.1.trans hml.symm) dX8_account_81 dX8_account_84 dX8_account_85 dX8_account_88 dX8_account_91 hout (Nat.le_of_ble_eq_true rfl) (Nat.le_of_ble_eq_true rfl) (Nat.le_of_ble_eq_true rfl) (Nat.le_of_ble_eq_true rfl) hlocks ⟨rfl, rfl⟩ (Nat.le_of_ble_eq_true rfl) (Nat.le_of_ble_eq_true rfl)
            · skip
              refine lv_aload_n hx hb dX8_account_73 rfl (lv_at hl 0 rfl) ?_
              refine z_get (k := 10) (j := 4) hM hI hk0 rfl rfl hinX8 rfl (by decide) (by decide +kernel) (fun _ h9 => h9) dX8_account_74 (fun v7 hv8 => ?_)
              obtain ⟨hg10, i9, rfl, hr11⟩ := hv8
              refine z_get (k := 8) (j := 9) hM hI hr11 rfl rfl hinX6 rfl (by decide) (by decide +kernel) (fun _ h9 => h9) dX8_account_77 (fun v12 hv13 => ?_)
              obtain ⟨hg15, i14, rfl⟩ := hv13
              refine vx_ret ?_
              refine W.widen (k := 1) (n := 6) (Nat.le_of_ble_eq_true rfl) (Nat.le_of_ble_eq_true rfl) ?_
              exact W.lret (v := i14) hx hb hr (fun t ht hW => ⟨⟨_, (L, κ, g), rfl, rfl, z_end hK hI ht hW⟩, z_F hI ht⟩) (z_locs hI) dX8_account_80
          · skip
            refine lv_aload_n hx hb dX8_account_59 rfl (lv_at hl 0 rfl) ?_
            refine z_get (k := 10) (j := 3) hM hI hk0 rfl rfl hinX8 rfl (by decide) (by decide +kernel) (fun _ h9 => h9) dX8_account_60 (fun v16 hv17 => ?_)
            obtain ⟨hg19, i18, rfl, hr20⟩ := hv17
            refine z_get (k := 4) (j := 2) hM hI hr20 rfl rfl hinX2 rfl (by decide) (by decide +kernel) (fun _ h9 => h9) dX8_account_63 (fun v21 hv22 => ?_)
            obtain ⟨hg24, i23, rfl⟩ := hv22
            refine vx_ret ?_
            refine W.widen (k := 1) (n := 6) (Nat.le_of_ble_eq_true rfl) (Nat.le_of_ble_eq_true rfl) ?_
            exact W.lret (v := i23) hx hb hr (fun t ht hW => ⟨⟨_, (L, κ, g), rfl, rfl, z_end hK hI ht hW⟩, z_F hI ht⟩) (z_locs hI) dX8_account_66
        · skip
          refine lv_aload_n hx hb dX8_account_48 rfl (lv_at hl 0 rfl) ?_
          refine z_get (k := 10) (j := 9) hM hI hk0 rfl rfl hinX8 rfl (by decide) (by decide +kernel) (fun _ h9 => h9) dX8_account_49 (fun v25 hv26 => ?_)
          obtain ⟨hg28, i27, rfl⟩ := hv26
          refine vx_ret ?_
          refine W.widen (k := 1) (n := 6) (Nat.le_of_ble_eq_true rfl) (Nat.le_of_ble_eq_true rfl) ?_
          exact W.lret (v := i27) hx hb hr (fun t ht hW => ⟨⟨_, (L, κ, g), rfl, rfl, z_end hK hI ht hW⟩, z_F hI ht⟩) (z_locs hI) dX8_account_52
      · skip
        refine lv_aload_n hx hb dX8_account_34 rfl (lv_at hl 0 rfl) ?_
        refine z_get (k := 10) (j := 4) hM hI hk0 rfl rfl hinX8 rfl (by decide) (by decide +kernel) (fun _ h9 => h9) dX8_account_35 (fun v29 hv30 => ?_)
        obtain ⟨hg32, i31, rfl, hr33⟩ := hv30
        refine z_get (k := 8) (j := 8) hM hI hr33 rfl rfl hinX6 rfl (by decide) (by decide +kernel) (fun _ h9 => h9) dX8_account_38 (fun v34 hv35 => ?_)
        obtain ⟨hg37, i36, rfl⟩ := hv35
        refine vx_ret ?_
        refine W.widen (k := 1) (n := 6) (Nat.le_of_ble_eq_true rfl) (Nat.le_of_ble_eq_true rfl) ?_
        exact W.lret (v := i36) hx hb hr (fun t ht hW => ⟨⟨_, (L, κ, g), rfl, rfl, z_end hK hI ht hW⟩, z_F hI ht⟩) (z_locs hI) dX8_account_41
    · skip
      refine lv_aload_n hx hb dX8_account_20 rfl (lv_at hl 0 rfl) ?_
      refine z_get (k := 10) (j := 4) hM hI hk0 rfl rfl hinX8 rfl (by decide) (by decide +kernel) (fun _ h9 => h9) dX8_account_21 (fun v38 hv39 => ?_)
      obtain ⟨hg41, i40, rfl, hr42⟩ := hv39
      refine z_get (k := 8) (j := 7) hM hI hr42 rfl rfl hinX6 rfl (by decide) (by decide +kernel) (fun _ h9 => h9) dX8_account_24 (fun v43 hv44 => ?_)
      obtain ⟨hg46, i45, rfl⟩ := hv44
      refine vx_ret ?_
      refine W.widen (k := 1) (n := 6) (Nat.le_of_ble_eq_true rfl) (Nat.le_of_ble_eq_true rfl) ?_
      exact W.lret (v := i45) hx hb hr (fun t ht hW => ⟨⟨_, (L, κ, g), rfl, rfl, z_end hK hI ht hW⟩, z_F hI ht⟩) (z_locs hI) dX8_account_27
  · skip
    refine lv_aload_n hx hb dX8_account_6 rfl (lv_at hl 0 rfl) ?_
    refine z_get (k := 10) (j := 4) hM hI hk0 rfl rfl hinX8 rfl (by decide) (by decide +kernel) (fun _ h9 => h9) dX8_account_7 (fun v47 hv48 => ?_)
    obtain ⟨hg50, i49, rfl, hr51⟩ := hv48
    refine z_get (k := 8) (j := 6) hM hI hr51 rfl rfl hinX6 rfl (by decide) (by decide +kernel) (fun _ h9 => h9) dX8_account_10 (fun v52 hv53 => ?_)
    obtain ⟨hg55, i54, rfl⟩ := hv53
    refine vx_ret ?_
    refine W.widen (k := 1) (n := 6) (Nat.le_of_ble_eq_true rfl) (Nat.le_of_ble_eq_true rfl) ?_
    exact W.lret (v := i54) hx hb hr (fun t ht hW => ⟨⟨_, (L, κ, g), rfl, rfl, z_end hK hI ht hW⟩, z_F hI ht⟩) (z_locs hI) dX8_account_13

set_option maxHeartbeats 4000000 in
set_option maxRecDepth 100000 in
theorem c_X8_checksum (l : Launch) (D : va_G) (tc : Nat → ClassId) (z0 : Nat) (L : List Nat) (κ : Nat → Nat) (g : Nat → Nat → Value) (sz : Nat) (p0 : Nat) (hk0 : κ p0 = 10) : Met l yX8_checksum wsX8_checksum ({ frames := 1, cells := 0, slots := 0, locals := 20 }) (zPc D tc z0 [.ref p0] [] (L, κ, g) sz) (va_Ql (fun (r : Int64) (u : zS) => u = (L, κ, g)) (fun (u : zS) (t : State) => zB D tc (zA [] L sz) [] u t) (zA [] L sz)) 0 0 (zA [] L sz) := by
  refine Met.ofW (cc := cX8_checksum) (maxL := 7) (ret := (some .long)) (by decide) rfl ?_
  intro p e s m args below meth c s₁ B hml hv
  obtain ⟨rfl, rfl, hK, hE, hI⟩ := hv.opn
  have hx := B.exec
  have hb := B.bytes
  have hr := B.returns
  have hts := atoms_spec (ws := wsX8_checksum) B.pre
  have hown : s.vm.findClass RX8 = some m.cls := findClass_of_methodNamed B.named
  have hlocks := B.notSynchronized
  have hM : zM p s m c cX8_checksum _ wsX8_checksum RX8 D tc := ⟨hx, hb, hts, hown, hK⟩
  have hinX8 : ∀ w ∈ wsX80, w ∈ wsX8_checksum := by decide +kernel
  have hinX2 : ∀ w ∈ wsX20, w ∈ wsX8_checksum := by decide +kernel
  have hinX1 : ∀ w ∈ wsX10, w ∈ wsX8_checksum := by decide +kernel
  have hinX6 : ∀ w ∈ wsX60, w ∈ wsX8_checksum := by decide +kernel
  have hinX7 : ∀ w ∈ wsX70, w ∈ wsX8_checksum := by decide +kernel
  have hinX3 : ∀ w ∈ wsX30, w ∈ wsX8_checksum := by decide +kernel
  have hl := lv_entry ([.ref p0]) (n := 7) (Nat.le_of_ble_eq_true rfl)
  rw [lg_entry_eq]
  generalize (lg_sl ([.ref p0]) ++ List.replicate (7 - (lg_sl ([.ref p0])).length) Slot.unset).toArray = ls at hl ⊢
  have hl : lv_has ls 7 [(0, .ref p0)] := hl
  refine lv_ldc2 (v := 7) hx hb hown (hts (.constantLong RX8 285 (7)) (by decide +kernel)) dX8_checksum_0 ?_
  refine lv_lstore_n (lv' := [(1, .long 7), (0, .ref p0)]) hx hb dX8_checksum_3 rfl hl (by decide) rfl (fun ls hl => ?_)
  refine lv_aload_n hx hb dX8_checksum_4 rfl (lv_at hl 1 rfl) ?_
  refine z_get (k := 10) (j := 1) hM hI hk0 rfl rfl hinX8 rfl (by decide) (by decide +kernel) (fun _ h9 => h9) dX8_checksum_5 (fun v1 hv2 => ?_)
  obtain ⟨hg4, i3, rfl, hr5⟩ := hv2
  refine lv_astore_n (lv' := [(3, .ref i3), (1, .long 7), (0, .ref p0)]) hx hb dX8_checksum_8 rfl hl (by decide) rfl (fun ls hl => ?_)
  refine lv_aload_n hx hb dX8_checksum_9 rfl (lv_at hl 0 rfl) ?_
  refine z_alen (v := 6) hM hI hr5 rfl rfl rfl (by decide) dX8_checksum_10 ?_
  refine lv_istore (lv' := [(4, .int 6), (3, .ref i3), (1, .long 7), (0, .ref p0)]) hx hb dX8_checksum_11 hl (by decide) rfl (fun ls hl => ?_)
  refine lv_iconst (v := 0) hx hb dX8_checksum_13 (by decide) ?_
  refine lv_istore (lv' := [(5, .int 0), (4, .int 6), (3, .ref i3), (1, .long 7), (0, .ref p0)]) hx hb dX8_checksum_14 hl (by decide) rfl (fun ls hl => ?_)
  have hL16 : ∀ (n : Nat) (H : Heap) (locs : List Loc) (x6 : Int64)  (i7 : Nat) (hi : i7 ≤ 6) (hn : 6 - i7 < n)   (hI : zI D tc (zA [] L s.heap.size) s.heap [] L κ g H locs) (ls : Array Slot) (hl : lv_has ls 7 [(4, .int 6), (3, .ref i3), (1, .long x6), (0, .ref p0), (5, .int ((nI i7)))]), W p l e (headSpec wsX8_checksum ({ frames := 1, cells := 0, slots := 0, locals := 20 })).room s m ([.ref p0] : List Value).toArray below meth c H locs 0 0 (MQ below (va_Ql (fun (r : Int64) (u : zS) => u = (L, κ, g)) (fun (u : zS) (t : State) => zB D tc (zA [] L s.heap.size) [] u t) (zA [] L s.heap.size)) ([.ref p0] : List Value).toArray s 0 0 (zA [] L s.heap.size)) (F0 m 16 ls []) := by
    intro n
    induction n with
    | zero => intro H locs x6 i7 hi hn hI ls hl; exact absurd hn (Nat.not_lt_zero _)
    | succ n ih =>
      intro H locs x6 i7 hi hn hI ls hl
      refine lv_iload hx hb dX8_checksum_16 (lv_at hl 4 rfl) ?_
      refine lv_iload hx hb dX8_checksum_18 (lv_at hl 0 rfl) ?_
      refine lv_icmp_ge (tgt := 71) hx hb dX8_checksum_20 (by decide) (fun c8 => ?_) (fun c8 => ?_)
      · skip
        have hgec8 : 6 ≤ i7 := z_ge (by omega) (by omega) c8
        refine lv_aload_n hx hb dX8_checksum_71 rfl (lv_at hl 3 rfl) ?_
        refine z_get (k := 10) (j := 2) hM hI hk0 rfl rfl hinX8 rfl (by decide) (by decide +kernel) (fun _ h9 => h9) dX8_checksum_72 (fun v9 hv10 => ?_)
        obtain ⟨hg12, i11, rfl, hr13⟩ := hv10
        refine lv_astore_n (lv' := [(3, .ref i11), (4, .int 6), (1, .long x6), (0, .ref p0), (5, .int ((nI i7)))]) hx hb dX8_checksum_75 rfl hl (by decide) rfl (fun ls hl => ?_)
        refine lv_aload_n hx hb dX8_checksum_76 rfl (lv_at hl 0 rfl) ?_
        refine z_alen (v := 8) hM hI hr13 rfl rfl rfl (by decide) dX8_checksum_77 ?_
        refine lv_istore (lv' := [(4, .int 8), (3, .ref i11), (1, .long x6), (0, .ref p0), (5, .int ((nI i7)))]) hx hb dX8_checksum_78 hl (by decide) rfl (fun ls hl => ?_)
        refine lv_iconst (v := 0) hx hb dX8_checksum_80 (by decide) ?_
        refine lv_istore (lv' := [(5, .int 0), (4, .int 8), (3, .ref i11), (1, .long x6), (0, .ref p0)]) hx hb dX8_checksum_81 hl (by decide) rfl (fun ls hl => ?_)
        have hL83 : ∀ (n : Nat) (H : Heap) (locs : List Loc) (x14 : Int64)  (i15 : Nat) (hi : i15 ≤ 8) (hn : 8 - i15 < n)   (hI : zI D tc (zA [] L s.heap.size) s.heap [] L κ g H locs) (ls : Array Slot) (hl : lv_has ls 7 [(4, .int 8), (3, .ref i11), (1, .long x14), (0, .ref p0), (5, .int ((nI i15)))]), W p l e (headSpec wsX8_checksum ({ frames := 1, cells := 0, slots := 0, locals := 20 })).room s m ([.ref p0] : List Value).toArray below meth c H locs 0 0 (MQ below (va_Ql (fun (r : Int64) (u : zS) => u = (L, κ, g)) (fun (u : zS) (t : State) => zB D tc (zA [] L s.heap.size) [] u t) (zA [] L s.heap.size)) ([.ref p0] : List Value).toArray s 0 0 (zA [] L s.heap.size)) (F0 m 83 ls []) := by
          intro n
          induction n with
          | zero => intro H locs x14 i15 hi hn hI ls hl; exact absurd hn (Nat.not_lt_zero _)
          | succ n ih =>
            intro H locs x14 i15 hi hn hI ls hl
            refine lv_iload hx hb dX8_checksum_83 (lv_at hl 4 rfl) ?_
            refine lv_iload hx hb dX8_checksum_85 (lv_at hl 0 rfl) ?_
            refine lv_icmp_ge (tgt := 120) hx hb dX8_checksum_87 (by decide) (fun c16 => ?_) (fun c16 => ?_)
            · skip
              have hgec16 : 8 ≤ i15 := z_ge (by omega) (by omega) c16
              refine lv_ldc2 (v := 31) hx hb hown (hts (.constantLong RX8 287 (31)) (by decide +kernel)) dX8_checksum_120 ?_
              refine lv_lload_n hx hb dX8_checksum_123 rfl (lv_at hl 2 rfl) ?_
              refine lv_lmul hx hb dX8_checksum_124 ?_
              refine lv_topl (fun v17 e18 => ?_)
              refine lv_aload_n hx hb dX8_checksum_125 rfl (lv_at hl 3 rfl) ?_
              refine z_get (k := 10) (j := 3) hM hI hk0 rfl rfl hinX8 rfl (by decide) (by decide +kernel) (fun _ h9 => h9) dX8_checksum_126 (fun v19 hv20 => ?_)
              obtain ⟨hg22, i21, rfl, hr23⟩ := hv20
              refine z_get (k := 4) (j := 0) hM hI hr23 rfl rfl hinX2 rfl (by decide) (by decide +kernel) (fun _ h9 => h9) dX8_checksum_129 (fun v24 hv25 => ?_)
              obtain ⟨hg27, i26, rfl, hr28⟩ := hv25
              refine z_get (k := 31) (j := 1) hM hI hr28 rfl rfl hinX1 rfl (by decide) (by decide +kernel) (fun _ h9 => h9) dX8_checksum_132 (fun v29 hv30 => ?_)
              obtain ⟨hg32, i31, rfl, hr33⟩ := hv30
              refine vp_callSl (W.runV (As := []) (rest := [.long v17]) ⟨hx, hb, hml, hown, hts⟩ (c_X0_lowBits l _ _ _ _ _ _ _ i31 34 54 ⟨rfl, rfl, rfl⟩ hr33) (cwV 0 hts gX8_checksum_X0_lowBits rfl rfl rfl (by decide +kernel) ⟨Nat.le_of_ble_eq_true rfl, Nat.le_of_ble_eq_true rfl⟩) (z_preV hK hE hI [] rfl rfl (z_recv hK hI hr33 rfl rfl)) rfl rfl hl.1 rfl (lv_room (Nat.le_of_ble_eq_true rfl)) dX8_checksum_135 ⟨Nat.le_of_ble_eq_true rfl, Nat.le_of_ble_eq_true rfl⟩) (fun v34 hw35 => ?_)
              refine lv_ladd hx hb dX8_checksum_138 ?_
              refine lv_topl (fun v36 e37 => ?_)
              refine lv_lstore_n (lv' := [(1, .long v36), (4, .int 8), (3, .ref i11), (0, .ref p0), (5, .int ((nI i15)))]) hx hb dX8_checksum_139 rfl hl (by decide) rfl (fun ls hl => ?_)
              refine lv_ldc2 (v := 31) hx hb hown (hts (.constantLong RX8 287 (31)) (by decide +kernel)) dX8_checksum_140 ?_
              refine lv_lload_n hx hb dX8_checksum_143 rfl (lv_at hl 0 rfl) ?_
              refine lv_lmul hx hb dX8_checksum_144 ?_
              refine lv_topl (fun v38 e39 => ?_)
              refine lv_aload_n hx hb dX8_checksum_145 rfl (lv_at hl 3 rfl) ?_
              refine z_get (k := 10) (j := 4) hM hI hk0 rfl rfl hinX8 rfl (by decide) (by decide +kernel) (fun _ h9 => h9) dX8_checksum_146 (fun v40 hv41 => ?_)
              obtain ⟨hg43, i42, rfl, hr44⟩ := hv41
              refine z_get (k := 8) (j := 1) hM hI hr44 rfl rfl hinX6 rfl (by decide) (by decide +kernel) (fun _ h9 => h9) dX8_checksum_149 (fun v45 hv46 => ?_)
              obtain ⟨hg48, i47, rfl⟩ := hv46
              refine lv_i2l hx hb dX8_checksum_152 rfl ?_
              refine lv_topl (fun v49 e50 => ?_)
              refine lv_ladd hx hb dX8_checksum_153 ?_
              refine lv_topl (fun v51 e52 => ?_)
              exact W.lret (v := v51) hx hb hr (fun t ht hW => ⟨⟨_, (L, κ, g), rfl, rfl, z_end hK hI ht hW⟩, z_F hI ht⟩) (z_locs hI) dX8_checksum_154
            · skip
              have hltc16 : i15 < 8 := z_lt (by omega) c16
              refine lv_aload_n hx hb dX8_checksum_90 rfl (lv_at hl 1 rfl) ?_
              refine lv_iload hx hb dX8_checksum_91 (lv_at hl 4 rfl) ?_
              refine z_aald hM hI hr13 rfl rfl rfl (vp_in_nI (by omega) (by omega)) dX8_checksum_93 (fun x53 hv54 => ?_)
              have hL114 : ∀ (H : Heap) (locs : List Loc) (x58 : Int64)    (hI : zI D tc (zA [] L s.heap.size) s.heap [] L κ g H locs) (ls : Array Slot) (hl : lv_has ls 7 [(4, .int 8), (3, .ref i11), (1, .long x58), (0, .ref p0), (5, .int ((nI i15)))]), W p l e (headSpec wsX8_checksum ({ frames := 1, cells := 0, slots := 0, locals := 20 })).room s m ([.ref p0] : List Value).toArray below meth c H locs 0 0 (MQ below (va_Ql (fun (r : Int64) (u : zS) => u = (L, κ, g)) (fun (u : zS) (t : State) => zB D tc (zA [] L s.heap.size) [] u t) (zA [] L s.heap.size)) ([.ref p0] : List Value).toArray s 0 0 (zA [] L s.heap.size)) (F0 m 114 ls []) := by
                intro H locs x58 hI ls hl
                refine lv_iinc (v := nI (i15 + 1)) (lv' := [(5, .int ((nI (i15 + 1)))), (4, .int 8), (3, .ref i11), (1, .long x58), (0, .ref p0)]) hx hb dX8_checksum_114 hl (k := 4) rfl (z_inc i15) (by decide) rfl (fun ls hl => ?_)
                refine lv_goto (tgt := 83) hx hb dX8_checksum_117 (by decide) ?_
                exact ih _ _ x58 (i15 + 1) (by first | omega | (simp only [] at *; omega)) (by first | omega | (simp only [] at *; omega)) hI ls (lv_sub hl [1, 2, 3, 4, 0] rfl)
              obtain ⟨hghv54, hn57 | ⟨r55, hn57, hr56⟩⟩ := hv54
              · rw [hn57]
                rw [hn57] at hghv54
                refine lv_astoreN (lv' := [(6, .null), (4, .int 8), (3, .ref i11), (1, .long x14), (0, .ref p0), (5, .int ((nI i15)))]) hx hb dX8_checksum_94 hl (by decide) rfl (fun ls hl => ?_)
                refine lv_aloadN hx hb dX8_checksum_96 (lv_at hl 0 rfl) ?_
                refine lv_ifnullN (tgt := 114) hx hb dX8_checksum_98 (by decide) ?_
                exact hL114 _ _ x14 hI ls (lv_sub hl [1, 2, 3, 4, 5] rfl)
              · rw [hn57]
                rw [hn57] at hghv54
                refine lv_astore (lv' := [(6, .ref r55), (4, .int 8), (3, .ref i11), (1, .long x14), (0, .ref p0), (5, .int ((nI i15)))]) hx hb dX8_checksum_94 hl (by decide) rfl (fun ls hl => ?_)
                refine lv_aload hx hb dX8_checksum_96 (lv_at hl 0 rfl) ?_
                refine lv_ifnull hx hb dX8_checksum_98 ?_
                refine lv_ldc2 (v := 31) hx hb hown (hts (.constantLong RX8 287 (31)) (by decide +kernel)) dX8_checksum_101 ?_
                refine lv_lload_n hx hb dX8_checksum_104 rfl (lv_at hl 3 rfl) ?_
                refine lv_lmul hx hb dX8_checksum_105 ?_
                refine lv_topl (fun v59 e60 => ?_)
                refine lv_aload hx hb dX8_checksum_106 (lv_at hl 0 rfl) ?_
                refine z_get (k := 9) (j := 2) hM hI hr56 rfl rfl hinX7 rfl (by decide) (by decide +kernel) (fun _ h9 => h9) dX8_checksum_108 (fun v61 hv62 => ?_)
                obtain ⟨i63, rfl⟩ := hv62
                refine lv_i2l hx hb dX8_checksum_111 rfl ?_
                refine lv_topl (fun v64 e65 => ?_)
                refine lv_ladd hx hb dX8_checksum_112 ?_
                refine lv_topl (fun v66 e67 => ?_)
                refine lv_lstore_n (lv' := [(1, .long v66), (6, .ref r55), (4, .int 8), (3, .ref i11), (0, .ref p0), (5, .int ((nI i15)))]) hx hb dX8_checksum_113 rfl hl (by decide) rfl (fun ls hl => ?_)
                exact hL114 _ _ v66 hI ls (lv_sub hl [2, 3, 0, 4, 5] rfl)
        exact hL83 (8 + 1) _ _ x6 0 (by first | omega | (simp only [] at *; omega)) (by first | omega | (simp only [] at *; omega)) hI ls (lv_sub hl [1, 2, 3, 4, 0] rfl)
      · skip
        have hltc8 : i7 < 6 := z_lt (by omega) c8
        refine lv_aload_n hx hb dX8_checksum_23 rfl (lv_at hl 1 rfl) ?_
        refine lv_iload hx hb dX8_checksum_24 (lv_at hl 4 rfl) ?_
        refine z_aald hM hI hr5 rfl rfl rfl (vp_in_nI (by omega) (by omega)) dX8_checksum_26 (fun x68 hv69 => ?_)
        have hL65 : ∀ (H : Heap) (locs : List Loc) (x73 : Int64)    (hI : zI D tc (zA [] L s.heap.size) s.heap [] L κ g H locs) (ls : Array Slot) (hl : lv_has ls 7 [(4, .int 6), (3, .ref i3), (1, .long x73), (0, .ref p0), (5, .int ((nI i7)))]), W p l e (headSpec wsX8_checksum ({ frames := 1, cells := 0, slots := 0, locals := 20 })).room s m ([.ref p0] : List Value).toArray below meth c H locs 0 0 (MQ below (va_Ql (fun (r : Int64) (u : zS) => u = (L, κ, g)) (fun (u : zS) (t : State) => zB D tc (zA [] L s.heap.size) [] u t) (zA [] L s.heap.size)) ([.ref p0] : List Value).toArray s 0 0 (zA [] L s.heap.size)) (F0 m 65 ls []) := by
          intro H locs x73 hI ls hl
          refine lv_iinc (v := nI (i7 + 1)) (lv' := [(5, .int ((nI (i7 + 1)))), (4, .int 6), (3, .ref i3), (1, .long x73), (0, .ref p0)]) hx hb dX8_checksum_65 hl (k := 4) rfl (z_inc i7) (by decide) rfl (fun ls hl => ?_)
          refine lv_goto (tgt := 16) hx hb dX8_checksum_68 (by decide) ?_
          exact ih _ _ x73 (i7 + 1) (by first | omega | (simp only [] at *; omega)) (by first | omega | (simp only [] at *; omega)) hI ls (lv_sub hl [1, 2, 3, 4, 0] rfl)
        obtain ⟨hghv69, hn72 | ⟨r70, hn72, hr71⟩⟩ := hv69
        · rw [hn72]
          rw [hn72] at hghv69
          refine lv_astoreN (lv' := [(6, .null), (4, .int 6), (3, .ref i3), (1, .long x6), (0, .ref p0), (5, .int ((nI i7)))]) hx hb dX8_checksum_27 hl (by decide) rfl (fun ls hl => ?_)
          refine lv_aloadN hx hb dX8_checksum_29 (lv_at hl 0 rfl) ?_
          refine lv_ifnullN (tgt := 65) hx hb dX8_checksum_31 (by decide) ?_
          exact hL65 _ _ x6 hI ls (lv_sub hl [1, 2, 3, 4, 5] rfl)
        · rw [hn72]
          rw [hn72] at hghv69
          refine lv_astore (lv' := [(6, .ref r70), (4, .int 6), (3, .ref i3), (1, .long x6), (0, .ref p0), (5, .int ((nI i7)))]) hx hb dX8_checksum_27 hl (by decide) rfl (fun ls hl => ?_)
          refine lv_aload hx hb dX8_checksum_29 (lv_at hl 0 rfl) ?_
          refine lv_ifnull hx hb dX8_checksum_31 ?_
          refine lv_ldc2 (v := 31) hx hb hown (hts (.constantLong RX8 287 (31)) (by decide +kernel)) dX8_checksum_34 ?_
          refine lv_lload_n hx hb dX8_checksum_37 rfl (lv_at hl 3 rfl) ?_
          refine lv_lmul hx hb dX8_checksum_38 ?_
          refine lv_topl (fun v74 e75 => ?_)
          refine lv_aload hx hb dX8_checksum_39 (lv_at hl 0 rfl) ?_
          refine z_get (k := 5) (j := 7) hM hI hr71 rfl rfl hinX3 rfl (by decide) (by decide +kernel) (fun _ h9 => h9) dX8_checksum_41 (fun v76 hv77 => ?_)
          obtain ⟨i78, rfl, hb79, hb80⟩ := hv77
          have hb80 : i78.toInt < 8 := hb80
          refine lv_i2l hx hb dX8_checksum_44 rfl ?_
          refine lv_topl (fun v81 e82 => ?_)
          refine lv_ladd hx hb dX8_checksum_45 ?_
          refine lv_topl (fun v83 e84 => ?_)
          refine lv_lstore_n (lv' := [(1, .long v83), (6, .ref r70), (4, .int 6), (3, .ref i3), (0, .ref p0), (5, .int ((nI i7)))]) hx hb dX8_checksum_46 rfl hl (by decide) rfl (fun ls hl => ?_)
          refine lv_ldc2 (v := 31) hx hb hown (hts (.constantLong RX8 287 (31)) (by decide +kernel)) dX8_checksum_47 ?_
          refine lv_lload_n hx hb dX8_checksum_50 rfl (lv_at hl 0 rfl) ?_
          refine lv_lmul hx hb dX8_checksum_51 ?_
          refine lv_topl (fun v85 e86 => ?_)
          refine lv_aload hx hb dX8_checksum_52 (lv_at hl 1 rfl) ?_
          refine z_get (k := 5) (j := 15) hM hI hr71 rfl rfl hinX3 rfl (by decide) (by decide +kernel) (fun _ h9 => h9) dX8_checksum_54 (fun v87 hv88 => ?_)
          obtain ⟨hg90, i89, rfl, hr91⟩ := hv88
          refine z_get (k := 3) (j := 1) hM hI hr91 rfl rfl hinX1 rfl (by decide) (by decide +kernel) (fun _ h9 => h9) dX8_checksum_57 (fun v92 hv93 => ?_)
          obtain ⟨hg95, i94, rfl, hr96⟩ := hv93
          refine vp_callSl (W.runV (As := []) (rest := [.long v85]) ⟨hx, hb, hml, hown, hts⟩ (c_X0_lowBits l _ _ _ _ _ _ _ i94 32 52 ⟨rfl, rfl, rfl⟩ hr96) (cwV 0 hts gX8_checksum_X0_lowBits rfl rfl rfl (by decide +kernel) ⟨Nat.le_of_ble_eq_true rfl, Nat.le_of_ble_eq_true rfl⟩) (z_preV hK hE hI [] rfl rfl (z_recv hK hI hr96 rfl rfl)) rfl rfl hl.1 rfl (lv_room (Nat.le_of_ble_eq_true rfl)) dX8_checksum_60 ⟨Nat.le_of_ble_eq_true rfl, Nat.le_of_ble_eq_true rfl⟩) (fun v97 hw98 => ?_)
          refine lv_ladd hx hb dX8_checksum_63 ?_
          refine lv_topl (fun v99 e100 => ?_)
          refine lv_lstore_n (lv' := [(1, .long v99), (6, .ref r70), (4, .int 6), (3, .ref i3), (0, .ref p0), (5, .int ((nI i7)))]) hx hb dX8_checksum_64 rfl hl (by decide) rfl (fun ls hl => ?_)
          exact hL65 _ _ v99 hI ls (lv_sub hl [2, 3, 0, 4, 5] rfl)
  exact hL16 (6 + 1) _ _ 7 0 (by first | omega | (simp only [] at *; omega)) (by first | omega | (simp only [] at *; omega)) hI ls (lv_sub hl [1, 2, 3, 4, 0] rfl)

set_option maxHeartbeats 4000000 in
set_option maxRecDepth 100000 in
theorem c_X8_holds (l : Launch) (D : va_G) (tc : Nat → ClassId) (z0 : Nat) (L : List Nat) (κ : Nat → Nat) (g : Nat → Nat → Value) (sz : Nat) (p0 : Nat) (hk0 : κ p0 = 10) : Met l yX8_holds wsX8_holds ({ frames := 0, cells := 0, slots := 0, locals := 0 }) (zPc D tc z0 [.ref p0] [] (L, κ, g) sz) (va_Qi (fun (r : Int32) (u : zS) => u = (L, κ, g)) (fun (u : zS) (t : State) => zB D tc (zA [] L sz) [] u t) (zA [] L sz)) 0 0 (zA [] L sz) := by
  refine Met.ofW (cc := cX8_holds) (maxL := 1) (ret := (some .int)) (by decide) rfl ?_
  intro p e s m args below meth c s₁ B hml hv
  obtain ⟨rfl, rfl, hK, hE, hI⟩ := hv.opn
  have hx := B.exec
  have hb := B.bytes
  have hr := B.returns
  have hts := atoms_spec (ws := wsX8_holds) B.pre
  have hown : s.vm.findClass RX8 = some m.cls := findClass_of_methodNamed B.named
  have hlocks := B.notSynchronized
  have hM : zM p s m c cX8_holds _ wsX8_holds RX8 D tc := ⟨hx, hb, hts, hown, hK⟩
  have hinX8 : ∀ w ∈ wsX80, w ∈ wsX8_holds := by decide +kernel
  have hinX5 : ∀ w ∈ wsX50, w ∈ wsX8_holds := by decide +kernel
  have hl := lv_entry ([.ref p0]) (n := 1) (Nat.le_of_ble_eq_true rfl)
  rw [lg_entry_eq]
  generalize (lg_sl ([.ref p0]) ++ List.replicate (1 - (lg_sl ([.ref p0])).length) Slot.unset).toArray = ls at hl ⊢
  have hl : lv_has ls 1 [(0, .ref p0)] := hl
  refine lv_aload_n hx hb dX8_holds_0 rfl (lv_at hl 0 rfl) ?_
  refine z_get (k := 10) (j := 5) hM hI hk0 rfl rfl hinX8 rfl (by decide) (by decide +kernel) (fun _ h9 => h9) dX8_holds_1 (fun v1 hv2 => ?_)
  obtain ⟨hg4, i3, rfl, hr5⟩ := hv2
  refine z_get (k := 7) (j := 2) hM hI hr5 rfl rfl hinX5 rfl (by decide) (by decide +kernel) (fun _ h9 => h9) dX8_holds_4 (fun v6 hv7 => ?_)
  obtain ⟨i8, rfl⟩ := hv7
  exact W.iret (v := i8) hx hb hr (fun t ht hW => ⟨⟨_, (L, κ, g), rfl, rfl, z_end hK hI ht hW⟩, z_F hI ht⟩) (z_locs hI) dX8_holds_7

set_option maxHeartbeats 4000000 in
set_option maxRecDepth 100000 in
theorem c_X8_why (l : Launch) (D : va_G) (tc : Nat → ClassId) (z0 : Nat) (L : List Nat) (κ : Nat → Nat) (g : Nat → Nat → Value) (sz : Nat) (p0 : Nat) (hk0 : κ p0 = 10) : Met l yX8_why wsX8_why ({ frames := 0, cells := 0, slots := 0, locals := 0 }) (zPc D tc z0 [.ref p0] [] (L, κ, g) sz) (va_Qi (fun (r : Int32) (u : zS) => u = (L, κ, g)) (fun (u : zS) (t : State) => zB D tc (zA [] L sz) [] u t) (zA [] L sz)) 0 0 (zA [] L sz) := by
  refine Met.ofW (cc := cX8_why) (maxL := 1) (ret := (some .char)) (by decide) rfl ?_
  intro p e s m args below meth c s₁ B hml hv
  obtain ⟨rfl, rfl, hK, hE, hI⟩ := hv.opn
  have hx := B.exec
  have hb := B.bytes
  have hr := B.returns
  have hts := atoms_spec (ws := wsX8_why) B.pre
  have hown : s.vm.findClass RX8 = some m.cls := findClass_of_methodNamed B.named
  have hlocks := B.notSynchronized
  have hM : zM p s m c cX8_why _ wsX8_why RX8 D tc := ⟨hx, hb, hts, hown, hK⟩
  have hinX8 : ∀ w ∈ wsX80, w ∈ wsX8_why := by decide +kernel
  have hinX5 : ∀ w ∈ wsX50, w ∈ wsX8_why := by decide +kernel
  have hl := lv_entry ([.ref p0]) (n := 1) (Nat.le_of_ble_eq_true rfl)
  rw [lg_entry_eq]
  generalize (lg_sl ([.ref p0]) ++ List.replicate (1 - (lg_sl ([.ref p0])).length) Slot.unset).toArray = ls at hl ⊢
  have hl : lv_has ls 1 [(0, .ref p0)] := hl
  refine lv_aload_n hx hb dX8_why_0 rfl (lv_at hl 0 rfl) ?_
  refine z_get (k := 10) (j := 5) hM hI hk0 rfl rfl hinX8 rfl (by decide) (by decide +kernel) (fun _ h9 => h9) dX8_why_1 (fun v1 hv2 => ?_)
  obtain ⟨hg4, i3, rfl, hr5⟩ := hv2
  refine z_get (k := 7) (j := 6) hM hI hr5 rfl rfl hinX5 rfl (by decide) (by decide +kernel) (fun _ h9 => h9) dX8_why_4 (fun v6 hv7 => ?_)
  obtain ⟨i8, rfl, hf9⟩ := hv7
  exact W.zret (v := i8) hx hb hr (z_cn (by assumption)) (fun t ht hW => ⟨⟨_, (L, κ, g), rfl, rfl, z_end hK hI ht hW⟩, z_F hI ht⟩) (z_locs hI) dX8_why_7

set_option maxHeartbeats 4000000 in
set_option maxRecDepth 100000 in
theorem c_X8_drop (l : Launch) (D : va_G) (tc : Nat → ClassId) (z0 : Nat) (L : List Nat) (κ : Nat → Nat) (g : Nat → Nat → Value) (sz : Nat) (p0 : Nat) (hk0 : κ p0 = 10) : Met l yX8_drop wsX8_drop ({ frames := 1, cells := 0, slots := 0, locals := 21 }) (zPc D tc z0 [.ref p0] [] (L, κ, g) sz) (va_Qi (fun (r : Int32) (u : zS) => u = (L, κ, g)) (fun (u : zS) (t : State) => zB D tc (zA [] L sz) [] u t) (zA [] L sz)) 0 0 (zA [] L sz) := by
  refine Met.ofW (cc := cX8_drop) (maxL := 1) (ret := (some .boolean)) (by decide) rfl ?_
  intro p e s m args below meth c s₁ B hml hv
  obtain ⟨rfl, rfl, hK, hE, hI⟩ := hv.opn
  have hx := B.exec
  have hb := B.bytes
  have hr := B.returns
  have hts := atoms_spec (ws := wsX8_drop) B.pre
  have hown : s.vm.findClass RX8 = some m.cls := findClass_of_methodNamed B.named
  have hlocks := B.notSynchronized
  have hM : zM p s m c cX8_drop _ wsX8_drop RX8 D tc := ⟨hx, hb, hts, hown, hK⟩
  have hinX8 : ∀ w ∈ wsX80, w ∈ wsX8_drop := by decide +kernel
  have hl := lv_entry ([.ref p0]) (n := 1) (Nat.le_of_ble_eq_true rfl)
  rw [lg_entry_eq]
  generalize (lg_sl ([.ref p0]) ++ List.replicate (1 - (lg_sl ([.ref p0])).length) Slot.unset).toArray = ls at hl ⊢
  have hl : lv_has ls 1 [(0, .ref p0)] := hl
  refine lv_aload_n hx hb dX8_drop_0 rfl (lv_at hl 0 rfl) ?_
  refine z_get (k := 10) (j := 5) hM hI hk0 rfl rfl hinX8 rfl (by decide) (by decide +kernel) (fun _ h9 => h9) dX8_drop_1 (fun v1 hv2 => ?_)
  obtain ⟨hg4, i3, rfl, hr5⟩ := hv2
  refine z_ci hI (va_runV (As := []) (rest := []) ⟨hx, hb, hml, hown, hts⟩ (c_X5_dropBoth l _ _ _ _ _ _ _ i3 hr5) (cwV 0 hts gX8_drop_X5_dropBoth rfl rfl rfl (by decide +kernel) ⟨Nat.le_of_ble_eq_true rfl, Nat.le_of_ble_eq_true rfl⟩) (z_preV hK hE hI [] rfl rfl (z_recv hK hI hr5 rfl rfl)) rfl rfl hl.1 rfl (lv_room (Nat.le_of_ble_eq_true rfl)) dX8_drop_4 ⟨Nat.le_of_ble_eq_true rfl, Nat.le_of_ble_eq_true rfl⟩) (fun v6 u H locs hw7 hI => ?_)
  obtain ⟨hd9, rfl⟩ := hw7
  exact W.zret (v := v6) hx hb hr (z_bn (by assumption)) (fun t ht hW => ⟨⟨_, (L, κ, g), rfl, rfl, z_end hK hI ht hW⟩, z_F hI ht⟩) (z_locs hI) dX8_drop_7

set_option maxHeartbeats 4000000 in
set_option maxRecDepth 100000 in
theorem c_X8_killFan (l : Launch) (D : va_G) (tc : Nat → ClassId) (z0 : Nat) (L : List Nat) (κ : Nat → Nat) (g : Nat → Nat → Value) (sz : Nat) (p0 : Nat) (hk0 : κ p0 = 10) (p1 : Int32) (hz1 : p1 = 0 ∨ p1 = 1) : Met l yX8_killFan wsX8_killFan ({ frames := 0, cells := 0, slots := 0, locals := 0 }) (zPc D tc z0 [.ref p0, .int p1] [] (L, κ, g) sz) (va_Qi (fun (r : Int32) (u : zS) => u = (L, κ, g)) (fun (u : zS) (t : State) => zB D tc (zA [] L sz) [] u t) (zA [] L sz)) 0 0 (zA [] L sz) := by
  refine Met.ofW (cc := cX8_killFan) (maxL := 3) (ret := (some .boolean)) (by decide) rfl ?_
  intro p e s m args below meth c s₁ B hml hv
  obtain ⟨rfl, rfl, hK, hE, hI⟩ := hv.opn
  have hx := B.exec
  have hb := B.bytes
  have hr := B.returns
  have hts := atoms_spec (ws := wsX8_killFan) B.pre
  have hown : s.vm.findClass RX8 = some m.cls := findClass_of_methodNamed B.named
  have hlocks := B.notSynchronized
  have hM : zM p s m c cX8_killFan _ wsX8_killFan RX8 D tc := ⟨hx, hb, hts, hown, hK⟩
  have hinX8 : ∀ w ∈ wsX80, w ∈ wsX8_killFan := by decide +kernel
  have hinX2 : ∀ w ∈ wsX20, w ∈ wsX8_killFan := by decide +kernel
  have hl := lv_entry ([.ref p0, .int p1]) (n := 3) (Nat.le_of_ble_eq_true rfl)
  rw [lg_entry_eq]
  generalize (lg_sl ([.ref p0, .int p1]) ++ List.replicate (3 - (lg_sl ([.ref p0, .int p1])).length) Slot.unset).toArray = ls at hl ⊢
  have hl : lv_has ls 3 [(0, .ref p0), (1, .int p1)] := hl
  refine lv_aload_n hx hb dX8_killFan_0 rfl (lv_at hl 0 rfl) ?_
  refine z_get (k := 10) (j := 3) hM hI hk0 rfl rfl hinX8 rfl (by decide) (by decide +kernel) (fun _ h9 => h9) dX8_killFan_1 (fun v1 hv2 => ?_)
  obtain ⟨hg4, i3, rfl, hr5⟩ := hv2
  refine z_get (k := 4) (j := 4) hM hI hr5 rfl rfl hinX2 rfl (by decide) (by decide +kernel) (fun _ h9 => h9) dX8_killFan_4 (fun v6 hv7 => ?_)
  obtain ⟨i8, rfl, hz9⟩ := zv_b hv7
  refine lv_istore_n (lv' := [(2, .int i8), (0, .ref p0), (1, .int p1)]) hx hb dX8_killFan_7 rfl hl (by decide) rfl (fun ls hl => ?_)
  refine lv_aload_n hx hb dX8_killFan_8 rfl (lv_at hl 1 rfl) ?_
  refine z_get (k := 10) (j := 3) hM hI hk0 rfl rfl hinX8 rfl (by decide) (by decide +kernel) (fun _ h9 => h9) dX8_killFan_9 (fun v10 hv11 => ?_)
  obtain ⟨hg13, i12, rfl, hr14⟩ := hv11
  refine lv_iload_n hx hb dX8_killFan_12 rfl (lv_at hl 2 rfl) ?_
  refine z_put (g' := g) (k := 4) (j := 4) hM hI hr14 rfl rfl hinX2 tyX2 tyX2_ok nmX2 rfl (by decide) (by decide +kernel) (fun _ h9 => h9) rfl rfl (z_bn (by assumption)) (z_bf (by assumption)) (z_bv (by assumption)) (fun _ _ _ => rfl) dX8_killFan_13 (fun H locs hI => ?_)
  refine lv_iload_n hx hb dX8_killFan_16 rfl (lv_at hl 2 rfl) ?_
  refine lv_if_eq (tgt := 28) hx hb dX8_killFan_17 (by decide) (fun c15 => ?_) (fun c15 => ?_)
  · skip
    refine lv_iload_n hx hb dX8_killFan_28 rfl (lv_at hl 0 rfl) ?_
    exact W.zret (v := i8) hx hb hr (z_bn (by assumption)) (fun t ht hW => ⟨⟨_, (L, κ, g), rfl, rfl, z_end hK hI ht hW⟩, z_F hI ht⟩) (z_locs hI) dX8_killFan_29
  · skip
    refine lv_aload_n hx hb dX8_killFan_20 rfl (lv_at hl 1 rfl) ?_
    refine z_get (k := 10) (j := 3) hM hI hk0 rfl rfl hinX8 rfl (by decide) (by decide +kernel) (fun _ h9 => h9) dX8_killFan_21 (fun v16 hv17 => ?_)
    obtain ⟨hg19, i18, rfl, hr20⟩ := hv17
    refine lv_iconst (v := 0) hx hb dX8_killFan_24 (by decide) ?_
    refine z_put (g' := g) (k := 4) (j := 3) hM hI hr20 rfl rfl hinX2 tyX2 tyX2_ok nmX2 rfl (by decide) (by decide +kernel) (fun _ h9 => h9) rfl rfl rfl rfl ⟨_, rfl, by decide, by decide⟩ (fun _ _ _ => rfl) dX8_killFan_25 (fun H locs hI => ?_)
    refine lv_iload_n hx hb dX8_killFan_28 rfl (lv_at hl 0 rfl) ?_
    exact W.zret (v := i8) hx hb hr (z_bn (by assumption)) (fun t ht hW => ⟨⟨_, (L, κ, g), rfl, rfl, z_end hK hI ht hW⟩, z_F hI ht⟩) (z_locs hI) dX8_killFan_29

set_option maxHeartbeats 4000000 in
set_option maxRecDepth 100000 in
theorem c_X8_lose (l : Launch) (hnt : l.stackTraces = false) (D : va_G) (tc : Nat → ClassId) (z0 : Nat) (L : List Nat) (κ : Nat → Nat) (g : Nat → Nat → Value) (sz : Nat) (p0 : Nat) (hk0 : κ p0 = 10) (p1 : Int32) (p2 : Int32) (hz2 : p2 = 0 ∨ p2 = 1) (aC : Nat) (hC : g p0 1 = .ref aC) : vx_Met l yX8_lose wsX8_lose ({ frames := 7, cells := 1, slots := 6, locals := 120 }) (zPc D tc z0 [.ref p0, .int p1, .int p2] [] (L, κ, g) sz) (va_Qi (fun (r : Int32) (u : zS) => u = (L, κ, g)) (fun (u : zS) (t : State) => zB D tc (zA [] L sz) [] u t) (zA [] L sz)) (vx_X (fun u : zS => True) (fun (E : String) (u : zS) (t : State) => (((E = "java/lang/IndexOutOfBoundsException" ∧ ¬ zHas g aC 6 p1)) ∧ u = (L, κ, g)) ∧ zB D tc (zA [] L sz) [] u t) (zA [] L sz)) 1 6 (zA [] L sz) := by
  refine vx_ofW (cc := cX8_lose) (maxL := 5) (ret := (some .boolean)) (by decide) rfl ?_
  intro p e s m args below meth c s₁ B hml hxt hv
  obtain ⟨rfl, rfl, hK, hE, hI⟩ := hv.opn
  have hx := B.exec
  have hb := B.bytes
  have hr := B.returns
  have hts := atoms_spec (ws := wsX8_lose) B.pre
  have hown : s.vm.findClass RX8 = some m.cls := findClass_of_methodNamed B.named
  have hlocks := B.notSynchronized
  have hout : ∀ (i : Nat), ∀ x ∈ c.exceptionTable.toList, covers x i = false := fun i x hx9 => (hxt x hx9).elim
  have hM : zM p s m c cX8_lose _ wsX8_lose RX8 D tc := ⟨hx, hb, hts, hown, hK⟩
  have hinX3 : ∀ w ∈ wsX30, w ∈ wsX8_lose := by decide +kernel
  have hl := lv_entry ([.ref p0, .int p1, .int p2]) (n := 5) (Nat.le_of_ble_eq_true rfl)
  rw [lg_entry_eq]
  generalize (lg_sl ([.ref p0, .int p1, .int p2]) ++ List.replicate (5 - (lg_sl ([.ref p0, .int p1, .int p2])).length) Slot.unset).toArray = ls at hl ⊢
  have hl : lv_has ls 5 [(0, .ref p0), (1, .int p1), (2, .int p2)] := hl
  refine lv_aload_n hx hb dX8_lose_0 rfl (lv_at hl 0 rfl) ?_
  refine lv_iload_n hx hb dX8_lose_1 rfl (lv_at hl 1 rfl) ?_
  refine z_xq hI (vx_runV (As := [.int p1]) (rest := []) ⟨hx, hb, hml, hown, hts⟩ (c_X8_coreAt l hnt _ _ _ _ _ _ _ p0 hk0 p1 aC hC) (cwV 1 hts gX8_lose_X8_coreAt rfl rfl rfl (by decide +kernel) ⟨Nat.le_of_ble_eq_true rfl, Nat.le_of_ble_eq_true rfl⟩) (z_preV hK hE hI [] rfl rfl (z_recv hK hI hk0 rfl rfl)) rfl rfl hl.1 rfl (lv_room (Nat.le_of_ble_eq_true rfl)) dX8_lose_2 ⟨Nat.le_of_ble_eq_true rfl, Nat.le_of_ble_eq_true rfl⟩) (fun E ce q9 u H locs hw hI he1 he2 he3 => ?_) (fun v1 u H locs hw2 hI => ?_)
  · obtain ⟨hxp, rfl⟩ := hw
    exact z_pass hK hI hout hlocks he1 he2 he3 (by first | exact ⟨hxp, rfl⟩ | exact ⟨Or.inl hxp, rfl⟩ | exact ⟨Or.inr hxp, rfl⟩ | exact ⟨Or.inr (Or.inl hxp), rfl⟩ | exact ⟨Or.inr (Or.inr hxp), rfl⟩) (Nat.le_of_ble_eq_true rfl) (Nat.le_of_ble_eq_true rfl)
  obtain ⟨r3, rfl, hr4, hq5, rfl⟩ := hw2
  show W p l e (headSpec wsX8_lose ({ frames := 7, cells := 1, slots := 6, locals := 120 })).room s m ([.ref p0, .int p1, .int p2] : List Value).toArray below meth c _ _ 1 6 (vx_MQ below (va_Qi (fun (r : Int32) (u : zS) => u = (L, κ, g)) (fun (u : zS) (t : State) => zB D tc (zA [] L s.heap.size) [] u t) (zA [] L s.heap.size)) (vx_X (fun u : zS => True) (fun (E : String) (u : zS) (t : State) => (((E = "java/lang/IndexOutOfBoundsException" ∧ ¬ zHas g aC 6 p1)) ∧ u = (L, κ, g)) ∧ zB D tc (zA [] L s.heap.size) [] u t) (zA [] L s.heap.size)) ([.ref p0, .int p1, .int p2] : List Value).toArray s 1 6 (zA [] L s.heap.size)) (F0 m 5 ls (.ref r3 :: []))
  refine lv_astore_n (lv' := [(3, .ref r3), (0, .ref p0), (1, .int p1), (2, .int p2)]) hx hb dX8_lose_5 rfl hl (by decide) rfl (fun ls hl => ?_)
  refine lv_aload_n hx hb dX8_lose_6 rfl (lv_at hl 0 rfl) ?_
  refine z_get (k := 5) (j := 17) hM hI hr4 rfl rfl hinX3 rfl (by decide) (by decide +kernel) (fun _ h9 => h9) dX8_lose_7 (fun v6 hv7 => ?_)
  obtain ⟨i8, rfl, hz9⟩ := zv_b hv7
  refine lv_istore (lv' := [(4, .int i8), (3, .ref r3), (0, .ref p0), (1, .int p1), (2, .int p2)]) hx hb dX8_lose_10 hl (by decide) rfl (fun ls hl => ?_)
  refine lv_aload_n hx hb dX8_lose_12 rfl (lv_at hl 1 rfl) ?_
  refine lv_iload_n hx hb dX8_lose_13 rfl (lv_at hl 4 rfl) ?_
  refine z_put (g' := g) (k := 5) (j := 17) hM hI hr4 rfl rfl hinX3 tyX3 tyX3_ok nmX3 rfl (by decide) (by decide +kernel) (fun _ h9 => h9) rfl rfl (z_bn (by assumption)) (z_bf (by assumption)) (z_bv (by assumption)) (fun _ _ _ => rfl) dX8_lose_14 (fun H locs hI => ?_)
  refine lv_iload hx hb dX8_lose_17 (lv_at hl 0 rfl) ?_
  refine vx_ret ?_
  exact W.zret (v := i8) hx hb hr (z_bn (by assumption)) (fun t ht hW => ⟨⟨_, (L, κ, g), rfl, rfl, z_end hK hI ht hW⟩, z_F hI ht⟩) (z_locs hI) dX8_lose_19

set_option maxHeartbeats 4000000 in
set_option maxRecDepth 100000 in
theorem c_X8_governor (l : Launch) (hnt : l.stackTraces = false) (D : va_G) (tc : Nat → ClassId) (z0 : Nat) (L : List Nat) (κ : Nat → Nat) (g : Nat → Nat → Value) (sz : Nat) (p0 : Nat) (hk0 : κ p0 = 10) (p1 : Int32) (p2 : Int32) (hc2 : fits .char (.int p2) = true) (p3 : Int32) (aC : Nat) (hC : g p0 1 = .ref aC) : vx_Met l yX8_governor wsX8_governor ({ frames := 7, cells := 2, slots := 12, locals := 120 }) (zPc D tc z0 [.ref p0, .int p1, .int p2, .int p3] [] (L, κ, g) sz) (va_Qi (fun (r : Int32) (u : zS) => u = (L, κ, g)) (fun (u : zS) (t : State) => zB D tc (zA [] L sz) [] u t) (zA [] L sz)) (vx_X (fun u : zS => True) (fun (E : String) (u : zS) (t : State) => (((E = "java/lang/IndexOutOfBoundsException" ∧ ¬ zHas g aC 6 p1) ∨ E = "java/lang/IllegalArgumentException") ∧ u = (L, κ, g)) ∧ zB D tc (zA [] L sz) [] u t) (zA [] L sz)) 2 12 (zA [] L sz) := by
  refine vx_ofW (cc := cX8_governor) (maxL := 6) (ret := (some .char)) (by decide) rfl ?_
  intro p e s m args below meth c s₁ B hml hxt hv
  obtain ⟨rfl, rfl, hK, hE, hI⟩ := hv.opn
  have hx := B.exec
  have hb := B.bytes
  have hr := B.returns
  have hts := atoms_spec (ws := wsX8_governor) B.pre
  have hown : s.vm.findClass RX8 = some m.cls := findClass_of_methodNamed B.named
  have hlocks := B.notSynchronized
  have hout : ∀ (i : Nat), ∀ x ∈ c.exceptionTable.toList, covers x i = false := fun i x hx9 => (hxt x hx9).elim
  have hM : zM p s m c cX8_governor _ wsX8_governor RX8 D tc := ⟨hx, hb, hts, hown, hK⟩
  have hinX3 : ∀ w ∈ wsX30, w ∈ wsX8_governor := by decide +kernel
  have hl := lv_entry ([.ref p0, .int p1, .int p2, .int p3]) (n := 6) (Nat.le_of_ble_eq_true rfl)
  rw [lg_entry_eq]
  generalize (lg_sl ([.ref p0, .int p1, .int p2, .int p3]) ++ List.replicate (6 - (lg_sl ([.ref p0, .int p1, .int p2, .int p3])).length) Slot.unset).toArray = ls at hl ⊢
  have hl : lv_has ls 6 [(0, .ref p0), (1, .int p1), (2, .int p2), (3, .int p3)] := hl
  refine lv_aload_n hx hb dX8_governor_0 rfl (lv_at hl 0 rfl) ?_
  refine lv_iload_n hx hb dX8_governor_1 rfl (lv_at hl 1 rfl) ?_
  refine z_xq hI (vx_runV (As := [.int p1]) (rest := []) ⟨hx, hb, hml, hown, hts⟩ (c_X8_coreAt l hnt _ _ _ _ _ _ _ p0 hk0 p1 aC hC) (cwV 1 hts gX8_governor_X8_coreAt rfl rfl rfl (by decide +kernel) ⟨Nat.le_of_ble_eq_true rfl, Nat.le_of_ble_eq_true rfl⟩) (z_preV hK hE hI [] rfl rfl (z_recv hK hI hk0 rfl rfl)) rfl rfl hl.1 rfl (lv_room (Nat.le_of_ble_eq_true rfl)) dX8_governor_2 ⟨Nat.le_of_ble_eq_true rfl, Nat.le_of_ble_eq_true rfl⟩) (fun E ce q9 u H locs hw hI he1 he2 he3 => ?_) (fun v1 u H locs hw2 hI => ?_)
  · obtain ⟨hxp, rfl⟩ := hw
    exact z_pass hK hI hout hlocks he1 he2 he3 (by first | exact ⟨hxp, rfl⟩ | exact ⟨Or.inl hxp, rfl⟩ | exact ⟨Or.inr hxp, rfl⟩ | exact ⟨Or.inr (Or.inl hxp), rfl⟩ | exact ⟨Or.inr (Or.inr hxp), rfl⟩) (Nat.le_of_ble_eq_true rfl) (Nat.le_of_ble_eq_true rfl)
  obtain ⟨r3, rfl, hr4, hq5, rfl⟩ := hw2
  show W p l e (headSpec wsX8_governor ({ frames := 7, cells := 2, slots := 12, locals := 120 })).room s m ([.ref p0, .int p1, .int p2, .int p3] : List Value).toArray below meth c _ _ 1 6 (vx_MQ below (va_Qi (fun (r : Int32) (u : zS) => u = (L, κ, g)) (fun (u : zS) (t : State) => zB D tc (zA [] L s.heap.size) [] u t) (zA [] L s.heap.size)) (vx_X (fun u : zS => True) (fun (E : String) (u : zS) (t : State) => (((E = "java/lang/IndexOutOfBoundsException" ∧ ¬ zHas g aC 6 p1) ∨ E = "java/lang/IllegalArgumentException") ∧ u = (L, κ, g)) ∧ zB D tc (zA [] L s.heap.size) [] u t) (zA [] L s.heap.size)) ([.ref p0, .int p1, .int p2, .int p3] : List Value).toArray s 2 12 (zA [] L s.heap.size)) (F0 m 5 ls (.ref r3 :: []))
  refine lv_astore (lv' := [(4, .ref r3), (0, .ref p0), (1, .int p1), (2, .int p2), (3, .int p3)]) hx hb dX8_governor_5 hl (by decide) rfl (fun ls hl => ?_)
  refine lv_iload_n hx hb dX8_governor_7 rfl (lv_at hl 3 rfl) ?_
  refine lv_bipush (v := 102) hx hb dX8_governor_8 (by decide) ?_
  refine lv_icmp_eq (tgt := 35) hx hb dX8_governor_10 (by decide) (fun c6 => ?_) (fun c6 => ?_)
  · skip
    refine lv_iload_n hx hb dX8_governor_35 rfl (lv_at hl 3 rfl) ?_
    refine lv_bipush (v := 102) hx hb dX8_governor_36 (by decide) ?_
    refine lv_icmp_ne (tgt := 61) hx hb dX8_governor_38 (by decide) (fun c7 => ?_) (fun c7 => ?_)
    · skip
      refine lv_aload hx hb dX8_governor_61 (lv_at hl 0 rfl) ?_
      refine z_get (k := 5) (j := 3) hM hI hr4 rfl rfl hinX3 rfl (by decide) (by decide +kernel) (fun _ h9 => h9) dX8_governor_63 (fun v8 hv9 => ?_)
      obtain ⟨i10, rfl, hf11⟩ := hv9
      refine lv_istore (lv' := [(5, .int i10), (4, .ref r3), (0, .ref p0), (1, .int p1), (2, .int p2), (3, .int p3)]) hx hb dX8_governor_66 hl (by decide) rfl (fun ls hl => ?_)
      refine lv_aload hx hb dX8_governor_68 (lv_at hl 1 rfl) ?_
      refine lv_iload_n hx hb dX8_governor_70 rfl (lv_at hl 4 rfl) ?_
      refine z_put (g' := g) (k := 5) (j := 3) hM hI hr4 rfl rfl hinX3 tyX3 tyX3_ok nmX3 rfl (by decide) (by decide +kernel) (fun _ h9 => h9) rfl rfl (z_cn (by assumption)) (by assumption) ⟨_, rfl, (by assumption)⟩ (fun _ _ _ => rfl) dX8_governor_71 (fun H locs hI => ?_)
      refine lv_aload hx hb dX8_governor_74 (lv_at hl 1 rfl) ?_
      refine lv_iload_n hx hb dX8_governor_76 rfl (lv_at hl 5 rfl) ?_
      refine z_put (g' := g) (k := 5) (j := 4) hM hI hr4 rfl rfl hinX3 tyX3 tyX3_ok nmX3 rfl (by decide) (by decide +kernel) (fun _ h9 => h9) rfl rfl rfl rfl ⟨_, rfl⟩ (fun _ _ _ => rfl) dX8_governor_77 (fun H locs hI => ?_)
      refine lv_iload hx hb dX8_governor_80 (lv_at hl 0 rfl) ?_
      refine vx_ret ?_
      refine W.widen (k := 2) (n := 12) (Nat.le_of_ble_eq_true rfl) (Nat.le_of_ble_eq_true rfl) ?_
      exact W.zret (v := i10) hx hb hr (z_cn (by assumption)) (fun t ht hW => ⟨⟨_, (L, κ, g), rfl, rfl, z_end hK hI ht hW⟩, z_F hI ht⟩) (z_locs hI) dX8_governor_82
    · skip
      refine lv_iconst (v := 0) hx hb dX8_governor_41 (by decide) ?_
      refine lv_iload_n hx hb dX8_governor_42 rfl (lv_at hl 4 rfl) ?_
      refine lv_bipush (v := 7) hx hb dX8_governor_43 (by decide) ?_
      refine vp_callSi (W.runS (As := [.int 0, .int p3, .int 7]) (rest := []) ⟨hx, hb, hml, hown, hts⟩ (c_X8_isFrom l _ _ _ _ _ _ _ 0 p3 7) (va_cwS 3 hts gX8_governor_X8_isFrom rfl rfl rfl (by decide +kernel) ⟨Nat.le_of_ble_eq_true rfl, Nat.le_of_ble_eq_true rfl⟩) (z_pre hK hE hI [] rfl rfl) rfl rfl hl.1 rfl (lv_room (Nat.le_of_ble_eq_true rfl)) dX8_governor_45 ⟨Nat.le_of_ble_eq_true rfl, Nat.le_of_ble_eq_true rfl⟩) (fun v12 hw13 => ?_)
      refine lv_if_ne (tgt := 61) hx hb dX8_governor_48 (by decide) (fun c14 => ?_) (fun c14 => ?_)
      · skip
        refine lv_aload hx hb dX8_governor_61 (lv_at hl 0 rfl) ?_
        refine z_get (k := 5) (j := 3) hM hI hr4 rfl rfl hinX3 rfl (by decide) (by decide +kernel) (fun _ h9 => h9) dX8_governor_63 (fun v15 hv16 => ?_)
        obtain ⟨i17, rfl, hf18⟩ := hv16
        refine lv_istore (lv' := [(5, .int i17), (4, .ref r3), (0, .ref p0), (1, .int p1), (2, .int p2), (3, .int p3)]) hx hb dX8_governor_66 hl (by decide) rfl (fun ls hl => ?_)
        refine lv_aload hx hb dX8_governor_68 (lv_at hl 1 rfl) ?_
        refine lv_iload_n hx hb dX8_governor_70 rfl (lv_at hl 4 rfl) ?_
        refine z_put (g' := g) (k := 5) (j := 3) hM hI hr4 rfl rfl hinX3 tyX3 tyX3_ok nmX3 rfl (by decide) (by decide +kernel) (fun _ h9 => h9) rfl rfl (z_cn (by assumption)) (by assumption) ⟨_, rfl, (by assumption)⟩ (fun _ _ _ => rfl) dX8_governor_71 (fun H locs hI => ?_)
        refine lv_aload hx hb dX8_governor_74 (lv_at hl 1 rfl) ?_
        refine lv_iload_n hx hb dX8_governor_76 rfl (lv_at hl 5 rfl) ?_
        refine z_put (g' := g) (k := 5) (j := 4) hM hI hr4 rfl rfl hinX3 tyX3 tyX3_ok nmX3 rfl (by decide) (by decide +kernel) (fun _ h9 => h9) rfl rfl rfl rfl ⟨_, rfl⟩ (fun _ _ _ => rfl) dX8_governor_77 (fun H locs hI => ?_)
        refine lv_iload hx hb dX8_governor_80 (lv_at hl 0 rfl) ?_
        refine vx_ret ?_
        refine W.widen (k := 2) (n := 12) (Nat.le_of_ble_eq_true rfl) (Nat.le_of_ble_eq_true rfl) ?_
        exact W.zret (v := i17) hx hb hr (z_cn (by assumption)) (fun t ht hW => ⟨⟨_, (L, κ, g), rfl, rfl, z_end hK hI ht hW⟩, z_F hI ht⟩) (z_locs hI) dX8_governor_82
      · skip
        refine z_throw (ik := 71) (is := 125) (ic := 75) (cls := "java/lang/IllegalArgumentException") (text := "the speed is out of range") (L0 := L) ["java/lang/RuntimeException", "java/lang/Exception"] (by decide) hM hE hI hnt (by decide) (by decide +kernel) (by decide +kernel) (by decide +kernel) (by decide +kernel) (by decide +kernel) (by decide +kernel) (hl.1.trans hml.symm) dX8_governor_51 dX8_governor_54 dX8_governor_55 dX8_governor_57 dX8_governor_60 hout (Nat.le_of_ble_eq_true rfl) (Nat.le_of_ble_eq_true rfl) (Nat.le_of_ble_eq_true rfl) (Nat.le_of_ble_eq_true rfl) hlocks ⟨Or.inr rfl, rfl⟩ (Nat.le_of_ble_eq_true rfl) (Nat.le_of_ble_eq_true rfl)
  · skip
    refine lv_iload_n hx hb dX8_governor_13 rfl (lv_at hl 3 rfl) ?_
    refine lv_bipush (v := 108) hx hb dX8_governor_14 (by decide) ?_
    refine lv_icmp_eq (tgt := 35) hx hb dX8_governor_16 (by decide) (fun c19 => ?_) (fun c19 => ?_)
    · skip
      refine lv_iload_n hx hb dX8_governor_35 rfl (lv_at hl 3 rfl) ?_
      refine lv_bipush (v := 102) hx hb dX8_governor_36 (by decide) ?_
      refine lv_icmp_ne (tgt := 61) hx hb dX8_governor_38 (by decide) (fun c20 => ?_) (fun c20 => ?_)
      · skip
        refine lv_aload hx hb dX8_governor_61 (lv_at hl 0 rfl) ?_
        refine z_get (k := 5) (j := 3) hM hI hr4 rfl rfl hinX3 rfl (by decide) (by decide +kernel) (fun _ h9 => h9) dX8_governor_63 (fun v21 hv22 => ?_)
        obtain ⟨i23, rfl, hf24⟩ := hv22
        refine lv_istore (lv' := [(5, .int i23), (4, .ref r3), (0, .ref p0), (1, .int p1), (2, .int p2), (3, .int p3)]) hx hb dX8_governor_66 hl (by decide) rfl (fun ls hl => ?_)
        refine lv_aload hx hb dX8_governor_68 (lv_at hl 1 rfl) ?_
        refine lv_iload_n hx hb dX8_governor_70 rfl (lv_at hl 4 rfl) ?_
        refine z_put (g' := g) (k := 5) (j := 3) hM hI hr4 rfl rfl hinX3 tyX3 tyX3_ok nmX3 rfl (by decide) (by decide +kernel) (fun _ h9 => h9) rfl rfl (z_cn (by assumption)) (by assumption) ⟨_, rfl, (by assumption)⟩ (fun _ _ _ => rfl) dX8_governor_71 (fun H locs hI => ?_)
        refine lv_aload hx hb dX8_governor_74 (lv_at hl 1 rfl) ?_
        refine lv_iload_n hx hb dX8_governor_76 rfl (lv_at hl 5 rfl) ?_
        refine z_put (g' := g) (k := 5) (j := 4) hM hI hr4 rfl rfl hinX3 tyX3 tyX3_ok nmX3 rfl (by decide) (by decide +kernel) (fun _ h9 => h9) rfl rfl rfl rfl ⟨_, rfl⟩ (fun _ _ _ => rfl) dX8_governor_77 (fun H locs hI => ?_)
        refine lv_iload hx hb dX8_governor_80 (lv_at hl 0 rfl) ?_
        refine vx_ret ?_
        refine W.widen (k := 2) (n := 12) (Nat.le_of_ble_eq_true rfl) (Nat.le_of_ble_eq_true rfl) ?_
        exact W.zret (v := i23) hx hb hr (z_cn (by assumption)) (fun t ht hW => ⟨⟨_, (L, κ, g), rfl, rfl, z_end hK hI ht hW⟩, z_F hI ht⟩) (z_locs hI) dX8_governor_82
      · skip
        refine lv_iconst (v := 0) hx hb dX8_governor_41 (by decide) ?_
        refine lv_iload_n hx hb dX8_governor_42 rfl (lv_at hl 4 rfl) ?_
        refine lv_bipush (v := 7) hx hb dX8_governor_43 (by decide) ?_
        refine vp_callSi (W.runS (As := [.int 0, .int p3, .int 7]) (rest := []) ⟨hx, hb, hml, hown, hts⟩ (c_X8_isFrom l _ _ _ _ _ _ _ 0 p3 7) (va_cwS 3 hts gX8_governor_X8_isFrom rfl rfl rfl (by decide +kernel) ⟨Nat.le_of_ble_eq_true rfl, Nat.le_of_ble_eq_true rfl⟩) (z_pre hK hE hI [] rfl rfl) rfl rfl hl.1 rfl (lv_room (Nat.le_of_ble_eq_true rfl)) dX8_governor_45 ⟨Nat.le_of_ble_eq_true rfl, Nat.le_of_ble_eq_true rfl⟩) (fun v25 hw26 => ?_)
        refine lv_if_ne (tgt := 61) hx hb dX8_governor_48 (by decide) (fun c27 => ?_) (fun c27 => ?_)
        · skip
          refine lv_aload hx hb dX8_governor_61 (lv_at hl 0 rfl) ?_
          refine z_get (k := 5) (j := 3) hM hI hr4 rfl rfl hinX3 rfl (by decide) (by decide +kernel) (fun _ h9 => h9) dX8_governor_63 (fun v28 hv29 => ?_)
          obtain ⟨i30, rfl, hf31⟩ := hv29
          refine lv_istore (lv' := [(5, .int i30), (4, .ref r3), (0, .ref p0), (1, .int p1), (2, .int p2), (3, .int p3)]) hx hb dX8_governor_66 hl (by decide) rfl (fun ls hl => ?_)
          refine lv_aload hx hb dX8_governor_68 (lv_at hl 1 rfl) ?_
          refine lv_iload_n hx hb dX8_governor_70 rfl (lv_at hl 4 rfl) ?_
          refine z_put (g' := g) (k := 5) (j := 3) hM hI hr4 rfl rfl hinX3 tyX3 tyX3_ok nmX3 rfl (by decide) (by decide +kernel) (fun _ h9 => h9) rfl rfl (z_cn (by assumption)) (by assumption) ⟨_, rfl, (by assumption)⟩ (fun _ _ _ => rfl) dX8_governor_71 (fun H locs hI => ?_)
          refine lv_aload hx hb dX8_governor_74 (lv_at hl 1 rfl) ?_
          refine lv_iload_n hx hb dX8_governor_76 rfl (lv_at hl 5 rfl) ?_
          refine z_put (g' := g) (k := 5) (j := 4) hM hI hr4 rfl rfl hinX3 tyX3 tyX3_ok nmX3 rfl (by decide) (by decide +kernel) (fun _ h9 => h9) rfl rfl rfl rfl ⟨_, rfl⟩ (fun _ _ _ => rfl) dX8_governor_77 (fun H locs hI => ?_)
          refine lv_iload hx hb dX8_governor_80 (lv_at hl 0 rfl) ?_
          refine vx_ret ?_
          refine W.widen (k := 2) (n := 12) (Nat.le_of_ble_eq_true rfl) (Nat.le_of_ble_eq_true rfl) ?_
          exact W.zret (v := i30) hx hb hr (z_cn (by assumption)) (fun t ht hW => ⟨⟨_, (L, κ, g), rfl, rfl, z_end hK hI ht hW⟩, z_F hI ht⟩) (z_locs hI) dX8_governor_82
        · skip
          refine z_throw (ik := 71) (is := 125) (ic := 75) (cls := "java/lang/IllegalArgumentException") (text := "the speed is out of range") (L0 := L) ["java/lang/RuntimeException", "java/lang/Exception"] (by decide) hM hE hI hnt (by decide) (by decide +kernel) (by decide +kernel) (by decide +kernel) (by decide +kernel) (by decide +kernel) (by decide +kernel) (hl.1.trans hml.symm) dX8_governor_51 dX8_governor_54 dX8_governor_55 dX8_governor_57 dX8_governor_60 hout (Nat.le_of_ble_eq_true rfl) (Nat.le_of_ble_eq_true rfl) (Nat.le_of_ble_eq_true rfl) (Nat.le_of_ble_eq_true rfl) hlocks ⟨Or.inr rfl, rfl⟩ (Nat.le_of_ble_eq_true rfl) (Nat.le_of_ble_eq_true rfl)
    · skip
      refine lv_iload_n hx hb dX8_governor_19 rfl (lv_at hl 3 rfl) ?_
      refine lv_bipush (v := 119) hx hb dX8_governor_20 (by decide) ?_
      refine lv_icmp_eq (tgt := 35) hx hb dX8_governor_22 (by decide) (fun c32 => ?_) (fun c32 => ?_)
      · skip
        refine lv_iload_n hx hb dX8_governor_35 rfl (lv_at hl 3 rfl) ?_
        refine lv_bipush (v := 102) hx hb dX8_governor_36 (by decide) ?_
        refine lv_icmp_ne (tgt := 61) hx hb dX8_governor_38 (by decide) (fun c33 => ?_) (fun c33 => ?_)
        · skip
          refine lv_aload hx hb dX8_governor_61 (lv_at hl 0 rfl) ?_
          refine z_get (k := 5) (j := 3) hM hI hr4 rfl rfl hinX3 rfl (by decide) (by decide +kernel) (fun _ h9 => h9) dX8_governor_63 (fun v34 hv35 => ?_)
          obtain ⟨i36, rfl, hf37⟩ := hv35
          refine lv_istore (lv' := [(5, .int i36), (4, .ref r3), (0, .ref p0), (1, .int p1), (2, .int p2), (3, .int p3)]) hx hb dX8_governor_66 hl (by decide) rfl (fun ls hl => ?_)
          refine lv_aload hx hb dX8_governor_68 (lv_at hl 1 rfl) ?_
          refine lv_iload_n hx hb dX8_governor_70 rfl (lv_at hl 4 rfl) ?_
          refine z_put (g' := g) (k := 5) (j := 3) hM hI hr4 rfl rfl hinX3 tyX3 tyX3_ok nmX3 rfl (by decide) (by decide +kernel) (fun _ h9 => h9) rfl rfl (z_cn (by assumption)) (by assumption) ⟨_, rfl, (by assumption)⟩ (fun _ _ _ => rfl) dX8_governor_71 (fun H locs hI => ?_)
          refine lv_aload hx hb dX8_governor_74 (lv_at hl 1 rfl) ?_
          refine lv_iload_n hx hb dX8_governor_76 rfl (lv_at hl 5 rfl) ?_
          refine z_put (g' := g) (k := 5) (j := 4) hM hI hr4 rfl rfl hinX3 tyX3 tyX3_ok nmX3 rfl (by decide) (by decide +kernel) (fun _ h9 => h9) rfl rfl rfl rfl ⟨_, rfl⟩ (fun _ _ _ => rfl) dX8_governor_77 (fun H locs hI => ?_)
          refine lv_iload hx hb dX8_governor_80 (lv_at hl 0 rfl) ?_
          refine vx_ret ?_
          refine W.widen (k := 2) (n := 12) (Nat.le_of_ble_eq_true rfl) (Nat.le_of_ble_eq_true rfl) ?_
          exact W.zret (v := i36) hx hb hr (z_cn (by assumption)) (fun t ht hW => ⟨⟨_, (L, κ, g), rfl, rfl, z_end hK hI ht hW⟩, z_F hI ht⟩) (z_locs hI) dX8_governor_82
        · skip
          refine lv_iconst (v := 0) hx hb dX8_governor_41 (by decide) ?_
          refine lv_iload_n hx hb dX8_governor_42 rfl (lv_at hl 4 rfl) ?_
          refine lv_bipush (v := 7) hx hb dX8_governor_43 (by decide) ?_
          refine vp_callSi (W.runS (As := [.int 0, .int p3, .int 7]) (rest := []) ⟨hx, hb, hml, hown, hts⟩ (c_X8_isFrom l _ _ _ _ _ _ _ 0 p3 7) (va_cwS 3 hts gX8_governor_X8_isFrom rfl rfl rfl (by decide +kernel) ⟨Nat.le_of_ble_eq_true rfl, Nat.le_of_ble_eq_true rfl⟩) (z_pre hK hE hI [] rfl rfl) rfl rfl hl.1 rfl (lv_room (Nat.le_of_ble_eq_true rfl)) dX8_governor_45 ⟨Nat.le_of_ble_eq_true rfl, Nat.le_of_ble_eq_true rfl⟩) (fun v38 hw39 => ?_)
          refine lv_if_ne (tgt := 61) hx hb dX8_governor_48 (by decide) (fun c40 => ?_) (fun c40 => ?_)
          · skip
            refine lv_aload hx hb dX8_governor_61 (lv_at hl 0 rfl) ?_
            refine z_get (k := 5) (j := 3) hM hI hr4 rfl rfl hinX3 rfl (by decide) (by decide +kernel) (fun _ h9 => h9) dX8_governor_63 (fun v41 hv42 => ?_)
            obtain ⟨i43, rfl, hf44⟩ := hv42
            refine lv_istore (lv' := [(5, .int i43), (4, .ref r3), (0, .ref p0), (1, .int p1), (2, .int p2), (3, .int p3)]) hx hb dX8_governor_66 hl (by decide) rfl (fun ls hl => ?_)
            refine lv_aload hx hb dX8_governor_68 (lv_at hl 1 rfl) ?_
            refine lv_iload_n hx hb dX8_governor_70 rfl (lv_at hl 4 rfl) ?_
            refine z_put (g' := g) (k := 5) (j := 3) hM hI hr4 rfl rfl hinX3 tyX3 tyX3_ok nmX3 rfl (by decide) (by decide +kernel) (fun _ h9 => h9) rfl rfl (z_cn (by assumption)) (by assumption) ⟨_, rfl, (by assumption)⟩ (fun _ _ _ => rfl) dX8_governor_71 (fun H locs hI => ?_)
            refine lv_aload hx hb dX8_governor_74 (lv_at hl 1 rfl) ?_
            refine lv_iload_n hx hb dX8_governor_76 rfl (lv_at hl 5 rfl) ?_
            refine z_put (g' := g) (k := 5) (j := 4) hM hI hr4 rfl rfl hinX3 tyX3 tyX3_ok nmX3 rfl (by decide) (by decide +kernel) (fun _ h9 => h9) rfl rfl rfl rfl ⟨_, rfl⟩ (fun _ _ _ => rfl) dX8_governor_77 (fun H locs hI => ?_)
            refine lv_iload hx hb dX8_governor_80 (lv_at hl 0 rfl) ?_
            refine vx_ret ?_
            refine W.widen (k := 2) (n := 12) (Nat.le_of_ble_eq_true rfl) (Nat.le_of_ble_eq_true rfl) ?_
            exact W.zret (v := i43) hx hb hr (z_cn (by assumption)) (fun t ht hW => ⟨⟨_, (L, κ, g), rfl, rfl, z_end hK hI ht hW⟩, z_F hI ht⟩) (z_locs hI) dX8_governor_82
          · skip
            refine z_throw (ik := 71) (is := 125) (ic := 75) (cls := "java/lang/IllegalArgumentException") (text := "the speed is out of range") (L0 := L) ["java/lang/RuntimeException", "java/lang/Exception"] (by decide) hM hE hI hnt (by decide) (by decide +kernel) (by decide +kernel) (by decide +kernel) (by decide +kernel) (by decide +kernel) (by decide +kernel) (hl.1.trans hml.symm) dX8_governor_51 dX8_governor_54 dX8_governor_55 dX8_governor_57 dX8_governor_60 hout (Nat.le_of_ble_eq_true rfl) (Nat.le_of_ble_eq_true rfl) (Nat.le_of_ble_eq_true rfl) (Nat.le_of_ble_eq_true rfl) hlocks ⟨Or.inr rfl, rfl⟩ (Nat.le_of_ble_eq_true rfl) (Nat.le_of_ble_eq_true rfl)
      · skip
        refine z_throw (ik := 71) (is := 123) (ic := 75) (cls := "java/lang/IllegalArgumentException") (text := "no such governor") (L0 := L) ["java/lang/RuntimeException", "java/lang/Exception"] (by decide) hM hE hI hnt (by decide) (by decide +kernel) (by decide +kernel) (by decide +kernel) (by decide +kernel) (by decide +kernel) (by decide +kernel) (hl.1.trans hml.symm) dX8_governor_25 dX8_governor_28 dX8_governor_29 dX8_governor_31 dX8_governor_34 hout (Nat.le_of_ble_eq_true rfl) (Nat.le_of_ble_eq_true rfl) (Nat.le_of_ble_eq_true rfl) (Nat.le_of_ble_eq_true rfl) hlocks ⟨Or.inr rfl, rfl⟩ (Nat.le_of_ble_eq_true rfl) (Nat.le_of_ble_eq_true rfl)

set_option maxHeartbeats 4000000 in
set_option maxRecDepth 100000 in
theorem c_X8_wall (l : Launch) (hnt : l.stackTraces = false) (D : va_G) (tc : Nat → ClassId) (z0 : Nat) (L : List Nat) (κ : Nat → Nat) (g : Nat → Nat → Value) (sz : Nat) (p0 : Nat) (hk0 : κ p0 = 10) (p1 : Int32) : vx_Met l yX8_wall wsX8_wall ({ frames := 6, cells := 1, slots := 6, locals := 98 }) (zPc D tc z0 [.ref p0, .int p1] [] (L, κ, g) sz) (va_Qi (fun (r : Int32) (u : zS) => u = (L, κ, g)) (fun (u : zS) (t : State) => zB D tc (zA [] L sz) [] u t) (zA [] L sz)) (vx_X (fun u : zS => True) (fun (E : String) (u : zS) (t : State) => ((E = "java/lang/IllegalArgumentException") ∧ u = (L, κ, g)) ∧ zB D tc (zA [] L sz) [] u t) (zA [] L sz)) 1 6 (zA [] L sz) := by
  refine vx_ofW (cc := cX8_wall) (maxL := 3) (ret := (some .int)) (by decide) rfl ?_
  intro p e s m args below meth c s₁ B hml hxt hv
  obtain ⟨rfl, rfl, hK, hE, hI⟩ := hv.opn
  have hx := B.exec
  have hb := B.bytes
  have hr := B.returns
  have hts := atoms_spec (ws := wsX8_wall) B.pre
  have hown : s.vm.findClass RX8 = some m.cls := findClass_of_methodNamed B.named
  have hlocks := B.notSynchronized
  have hout : ∀ (i : Nat), ∀ x ∈ c.exceptionTable.toList, covers x i = false := fun i x hx9 => (hxt x hx9).elim
  have hM : zM p s m c cX8_wall _ wsX8_wall RX8 D tc := ⟨hx, hb, hts, hown, hK⟩
  have hinX8 : ∀ w ∈ wsX80, w ∈ wsX8_wall := by decide +kernel
  have hinX6 : ∀ w ∈ wsX60, w ∈ wsX8_wall := by decide +kernel
  have hl := lv_entry ([.ref p0, .int p1]) (n := 3) (Nat.le_of_ble_eq_true rfl)
  rw [lg_entry_eq]
  generalize (lg_sl ([.ref p0, .int p1]) ++ List.replicate (3 - (lg_sl ([.ref p0, .int p1])).length) Slot.unset).toArray = ls at hl ⊢
  have hl : lv_has ls 3 [(0, .ref p0), (1, .int p1)] := hl
  refine lv_iconst (v := 0) hx hb dX8_wall_0 (by decide) ?_
  refine lv_iload_n hx hb dX8_wall_1 rfl (lv_at hl 1 rfl) ?_
  refine lv_sipush (v := 999) hx hb dX8_wall_2 (by decide) ?_
  refine vp_callSi (W.runS (As := [.int 0, .int p1, .int 999]) (rest := []) ⟨hx, hb, hml, hown, hts⟩ (c_X8_isFrom l _ _ _ _ _ _ _ 0 p1 999) (va_cwS 3 hts gX8_wall_X8_isFrom rfl rfl rfl (by decide +kernel) ⟨Nat.le_of_ble_eq_true rfl, Nat.le_of_ble_eq_true rfl⟩) (z_pre hK hE hI [] rfl rfl) rfl rfl hl.1 rfl (lv_room (Nat.le_of_ble_eq_true rfl)) dX8_wall_5 ⟨Nat.le_of_ble_eq_true rfl, Nat.le_of_ble_eq_true rfl⟩) (fun v1 hw2 => ?_)
  refine lv_if_ne (tgt := 21) hx hb dX8_wall_8 (by decide) (fun c3 => ?_) (fun c3 => ?_)
  · skip
    refine lv_aload_n hx hb dX8_wall_21 rfl (lv_at hl 0 rfl) ?_
    refine z_get (k := 10) (j := 4) hM hI hk0 rfl rfl hinX8 rfl (by decide) (by decide +kernel) (fun _ h9 => h9) dX8_wall_22 (fun v4 hv5 => ?_)
    obtain ⟨hg7, i6, rfl, hr8⟩ := hv5
    refine z_get (k := 8) (j := 0) hM hI hr8 rfl rfl hinX6 rfl (by decide) (by decide +kernel) (fun _ h9 => h9) dX8_wall_25 (fun v9 hv10 => ?_)
    obtain ⟨i11, rfl, hb12, hb13⟩ := hv10
    have hb13 : i11.toInt < 1000 := hb13
    refine lv_istore_n (lv' := [(2, .int i11), (0, .ref p0), (1, .int p1)]) hx hb dX8_wall_28 rfl hl (by decide) rfl (fun ls hl => ?_)
    refine lv_aload_n hx hb dX8_wall_29 rfl (lv_at hl 1 rfl) ?_
    refine z_get (k := 10) (j := 4) hM hI hk0 rfl rfl hinX8 rfl (by decide) (by decide +kernel) (fun _ h9 => h9) dX8_wall_30 (fun v14 hv15 => ?_)
    obtain ⟨hg17, i16, rfl, hr18⟩ := hv15
    refine lv_iload_n hx hb dX8_wall_33 rfl (lv_at hl 2 rfl) ?_
    refine z_put (g' := g) (k := 8) (j := 0) hM hI hr18 rfl rfl hinX6 tyX6 tyX6_ok nmX6 rfl (by decide) (by decide +kernel) (fun _ h9 => h9) rfl rfl rfl rfl ⟨_, rfl, (w_rng (B := 1000) (Classical.not_not.mp (fun h => c3 (hw2.mpr h))) (by decide)).1, (w_rng (B := 1000) (Classical.not_not.mp (fun h => c3 (hw2.mpr h))) (by decide)).2⟩ (fun _ _ _ => rfl) dX8_wall_34 (fun H locs hI => ?_)
    refine lv_iload_n hx hb dX8_wall_37 rfl (lv_at hl 0 rfl) ?_
    refine vx_ret ?_
    refine W.widen (k := 1) (n := 6) (Nat.le_of_ble_eq_true rfl) (Nat.le_of_ble_eq_true rfl) ?_
    exact W.iret (v := i11) hx hb hr (fun t ht hW => ⟨⟨_, (L, κ, g), rfl, rfl, z_end hK hI ht hW⟩, z_F hI ht⟩) (z_locs hI) dX8_wall_38
  · skip
    refine z_throw (ik := 71) (is := 95) (ic := 75) (cls := "java/lang/IllegalArgumentException") (text := "a number out of range") (L0 := L) ["java/lang/RuntimeException", "java/lang/Exception"] (by decide) hM hE hI hnt (by decide) (by decide +kernel) (by decide +kernel) (by decide +kernel) (by decide +kernel) (by decide +kernel) (by decide +kernel) (hl.1.trans hml.symm) dX8_wall_11 dX8_wall_14 dX8_wall_15 dX8_wall_17 dX8_wall_20 hout (Nat.le_of_ble_eq_true rfl) (Nat.le_of_ble_eq_true rfl) (Nat.le_of_ble_eq_true rfl) (Nat.le_of_ble_eq_true rfl) hlocks ⟨rfl, rfl⟩ (Nat.le_of_ble_eq_true rfl) (Nat.le_of_ble_eq_true rfl)

set_option maxHeartbeats 4000000 in
set_option maxRecDepth 100000 in
theorem c_X8_request (l : Launch) (hnt : l.stackTraces = false) (D : va_G) (tc : Nat → ClassId) (z0 : Nat) (L : List Nat) (κ : Nat → Nat) (g : Nat → Nat → Value) (sz : Nat) (p0 : Nat) (hk0 : κ p0 = 10) (p1 : Int32) (p2 : Int32) : vx_Met l yX8_request wsX8_request ({ frames := 6, cells := 1, slots := 6, locals := 98 }) (zPc D tc z0 [.ref p0, .int p1, .int p2] [] (L, κ, g) sz) (va_Qi (fun (r : Int32) (u : zS) => u = (L, κ, g)) (fun (u : zS) (t : State) => zB D tc (zA [] L sz) [] u t) (zA [] L sz)) (vx_X (fun u : zS => True) (fun (E : String) (u : zS) (t : State) => ((E = "java/lang/IllegalArgumentException" ∨ E = "java/lang/UnsupportedOperationException") ∧ u = (L, κ, g)) ∧ zB D tc (zA [] L sz) [] u t) (zA [] L sz)) 1 6 (zA [] L sz) := by
  refine vx_ofW (cc := cX8_request) (maxL := 3) (ret := (some .int)) (by decide) rfl ?_
  intro p e s m args below meth c s₁ B hml hxt hv
  obtain ⟨rfl, rfl, hK, hE, hI⟩ := hv.opn
  have hx := B.exec
  have hb := B.bytes
  have hr := B.returns
  have hts := atoms_spec (ws := wsX8_request) B.pre
  have hown : s.vm.findClass RX8 = some m.cls := findClass_of_methodNamed B.named
  have hlocks := B.notSynchronized
  have hout : ∀ (i : Nat), ∀ x ∈ c.exceptionTable.toList, covers x i = false := fun i x hx9 => (hxt x hx9).elim
  have hM : zM p s m c cX8_request _ wsX8_request RX8 D tc := ⟨hx, hb, hts, hown, hK⟩
  have hinX8 : ∀ w ∈ wsX80, w ∈ wsX8_request := by decide +kernel
  have hinX5 : ∀ w ∈ wsX50, w ∈ wsX8_request := by decide +kernel
  have hl := lv_entry ([.ref p0, .int p1, .int p2]) (n := 3) (Nat.le_of_ble_eq_true rfl)
  rw [lg_entry_eq]
  generalize (lg_sl ([.ref p0, .int p1, .int p2]) ++ List.replicate (3 - (lg_sl ([.ref p0, .int p1, .int p2])).length) Slot.unset).toArray = ls at hl ⊢
  have hl : lv_has ls 3 [(0, .ref p0), (1, .int p1), (2, .int p2)] := hl
  refine lv_iconst (v := 1) hx hb dX8_request_0 (by decide) ?_
  refine lv_iload_n hx hb dX8_request_1 rfl (lv_at hl 1 rfl) ?_
  refine lv_sipush (v := 9999) hx hb dX8_request_2 (by decide) ?_
  refine vp_callSi (W.runS (As := [.int 1, .int p1, .int 9999]) (rest := []) ⟨hx, hb, hml, hown, hts⟩ (c_X8_isFrom l _ _ _ _ _ _ _ 1 p1 9999) (va_cwS 3 hts gX8_request_X8_isFrom rfl rfl rfl (by decide +kernel) ⟨Nat.le_of_ble_eq_true rfl, Nat.le_of_ble_eq_true rfl⟩) (z_pre hK hE hI [] rfl rfl) rfl rfl hl.1 rfl (lv_room (Nat.le_of_ble_eq_true rfl)) dX8_request_5 ⟨Nat.le_of_ble_eq_true rfl, Nat.le_of_ble_eq_true rfl⟩) (fun v1 hw2 => ?_)
  refine lv_if_ne (tgt := 30) hx hb dX8_request_8 (by decide) (fun c3 => ?_) (fun c3 => ?_)
  · skip
    refine lv_iconst (v := 0) hx hb dX8_request_30 (by decide) ?_
    refine lv_iload_n hx hb dX8_request_31 rfl (lv_at hl 2 rfl) ?_
    refine lv_bipush (v := 7) hx hb dX8_request_32 (by decide) ?_
    refine vp_callSi (W.runS (As := [.int 0, .int p2, .int 7]) (rest := []) ⟨hx, hb, hml, hown, hts⟩ (c_X8_isFrom l _ _ _ _ _ _ _ 0 p2 7) (va_cwS 3 hts gX8_request_X8_isFrom rfl rfl rfl (by decide +kernel) ⟨Nat.le_of_ble_eq_true rfl, Nat.le_of_ble_eq_true rfl⟩) (z_pre hK hE hI [] rfl rfl) rfl rfl hl.1 rfl (lv_room (Nat.le_of_ble_eq_true rfl)) dX8_request_34 ⟨Nat.le_of_ble_eq_true rfl, Nat.le_of_ble_eq_true rfl⟩) (fun v4 hw5 => ?_)
    refine lv_if_ne (tgt := 59) hx hb dX8_request_37 (by decide) (fun c6 => ?_) (fun c6 => ?_)
    · skip
      refine lv_iload_n hx hb dX8_request_59 rfl (lv_at hl 1 rfl) ?_
      refine lv_aload_n hx hb dX8_request_60 rfl (lv_at hl 0 rfl) ?_
      refine z_get (k := 10) (j := 5) hM hI hk0 rfl rfl hinX8 rfl (by decide) (by decide +kernel) (fun _ h9 => h9) dX8_request_61 (fun v7 hv8 => ?_)
      obtain ⟨hg10, i9, rfl, hr11⟩ := hv8
      refine z_get (k := 7) (j := 1) hM hI hr11 rfl rfl hinX5 rfl (by decide) (by decide +kernel) (fun _ h9 => h9) dX8_request_64 (fun v12 hv13 => ?_)
      obtain ⟨i14, rfl⟩ := hv13
      refine lv_icmp_gt (tgt := 89) hx hb dX8_request_67 (by decide) (fun c15 => ?_) (fun c15 => ?_)
      · skip
        refine lv_aload_n hx hb dX8_request_89 rfl (lv_at hl 0 rfl) ?_
        refine z_get (k := 10) (j := 5) hM hI hk0 rfl rfl hinX8 rfl (by decide) (by decide +kernel) (fun _ h9 => h9) dX8_request_90 (fun v16 hv17 => ?_)
        obtain ⟨hg19, i18, rfl, hr20⟩ := hv17
        refine lv_iload_n hx hb dX8_request_93 rfl (lv_at hl 1 rfl) ?_
        refine lv_iload_n hx hb dX8_request_94 rfl (lv_at hl 2 rfl) ?_
        refine z_cv hI (va_runV (As := [.int p1, .int p2]) (rest := []) ⟨hx, hb, hml, hown, hts⟩ (c_X5_take l _ _ _ _ _ _ _ i18 hr20 p1 p2 (w_rng (Classical.not_not.mp (fun h => c6 (hw5.mpr h))) (by decide))) (cwV 2 hts gX8_request_X5_take rfl rfl rfl (by decide +kernel) ⟨Nat.le_of_ble_eq_true rfl, Nat.le_of_ble_eq_true rfl⟩) (z_preV hK hE hI [] rfl rfl (z_recv hK hI hr20 rfl rfl)) rfl rfl hl.1 rfl (lv_room (Nat.le_of_ble_eq_true rfl)) dX8_request_95 ⟨Nat.le_of_ble_eq_true rfl, Nat.le_of_ble_eq_true rfl⟩) (fun u H locs hw22 hI => ?_)
        obtain rfl := hw22
        refine lv_aload_n hx hb dX8_request_98 rfl (lv_at hl 0 rfl) ?_
        refine z_get (k := 10) (j := 5) hM hI hk0 rfl rfl hinX8 rfl (by decide) (by decide +kernel) (fun _ h9 => h9) dX8_request_99 (fun v23 hv24 => ?_)
        obtain ⟨hg26, i25, rfl, hr27⟩ := hv24
        refine z_get (k := 7) (j := 0) hM hI hr27 rfl rfl hinX5 rfl (by decide) (by decide +kernel) (fun _ h9 => h9) dX8_request_102 (fun v28 hv29 => ?_)
        obtain ⟨i30, rfl⟩ := hv29
        refine vx_ret ?_
        refine W.widen (k := 1) (n := 6) (Nat.le_of_ble_eq_true rfl) (Nat.le_of_ble_eq_true rfl) ?_
        exact W.iret (v := i30) hx hb hr (fun t ht hW => ⟨⟨_, (L, κ, g), rfl, rfl, z_end hK hI ht hW⟩, z_F hI ht⟩) (z_locs hI) dX8_request_105
      · skip
        refine lv_aload_n hx hb dX8_request_70 rfl (lv_at hl 0 rfl) ?_
        refine z_get (k := 10) (j := 5) hM hI hk0 rfl rfl hinX8 rfl (by decide) (by decide +kernel) (fun _ h9 => h9) dX8_request_71 (fun v31 hv32 => ?_)
        obtain ⟨hg34, i33, rfl, hr35⟩ := hv32
        refine lv_bipush (v := 115) hx hb dX8_request_74 (by decide) ?_
        refine z_put (g' := g) (k := 7) (j := 6) hM hI hr35 rfl rfl hinX5 tyX5 tyX5_ok nmX5 rfl (by decide) (by decide +kernel) (fun _ h9 => h9) rfl rfl (by decide) (by decide) ⟨_, rfl, by decide⟩ (fun _ _ _ => rfl) dX8_request_76 (fun H locs hI => ?_)
        refine z_throw (ik := 115) (is := 241) (ic := 119) (cls := "java/lang/UnsupportedOperationException") (text := "stale") (L0 := L) ["java/lang/RuntimeException", "java/lang/Exception"] (by decide) hM hE hI hnt (by decide) (by decide +kernel) (by decide +kernel) (by decide +kernel) (by decide +kernel) (by decide +kernel) (by decide +kernel) (hl.1.trans hml.symm) dX8_request_79 dX8_request_82 dX8_request_83 dX8_request_85 dX8_request_88 hout (Nat.le_of_ble_eq_true rfl) (Nat.le_of_ble_eq_true rfl) (Nat.le_of_ble_eq_true rfl) (Nat.le_of_ble_eq_true rfl) hlocks ⟨by first | exact Or.inl rfl | exact Or.inr rfl, rfl⟩ (Nat.le_of_ble_eq_true rfl) (Nat.le_of_ble_eq_true rfl)
    · skip
      refine lv_aload_n hx hb dX8_request_40 rfl (lv_at hl 0 rfl) ?_
      refine z_get (k := 10) (j := 5) hM hI hk0 rfl rfl hinX8 rfl (by decide) (by decide +kernel) (fun _ h9 => h9) dX8_request_41 (fun v36 hv37 => ?_)
      obtain ⟨hg39, i38, rfl, hr40⟩ := hv37
      refine lv_bipush (v := 118) hx hb dX8_request_44 (by decide) ?_
      refine z_put (g' := g) (k := 7) (j := 6) hM hI hr40 rfl rfl hinX5 tyX5 tyX5_ok nmX5 rfl (by decide) (by decide +kernel) (fun _ h9 => h9) rfl rfl (by decide) (by decide) ⟨_, rfl, by decide⟩ (fun _ _ _ => rfl) dX8_request_46 (fun H locs hI => ?_)
      refine z_throw (ik := 71) (is := 125) (ic := 75) (cls := "java/lang/IllegalArgumentException") (text := "the speed is out of range") (L0 := L) ["java/lang/RuntimeException", "java/lang/Exception"] (by decide) hM hE hI hnt (by decide) (by decide +kernel) (by decide +kernel) (by decide +kernel) (by decide +kernel) (by decide +kernel) (by decide +kernel) (hl.1.trans hml.symm) dX8_request_49 dX8_request_52 dX8_request_53 dX8_request_55 dX8_request_58 hout (Nat.le_of_ble_eq_true rfl) (Nat.le_of_ble_eq_true rfl) (Nat.le_of_ble_eq_true rfl) (Nat.le_of_ble_eq_true rfl) hlocks ⟨by first | exact Or.inl rfl | exact Or.inr rfl, rfl⟩ (Nat.le_of_ble_eq_true rfl) (Nat.le_of_ble_eq_true rfl)
  · skip
    refine lv_aload_n hx hb dX8_request_11 rfl (lv_at hl 0 rfl) ?_
    refine z_get (k := 10) (j := 5) hM hI hk0 rfl rfl hinX8 rfl (by decide) (by decide +kernel) (fun _ h9 => h9) dX8_request_12 (fun v41 hv42 => ?_)
    obtain ⟨hg44, i43, rfl, hr45⟩ := hv42
    refine lv_bipush (v := 110) hx hb dX8_request_15 (by decide) ?_
    refine z_put (g' := g) (k := 7) (j := 6) hM hI hr45 rfl rfl hinX5 tyX5 tyX5_ok nmX5 rfl (by decide) (by decide +kernel) (fun _ h9 => h9) rfl rfl (by decide) (by decide) ⟨_, rfl, by decide⟩ (fun _ _ _ => rfl) dX8_request_17 (fun H locs hI => ?_)
    refine z_throw (ik := 71) (is := 95) (ic := 75) (cls := "java/lang/IllegalArgumentException") (text := "a number out of range") (L0 := L) ["java/lang/RuntimeException", "java/lang/Exception"] (by decide) hM hE hI hnt (by decide) (by decide +kernel) (by decide +kernel) (by decide +kernel) (by decide +kernel) (by decide +kernel) (by decide +kernel) (hl.1.trans hml.symm) dX8_request_20 dX8_request_23 dX8_request_24 dX8_request_26 dX8_request_29 hout (Nat.le_of_ble_eq_true rfl) (Nat.le_of_ble_eq_true rfl) (Nat.le_of_ble_eq_true rfl) (Nat.le_of_ble_eq_true rfl) hlocks ⟨by first | exact Or.inl rfl | exact Or.inr rfl, rfl⟩ (Nat.le_of_ble_eq_true rfl) (Nat.le_of_ble_eq_true rfl)

set_option maxHeartbeats 4000000 in
set_option maxRecDepth 100000 in
theorem c_X8_move (l : Launch) (hnt : l.stackTraces = false) (D : va_G) (tc : Nat → ClassId) (z0 : Nat) (L : List Nat) (κ : Nat → Nat) (g : Nat → Nat → Value) (sz : Nat) (p0 : Nat) (hk0 : κ p0 = 10) (p1 : Int32) (p2 : Int32) (aT : Nat) (hT : g p0 2 = .ref aT) (aC : Nat) (hC : g p0 1 = .ref aC) : vx_Met l yX8_move wsX8_move ({ frames := 7, cells := 3, slots := 18, locals := 120 }) (zPc D tc z0 [.ref p0, .int p1, .int p2] [] (L, κ, g) sz) (va_Qi (fun (r : Int32) (u : zS) => u = (L, κ, g)) (fun (u : zS) (t : State) => zB D tc (zA [] L sz) [] u t) (zA [] L sz)) (vx_X (fun u : zS => True) (fun (E : String) (u : zS) (t : State) => (((E = "java/lang/IndexOutOfBoundsException" ∧ (¬ zHas g aT 8 p1 ∨ ¬ zHas g aC 6 p2)) ∨ E = "java/lang/UnsupportedOperationException") ∧ u = (L, κ, g)) ∧ zB D tc (zA [] L sz) [] u t) (zA [] L sz)) 3 18 (zA [] L sz) := by
  refine vx_ofW (cc := cX8_move) (maxL := 5) (ret := (some .int)) (by decide) rfl ?_
  intro p e s m args below meth c s₁ B hml hxt hv
  obtain ⟨rfl, rfl, hK, hE, hI⟩ := hv.opn
  have hx := B.exec
  have hb := B.bytes
  have hr := B.returns
  have hts := atoms_spec (ws := wsX8_move) B.pre
  have hown : s.vm.findClass RX8 = some m.cls := findClass_of_methodNamed B.named
  have hlocks := B.notSynchronized
  have hout : ∀ (i : Nat), ∀ x ∈ c.exceptionTable.toList, covers x i = false := fun i x hx9 => (hxt x hx9).elim
  have hM : zM p s m c cX8_move _ wsX8_move RX8 D tc := ⟨hx, hb, hts, hown, hK⟩
  have hinX7 : ∀ w ∈ wsX70, w ∈ wsX8_move := by decide +kernel
  have hl := lv_entry ([.ref p0, .int p1, .int p2]) (n := 5) (Nat.le_of_ble_eq_true rfl)
  rw [lg_entry_eq]
  generalize (lg_sl ([.ref p0, .int p1, .int p2]) ++ List.replicate (5 - (lg_sl ([.ref p0, .int p1, .int p2])).length) Slot.unset).toArray = ls at hl ⊢
  have hl : lv_has ls 5 [(0, .ref p0), (1, .int p1), (2, .int p2)] := hl
  refine lv_aload_n hx hb dX8_move_0 rfl (lv_at hl 0 rfl) ?_
  refine lv_iload_n hx hb dX8_move_1 rfl (lv_at hl 1 rfl) ?_
  refine z_xq hI (vx_runV (As := [.int p1]) (rest := []) ⟨hx, hb, hml, hown, hts⟩ (c_X8_taskAt l hnt _ _ _ _ _ _ _ p0 hk0 p1 aT hT) (cwV 1 hts gX8_move_X8_taskAt rfl rfl rfl (by decide +kernel) ⟨Nat.le_of_ble_eq_true rfl, Nat.le_of_ble_eq_true rfl⟩) (z_preV hK hE hI [] rfl rfl (z_recv hK hI hk0 rfl rfl)) rfl rfl hl.1 rfl (lv_room (Nat.le_of_ble_eq_true rfl)) dX8_move_2 ⟨Nat.le_of_ble_eq_true rfl, Nat.le_of_ble_eq_true rfl⟩) (fun E ce q9 u H locs hw hI he1 he2 he3 => ?_) (fun v1 u H locs hw2 hI => ?_)
  · obtain ⟨hxp, rfl⟩ := hw
    exact z_pass hK hI hout hlocks he1 he2 he3 ⟨Or.inl ⟨hxp.1, Or.inl hxp.2⟩, rfl⟩ (Nat.le_of_ble_eq_true rfl) (Nat.le_of_ble_eq_true rfl)
  obtain ⟨r3, rfl, hr4, hq5, rfl⟩ := hw2
  show W p l e (headSpec wsX8_move ({ frames := 7, cells := 3, slots := 18, locals := 120 })).room s m ([.ref p0, .int p1, .int p2] : List Value).toArray below meth c _ _ 1 6 (vx_MQ below (va_Qi (fun (r : Int32) (u : zS) => u = (L, κ, g)) (fun (u : zS) (t : State) => zB D tc (zA [] L s.heap.size) [] u t) (zA [] L s.heap.size)) (vx_X (fun u : zS => True) (fun (E : String) (u : zS) (t : State) => (((E = "java/lang/IndexOutOfBoundsException" ∧ (¬ zHas g aT 8 p1 ∨ ¬ zHas g aC 6 p2)) ∨ E = "java/lang/UnsupportedOperationException") ∧ u = (L, κ, g)) ∧ zB D tc (zA [] L s.heap.size) [] u t) (zA [] L s.heap.size)) ([.ref p0, .int p1, .int p2] : List Value).toArray s 3 18 (zA [] L s.heap.size)) (F0 m 5 ls (.ref r3 :: []))
  refine lv_astore_n (lv' := [(3, .ref r3), (0, .ref p0), (1, .int p1), (2, .int p2)]) hx hb dX8_move_5 rfl hl (by decide) rfl (fun ls hl => ?_)
  refine lv_aload_n hx hb dX8_move_6 rfl (lv_at hl 1 rfl) ?_
  refine lv_iload_n hx hb dX8_move_7 rfl (lv_at hl 3 rfl) ?_
  refine z_xq hI (vx_runV (As := [.int p2]) (rest := []) ⟨hx, hb, hml, hown, hts⟩ (c_X8_coreAt l hnt _ _ _ _ _ _ _ p0 hk0 p2 aC hC) (cwV 1 hts gX8_move_X8_coreAt rfl rfl rfl (by decide +kernel) ⟨Nat.le_of_ble_eq_true rfl, Nat.le_of_ble_eq_true rfl⟩) (z_preV hK hE hI [] rfl rfl (z_recv hK hI hk0 rfl rfl)) rfl rfl hl.1 rfl (lv_room (Nat.le_of_ble_eq_true rfl)) dX8_move_8 ⟨Nat.le_of_ble_eq_true rfl, Nat.le_of_ble_eq_true rfl⟩) (fun E ce q9 u H locs hw hI he1 he2 he3 => ?_) (fun v6 u H locs hw7 hI => ?_)
  · obtain ⟨hxp, rfl⟩ := hw
    exact z_pass hK hI hout hlocks he1 he2 he3 ⟨Or.inl ⟨hxp.1, Or.inr hxp.2⟩, rfl⟩ (Nat.le_of_ble_eq_true rfl) (Nat.le_of_ble_eq_true rfl)
  obtain ⟨r8, rfl, hr9, hq10, rfl⟩ := hw7
  show W p l e (headSpec wsX8_move ({ frames := 7, cells := 3, slots := 18, locals := 120 })).room s m ([.ref p0, .int p1, .int p2] : List Value).toArray below meth c _ _ 2 12 (vx_MQ below (va_Qi (fun (r : Int32) (u : zS) => u = (L, κ, g)) (fun (u : zS) (t : State) => zB D tc (zA [] L s.heap.size) [] u t) (zA [] L s.heap.size)) (vx_X (fun u : zS => True) (fun (E : String) (u : zS) (t : State) => (((E = "java/lang/IndexOutOfBoundsException" ∧ (¬ zHas g aT 8 p1 ∨ ¬ zHas g aC 6 p2)) ∨ E = "java/lang/UnsupportedOperationException") ∧ u = (L, κ, g)) ∧ zB D tc (zA [] L s.heap.size) [] u t) (zA [] L s.heap.size)) ([.ref p0, .int p1, .int p2] : List Value).toArray s 3 18 (zA [] L s.heap.size)) (F0 m 11 ls (.ref r8 :: []))
  refine lv_pop hx hb dX8_move_11 rfl ?_
  refine lv_aload_n hx hb dX8_move_12 rfl (lv_at hl 0 rfl) ?_
  refine z_get (k := 9) (j := 1) hM hI hr4 rfl rfl hinX7 rfl (by decide) (by decide +kernel) (fun _ h9 => h9) dX8_move_13 (fun v11 hv12 => ?_)
  obtain ⟨i13, rfl⟩ := hv12
  refine lv_iload_n hx hb dX8_move_16 rfl (lv_at hl 3 rfl) ?_
  refine lv_icmp_ne (tgt := 30) hx hb dX8_move_17 (by decide) (fun c14 => ?_) (fun c14 => ?_)
  · skip
    refine lv_aload_n hx hb dX8_move_30 rfl (lv_at hl 0 rfl) ?_
    refine z_get (k := 9) (j := 1) hM hI hr4 rfl rfl hinX7 rfl (by decide) (by decide +kernel) (fun _ h9 => h9) dX8_move_31 (fun v15 hv16 => ?_)
    obtain ⟨i17, rfl⟩ := hv16
    refine lv_istore (lv' := [(4, .int i17), (3, .ref r3), (0, .ref p0), (1, .int p1), (2, .int p2)]) hx hb dX8_move_34 hl (by decide) rfl (fun ls hl => ?_)
    refine lv_aload_n hx hb dX8_move_36 rfl (lv_at hl 1 rfl) ?_
    refine lv_iload_n hx hb dX8_move_37 rfl (lv_at hl 4 rfl) ?_
    refine z_put (g' := g) (k := 9) (j := 1) hM hI hr4 rfl rfl hinX7 tyX7 tyX7_ok nmX7 rfl (by decide) (by decide +kernel) (fun _ h9 => h9) rfl rfl rfl rfl ⟨_, rfl⟩ (fun _ _ _ => rfl) dX8_move_38 (fun H locs hI => ?_)
    refine lv_aload_n hx hb dX8_move_41 rfl (lv_at hl 1 rfl) ?_
    refine lv_iconst (v := 5) hx hb dX8_move_42 (by decide) ?_
    refine z_put (g' := g) (k := 9) (j := 3) hM hI hr4 rfl rfl hinX7 tyX7 tyX7_ok nmX7 rfl (by decide) (by decide +kernel) (fun _ h9 => h9) rfl rfl rfl rfl ⟨_, rfl⟩ (fun _ _ _ => rfl) dX8_move_43 (fun H locs hI => ?_)
    refine lv_iload hx hb dX8_move_46 (lv_at hl 0 rfl) ?_
    refine vx_ret ?_
    refine W.widen (k := 3) (n := 18) (Nat.le_of_ble_eq_true rfl) (Nat.le_of_ble_eq_true rfl) ?_
    exact W.iret (v := i17) hx hb hr (fun t ht hW => ⟨⟨_, (L, κ, g), rfl, rfl, z_end hK hI ht hW⟩, z_F hI ht⟩) (z_locs hI) dX8_move_48
  · skip
    refine z_throw (ik := 115) (is := 117) (ic := 119) (cls := "java/lang/UnsupportedOperationException") (text := "it is there") (L0 := L) ["java/lang/RuntimeException", "java/lang/Exception"] (by decide) hM hE hI hnt (by decide) (by decide +kernel) (by decide +kernel) (by decide +kernel) (by decide +kernel) (by decide +kernel) (by decide +kernel) (hl.1.trans hml.symm) dX8_move_20 dX8_move_23 dX8_move_24 dX8_move_26 dX8_move_29 hout (Nat.le_of_ble_eq_true rfl) (Nat.le_of_ble_eq_true rfl) (Nat.le_of_ble_eq_true rfl) (Nat.le_of_ble_eq_true rfl) hlocks ⟨Or.inr rfl, rfl⟩ (Nat.le_of_ble_eq_true rfl) (Nat.le_of_ble_eq_true rfl)

