set_option maxHeartbeats 4000000 in
set_option maxRecDepth 100000 in
theorem c_X1_gain (l : Launch) (D : va_G) (tc : Nat → ClassId) (z0 : Nat) (L : List Nat) (κ : Nat → Nat) (g : Nat → Nat → Value) (sz : Nat) (p0 : Nat) (hk0 : κ p0 = 3) (p1 : Nat) (hk1 : κ p1 = 2) : Met l yX1_gain wsX1_gain ({ frames := 3, cells := 0, slots := 0, locals := 68 }) (zPc D tc z0 [.ref p0, .ref p1] [] (L, κ, g) sz) (va_Qv (fun (u : zS) => u = (L, κ, g)) (fun (u : zS) (t : State) => zB D tc (zA [] L sz) [] u t) (zA [] L sz)) 0 0 (zA [] L sz) := by
  refine Met.ofW (cc := cX1_gain) (maxL := 2) (ret := none) (by decide) rfl ?_
  intro p e s m args below meth c s₁ B hml hv
  obtain ⟨rfl, rfl, hK, hE, hI⟩ := hv.opn
  have hx := B.exec
  have hb := B.bytes
  have hr := B.returns
  have hts := atoms_spec (ws := wsX1_gain) B.pre
  have hown : s.vm.findClass RX1 = some m.cls := findClass_of_methodNamed B.named
  have hlocks := B.notSynchronized
  have hM : zM p s m c cX1_gain _ wsX1_gain RX1 D tc := ⟨hx, hb, hts, hown, hK⟩
  have hinX1 : ∀ w ∈ wsX10, w ∈ wsX1_gain := by decide +kernel
  have hl := lv_entry ([.ref p0, .ref p1]) (n := 2) (Nat.le_of_ble_eq_true rfl)
  rw [lg_entry_eq]
  generalize (lg_sl ([.ref p0, .ref p1]) ++ List.replicate (2 - (lg_sl ([.ref p0, .ref p1])).length) Slot.unset).toArray = ls at hl ⊢
  have hl : lv_has ls 2 [(0, .ref p0), (1, .ref p1)] := hl
  refine lv_aload_n hx hb dX1_gain_0 rfl (lv_at hl 0 rfl) ?_
  refine z_get (k := 3) (j := 1) hM hI hk0 rfl rfl hinX1 rfl (by decide) (by decide +kernel) (fun _ h9 => h9) dX1_gain_1 (fun v1 hv2 => ?_)
  obtain ⟨i3, rfl, hr4⟩ := hv2
  refine lv_aload_n hx hb dX1_gain_4 rfl (lv_at hl 1 rfl) ?_
  refine z_cv hI (va_runV (As := [.ref p1]) (rest := []) ⟨hx, hb, hml, hown, hts⟩ (c_X0_add l _ _ _ _ _ _ _ i3 hr4 p1 hk1) (cwV 1 hts gX1_gain_X0_add rfl rfl rfl (by decide +kernel) ⟨Nat.le_of_ble_eq_true rfl, Nat.le_of_ble_eq_true rfl⟩) (z_preV hK hE hI [] rfl rfl (z_recv hK hI hr4 rfl rfl)) rfl rfl hl.1 rfl (lv_room (Nat.le_of_ble_eq_true rfl)) dX1_gain_5 ⟨Nat.le_of_ble_eq_true rfl, Nat.le_of_ble_eq_true rfl⟩) (fun u H locs hw6 hI => ?_)
  obtain rfl := hw6
  refine lv_aload_n hx hb dX1_gain_8 rfl (lv_at hl 0 rfl) ?_
  refine z_get (k := 3) (j := 2) hM hI hk0 rfl rfl hinX1 rfl (by decide) (by decide +kernel) (fun _ h9 => h9) dX1_gain_9 (fun v7 hv8 => ?_)
  obtain ⟨i9, rfl, hr10⟩ := hv8
  refine lv_aload_n hx hb dX1_gain_12 rfl (lv_at hl 0 rfl) ?_
  refine z_get (k := 3) (j := 1) hM hI hk0 rfl rfl hinX1 rfl (by decide) (by decide +kernel) (fun _ h9 => h9) dX1_gain_13 (fun v11 hv12 => ?_)
  obtain ⟨i13, rfl, hr14⟩ := hv12
  refine lv_aload_n hx hb dX1_gain_16 rfl (lv_at hl 0 rfl) ?_
  refine z_get (k := 3) (j := 0) hM hI hk0 rfl rfl hinX1 rfl (by decide) (by decide +kernel) (fun _ h9 => h9) dX1_gain_17 (fun v15 hv16 => ?_)
  obtain ⟨i17, rfl⟩ := hv16
  refine z_cv hI (va_runV (As := [.ref i13, .int i17]) (rest := []) ⟨hx, hb, hml, hown, hts⟩ (c_X0_becomeQuotient l _ _ _ _ _ _ _ i9 hr10 i13 hr14 i17) (cwV 2 hts gX1_gain_X0_becomeQuotient rfl rfl rfl (by decide +kernel) ⟨Nat.le_of_ble_eq_true rfl, Nat.le_of_ble_eq_true rfl⟩) (z_preV hK hE hI [] rfl rfl (z_recv hK hI hr10 rfl rfl)) rfl rfl hl.1 rfl (lv_room (Nat.le_of_ble_eq_true rfl)) dX1_gain_20 ⟨Nat.le_of_ble_eq_true rfl, Nat.le_of_ble_eq_true rfl⟩) (fun u H locs hw19 hI => ?_)
  obtain rfl := hw19
  exact W.vret hx hb hr (fun t ht hW => ⟨⟨(L, κ, g), rfl, rfl, z_end hK hI ht hW⟩, z_F hI ht⟩) (z_locs hI) dX1_gain_23

set_option maxHeartbeats 4000000 in
set_option maxRecDepth 100000 in
theorem c_X1_giveAway (l : Launch) (D : va_G) (tc : Nat → ClassId) (z0 : Nat) (L : List Nat) (κ : Nat → Nat) (g : Nat → Nat → Value) (sz : Nat) (p0 : Nat) (hk0 : κ p0 = 3) (p1 : Nat) (hk1 : κ p1 = 2) : Met l yX1_giveAway wsX1_giveAway ({ frames := 3, cells := 0, slots := 0, locals := 68 }) (zPc D tc z0 [.ref p0, .ref p1] [] (L, κ, g) sz) (va_Qv (fun (u : zS) => u = (L, κ, g)) (fun (u : zS) (t : State) => zB D tc (zA [] L sz) [] u t) (zA [] L sz)) 0 0 (zA [] L sz) := by
  refine Met.ofW (cc := cX1_giveAway) (maxL := 2) (ret := none) (by decide) rfl ?_
  intro p e s m args below meth c s₁ B hml hv
  obtain ⟨rfl, rfl, hK, hE, hI⟩ := hv.opn
  have hx := B.exec
  have hb := B.bytes
  have hr := B.returns
  have hts := atoms_spec (ws := wsX1_giveAway) B.pre
  have hown : s.vm.findClass RX1 = some m.cls := findClass_of_methodNamed B.named
  have hlocks := B.notSynchronized
  have hM : zM p s m c cX1_giveAway _ wsX1_giveAway RX1 D tc := ⟨hx, hb, hts, hown, hK⟩
  have hinX1 : ∀ w ∈ wsX10, w ∈ wsX1_giveAway := by decide +kernel
  have hl := lv_entry ([.ref p0, .ref p1]) (n := 2) (Nat.le_of_ble_eq_true rfl)
  rw [lg_entry_eq]
  generalize (lg_sl ([.ref p0, .ref p1]) ++ List.replicate (2 - (lg_sl ([.ref p0, .ref p1])).length) Slot.unset).toArray = ls at hl ⊢
  have hl : lv_has ls 2 [(0, .ref p0), (1, .ref p1)] := hl
  refine lv_aload_n hx hb dX1_giveAway_0 rfl (lv_at hl 0 rfl) ?_
  refine z_get (k := 3) (j := 1) hM hI hk0 rfl rfl hinX1 rfl (by decide) (by decide +kernel) (fun _ h9 => h9) dX1_giveAway_1 (fun v1 hv2 => ?_)
  obtain ⟨i3, rfl, hr4⟩ := hv2
  refine lv_aload_n hx hb dX1_giveAway_4 rfl (lv_at hl 1 rfl) ?_
  refine z_cv hI (va_runV (As := [.ref p1]) (rest := []) ⟨hx, hb, hml, hown, hts⟩ (c_X0_takeAway l _ _ _ _ _ _ _ i3 hr4 p1 hk1) (cwV 1 hts gX1_giveAway_X0_takeAway rfl rfl rfl (by decide +kernel) ⟨Nat.le_of_ble_eq_true rfl, Nat.le_of_ble_eq_true rfl⟩) (z_preV hK hE hI [] rfl rfl (z_recv hK hI hr4 rfl rfl)) rfl rfl hl.1 rfl (lv_room (Nat.le_of_ble_eq_true rfl)) dX1_giveAway_5 ⟨Nat.le_of_ble_eq_true rfl, Nat.le_of_ble_eq_true rfl⟩) (fun u H locs hw6 hI => ?_)
  obtain rfl := hw6
  refine lv_aload_n hx hb dX1_giveAway_8 rfl (lv_at hl 0 rfl) ?_
  refine z_get (k := 3) (j := 2) hM hI hk0 rfl rfl hinX1 rfl (by decide) (by decide +kernel) (fun _ h9 => h9) dX1_giveAway_9 (fun v7 hv8 => ?_)
  obtain ⟨i9, rfl, hr10⟩ := hv8
  refine lv_aload_n hx hb dX1_giveAway_12 rfl (lv_at hl 0 rfl) ?_
  refine z_get (k := 3) (j := 1) hM hI hk0 rfl rfl hinX1 rfl (by decide) (by decide +kernel) (fun _ h9 => h9) dX1_giveAway_13 (fun v11 hv12 => ?_)
  obtain ⟨i13, rfl, hr14⟩ := hv12
  refine lv_aload_n hx hb dX1_giveAway_16 rfl (lv_at hl 0 rfl) ?_
  refine z_get (k := 3) (j := 0) hM hI hk0 rfl rfl hinX1 rfl (by decide) (by decide +kernel) (fun _ h9 => h9) dX1_giveAway_17 (fun v15 hv16 => ?_)
  obtain ⟨i17, rfl⟩ := hv16
  refine z_cv hI (va_runV (As := [.ref i13, .int i17]) (rest := []) ⟨hx, hb, hml, hown, hts⟩ (c_X0_becomeQuotient l _ _ _ _ _ _ _ i9 hr10 i13 hr14 i17) (cwV 2 hts gX1_giveAway_X0_becomeQuotient rfl rfl rfl (by decide +kernel) ⟨Nat.le_of_ble_eq_true rfl, Nat.le_of_ble_eq_true rfl⟩) (z_preV hK hE hI [] rfl rfl (z_recv hK hI hr10 rfl rfl)) rfl rfl hl.1 rfl (lv_room (Nat.le_of_ble_eq_true rfl)) dX1_giveAway_20 ⟨Nat.le_of_ble_eq_true rfl, Nat.le_of_ble_eq_true rfl⟩) (fun u H locs hw19 hI => ?_)
  obtain rfl := hw19
  exact W.vret hx hb hr (fun t ht hW => ⟨⟨(L, κ, g), rfl, rfl, z_end hK hI ht hW⟩, z_F hI ht⟩) (z_locs hI) dX1_giveAway_23

set_option maxHeartbeats 4000000 in
set_option maxRecDepth 100000 in
theorem c_X2_giveToAir (l : Launch) (D : va_G) (tc : Nat → ClassId) (z0 : Nat) (L : List Nat) (κ : Nat → Nat) (g : Nat → Nat → Value) (sz : Nat) (p0 : Nat) (hk0 : κ p0 = 4) (p1 : Nat) (hk1 : κ p1 = 2) : Met l yX2_giveToAir wsX2_giveToAir ({ frames := 4, cells := 0, slots := 0, locals := 89 }) (zPc D tc z0 [.ref p0, .ref p1] [] (L, κ, g) sz) (va_Qv (fun (u : zS) => u = (L, κ, g)) (fun (u : zS) (t : State) => zB D tc (zA [] L sz) [] u t) (zA [] L sz)) 0 0 (zA [] L sz) := by
  refine Met.ofW (cc := cX2_giveToAir) (maxL := 2) (ret := none) (by decide) rfl ?_
  intro p e s m args below meth c s₁ B hml hv
  obtain ⟨rfl, rfl, hK, hE, hI⟩ := hv.opn
  have hx := B.exec
  have hb := B.bytes
  have hr := B.returns
  have hts := atoms_spec (ws := wsX2_giveToAir) B.pre
  have hown : s.vm.findClass RX2 = some m.cls := findClass_of_methodNamed B.named
  have hlocks := B.notSynchronized
  have hM : zM p s m c cX2_giveToAir _ wsX2_giveToAir RX2 D tc := ⟨hx, hb, hts, hown, hK⟩
  have hinX2 : ∀ w ∈ wsX20, w ∈ wsX2_giveToAir := by decide +kernel
  have hinX1 : ∀ w ∈ wsX10, w ∈ wsX2_giveToAir := by decide +kernel
  have hl := lv_entry ([.ref p0, .ref p1]) (n := 2) (Nat.le_of_ble_eq_true rfl)
  rw [lg_entry_eq]
  generalize (lg_sl ([.ref p0, .ref p1]) ++ List.replicate (2 - (lg_sl ([.ref p0, .ref p1])).length) Slot.unset).toArray = ls at hl ⊢
  have hl : lv_has ls 2 [(0, .ref p0), (1, .ref p1)] := hl
  refine lv_aload_n hx hb dX2_giveToAir_0 rfl (lv_at hl 1 rfl) ?_
  refine lv_aload_n hx hb dX2_giveToAir_1 rfl (lv_at hl 0 rfl) ?_
  refine z_get (k := 4) (j := 0) hM hI hk0 rfl rfl hinX2 rfl (by decide) (by decide +kernel) (fun _ h9 => h9) dX2_giveToAir_2 (fun v1 hv2 => ?_)
  obtain ⟨i3, rfl, hr4⟩ := hv2
  refine z_get (k := 3) (j := 2) hM hI hr4 rfl rfl hinX1 rfl (by decide) (by decide +kernel) (fun _ h9 => h9) dX2_giveToAir_5 (fun v5 hv6 => ?_)
  obtain ⟨i7, rfl, hr8⟩ := hv6
  refine z_cv hI (va_runV (As := [.ref i7]) (rest := []) ⟨hx, hb, hml, hown, hts⟩ (c_X0_becomeSame l _ _ _ _ _ _ _ p1 hk1 i7 hr8) (cwV 1 hts gX2_giveToAir_X0_becomeSame rfl rfl rfl (by decide +kernel) ⟨Nat.le_of_ble_eq_true rfl, Nat.le_of_ble_eq_true rfl⟩) (z_preV hK hE hI [] rfl rfl (z_recv hK hI hk1 rfl rfl)) rfl rfl hl.1 rfl (lv_room (Nat.le_of_ble_eq_true rfl)) dX2_giveToAir_8 ⟨Nat.le_of_ble_eq_true rfl, Nat.le_of_ble_eq_true rfl⟩) (fun u H locs hw10 hI => ?_)
  obtain rfl := hw10
  refine lv_aload_n hx hb dX2_giveToAir_11 rfl (lv_at hl 1 rfl) ?_
  refine lv_aload_n hx hb dX2_giveToAir_12 rfl (lv_at hl 0 rfl) ?_
  refine z_get (k := 4) (j := 1) hM hI hk0 rfl rfl hinX2 rfl (by decide) (by decide +kernel) (fun _ h9 => h9) dX2_giveToAir_13 (fun v11 hv12 => ?_)
  obtain ⟨i13, rfl, hr14⟩ := hv12
  refine z_cv hI (va_runV (As := [.ref i13]) (rest := []) ⟨hx, hb, hml, hown, hts⟩ (c_X0_takeAway l _ _ _ _ _ _ _ p1 hk1 i13 hr14) (cwV 1 hts gX2_giveToAir_X0_takeAway rfl rfl rfl (by decide +kernel) ⟨Nat.le_of_ble_eq_true rfl, Nat.le_of_ble_eq_true rfl⟩) (z_preV hK hE hI [] rfl rfl (z_recv hK hI hk1 rfl rfl)) rfl rfl hl.1 rfl (lv_room (Nat.le_of_ble_eq_true rfl)) dX2_giveToAir_16 ⟨Nat.le_of_ble_eq_true rfl, Nat.le_of_ble_eq_true rfl⟩) (fun u H locs hw16 hI => ?_)
  obtain rfl := hw16
  refine lv_aload_n hx hb dX2_giveToAir_19 rfl (lv_at hl 1 rfl) ?_
  refine lv_aload_n hx hb dX2_giveToAir_20 rfl (lv_at hl 1 rfl) ?_
  refine lv_aload_n hx hb dX2_giveToAir_21 rfl (lv_at hl 0 rfl) ?_
  refine z_get (k := 4) (j := 3) hM hI hk0 rfl rfl hinX2 rfl (by decide) (by decide +kernel) (fun _ h9 => h9) dX2_giveToAir_22 (fun v17 hv18 => ?_)
  obtain ⟨i19, rfl⟩ := hv18
  refine lv_iconst (v := 1) hx hb dX2_giveToAir_25 (by decide) ?_
  refine lv_iadd hx hb dX2_giveToAir_26 ?_
  refine lv_topi (fun v20 e21 => ?_)
  refine z_cv hI (va_runV (As := [.ref p1, .int v20]) (rest := []) ⟨hx, hb, hml, hown, hts⟩ (c_X0_becomeProduct l _ _ _ _ _ _ _ p1 hk1 p1 hk1 v20) (cwV 2 hts gX2_giveToAir_X0_becomeProduct rfl rfl rfl (by decide +kernel) ⟨Nat.le_of_ble_eq_true rfl, Nat.le_of_ble_eq_true rfl⟩) (z_preV hK hE hI [] rfl rfl (z_recv hK hI hk1 rfl rfl)) rfl rfl hl.1 rfl (lv_room (Nat.le_of_ble_eq_true rfl)) dX2_giveToAir_27 ⟨Nat.le_of_ble_eq_true rfl, Nat.le_of_ble_eq_true rfl⟩) (fun u H locs hw23 hI => ?_)
  obtain rfl := hw23
  refine lv_aload_n hx hb dX2_giveToAir_30 rfl (lv_at hl 1 rfl) ?_
  refine lv_aload_n hx hb dX2_giveToAir_31 rfl (lv_at hl 1 rfl) ?_
  refine lv_iconst (v := 2) hx hb dX2_giveToAir_32 (by decide) ?_
  refine z_cv hI (va_runV (As := [.ref p1, .int 2]) (rest := []) ⟨hx, hb, hml, hown, hts⟩ (c_X0_becomeQuotient l _ _ _ _ _ _ _ p1 hk1 p1 hk1 2) (cwV 2 hts gX2_giveToAir_X0_becomeQuotient rfl rfl rfl (by decide +kernel) ⟨Nat.le_of_ble_eq_true rfl, Nat.le_of_ble_eq_true rfl⟩) (z_preV hK hE hI [] rfl rfl (z_recv hK hI hk1 rfl rfl)) rfl rfl hl.1 rfl (lv_room (Nat.le_of_ble_eq_true rfl)) dX2_giveToAir_33 ⟨Nat.le_of_ble_eq_true rfl, Nat.le_of_ble_eq_true rfl⟩) (fun u H locs hw25 hI => ?_)
  obtain rfl := hw25
  refine lv_aload_n hx hb dX2_giveToAir_36 rfl (lv_at hl 0 rfl) ?_
  refine z_get (k := 4) (j := 0) hM hI hk0 rfl rfl hinX2 rfl (by decide) (by decide +kernel) (fun _ h9 => h9) dX2_giveToAir_37 (fun v26 hv27 => ?_)
  obtain ⟨i28, rfl, hr29⟩ := hv27
  refine lv_aload_n hx hb dX2_giveToAir_40 rfl (lv_at hl 1 rfl) ?_
  refine z_cv hI (va_runV (As := [.ref p1]) (rest := []) ⟨hx, hb, hml, hown, hts⟩ (c_X1_giveAway l _ _ _ _ _ _ _ i28 hr29 p1 hk1) (cwV 1 hts gX2_giveToAir_X1_giveAway rfl rfl rfl (by decide +kernel) ⟨Nat.le_of_ble_eq_true rfl, Nat.le_of_ble_eq_true rfl⟩) (z_preV hK hE hI [] rfl rfl (z_recv hK hI hr29 rfl rfl)) rfl rfl hl.1 rfl (lv_room (Nat.le_of_ble_eq_true rfl)) dX2_giveToAir_41 ⟨Nat.le_of_ble_eq_true rfl, Nat.le_of_ble_eq_true rfl⟩) (fun u H locs hw31 hI => ?_)
  obtain rfl := hw31
  refine lv_aload_n hx hb dX2_giveToAir_44 rfl (lv_at hl 0 rfl) ?_
  refine lv_dup hx hb dX2_giveToAir_45 rfl ?_
  refine z_get (k := 4) (j := 2) hM hI hk0 rfl rfl hinX2 rfl (by decide) (by decide +kernel) (fun _ h9 => h9) dX2_giveToAir_46 (fun v32 hv33 => ?_)
  obtain ⟨i34, rfl⟩ := hv33
  refine lv_aload_n hx hb dX2_giveToAir_49 rfl (lv_at hl 1 rfl) ?_
  refine vp_callSl (W.runV (As := []) (rest := [.long i34, .ref p0]) ⟨hx, hb, hml, hown, hts⟩ (c_X0_lowBits l _ _ _ _ _ _ _ p1 hk1) (cwV 0 hts gX2_giveToAir_X0_lowBits rfl rfl rfl (by decide +kernel) ⟨Nat.le_of_ble_eq_true rfl, Nat.le_of_ble_eq_true rfl⟩) (z_preV hK hE hI [] rfl rfl (z_recv hK hI hk1 rfl rfl)) rfl rfl hl.1 rfl (lv_room (Nat.le_of_ble_eq_true rfl)) dX2_giveToAir_50 ⟨Nat.le_of_ble_eq_true rfl, Nat.le_of_ble_eq_true rfl⟩) (fun v35 hw36 => ?_)
  refine lv_ladd hx hb dX2_giveToAir_53 ?_
  refine lv_topl (fun v37 e38 => ?_)
  refine z_put (g' := g) (k := 4) (j := 2) hM hI hk0 rfl rfl hinX2 tyX2 tyX2_ok nmX2 rfl (by decide) (by decide +kernel) (fun _ h9 => h9) rfl rfl rfl rfl ⟨_, rfl⟩ (fun _ _ _ => rfl) dX2_giveToAir_54 (fun H locs hI => ?_)
  exact W.vret hx hb hr (fun t ht hW => ⟨⟨(L, κ, g), rfl, rfl, z_end hK hI ht hW⟩, z_F hI ht⟩) (z_locs hI) dX2_giveToAir_57

set_option maxHeartbeats 4000000 in
set_option maxRecDepth 100000 in
theorem c_X2_stepFan (l : Launch) (D : va_G) (tc : Nat → ClassId) (z0 : Nat) (L : List Nat) (κ : Nat → Nat) (g : Nat → Nat → Value) (sz : Nat) (p0 : Nat) (hk0 : κ p0 = 4) : Met l yX2_stepFan wsX2_stepFan ({ frames := 1, cells := 0, slots := 0, locals := 21 }) (zPc D tc z0 [.ref p0] [] (L, κ, g) sz) (va_Qv (fun (u : zS) => u = (L, κ, g)) (fun (u : zS) (t : State) => zB D tc (zA [] L sz) [] u t) (zA [] L sz)) 0 0 (zA [] L sz) := by
  refine Met.ofW (cc := cX2_stepFan) (maxL := 2) (ret := none) (by decide) rfl ?_
  intro p e s m args below meth c s₁ B hml hv
  obtain ⟨rfl, rfl, hK, hE, hI⟩ := hv.opn
  have hx := B.exec
  have hb := B.bytes
  have hr := B.returns
  have hts := atoms_spec (ws := wsX2_stepFan) B.pre
  have hown : s.vm.findClass RX2 = some m.cls := findClass_of_methodNamed B.named
  have hlocks := B.notSynchronized
  have hM : zM p s m c cX2_stepFan _ wsX2_stepFan RX2 D tc := ⟨hx, hb, hts, hown, hK⟩
  have hinX2 : ∀ w ∈ wsX20, w ∈ wsX2_stepFan := by decide +kernel
  have hinX1 : ∀ w ∈ wsX10, w ∈ wsX2_stepFan := by decide +kernel
  have hl := lv_entry ([.ref p0]) (n := 2) (Nat.le_of_ble_eq_true rfl)
  rw [lg_entry_eq]
  generalize (lg_sl ([.ref p0]) ++ List.replicate (2 - (lg_sl ([.ref p0])).length) Slot.unset).toArray = ls at hl ⊢
  have hl : lv_has ls 2 [(0, .ref p0)] := hl
  refine lv_aload_n hx hb dX2_stepFan_0 rfl (lv_at hl 0 rfl) ?_
  refine z_get (k := 4) (j := 4) hM hI hk0 rfl rfl hinX2 rfl (by decide) (by decide +kernel) (fun _ h9 => h9) dX2_stepFan_1 (fun v1 hv2 => ?_)
  obtain ⟨hg4, i3, rfl, hz5⟩ := zv_tb hv2
  refine lv_if_eq (tgt := 8) hx hb dX2_stepFan_4 (by decide) (fun c6 => ?_) (fun c6 => ?_)
  · skip
    refine lv_aload_n hx hb dX2_stepFan_8 rfl (lv_at hl 0 rfl) ?_
    refine z_get (k := 4) (j := 0) hM hI hk0 rfl rfl hinX2 rfl (by decide) (by decide +kernel) (fun _ h9 => h9) dX2_stepFan_9 (fun v7 hv8 => ?_)
    obtain ⟨i9, rfl, hr10⟩ := hv8
    refine z_get (k := 3) (j := 2) hM hI hr10 rfl rfl hinX1 rfl (by decide) (by decide +kernel) (fun _ h9 => h9) dX2_stepFan_12 (fun v11 hv12 => ?_)
    obtain ⟨i13, rfl, hr14⟩ := hv12
    refine lv_bipush (v := 80) hx hb dX2_stepFan_15 (by decide) ?_
    refine vp_callSi (W.runV (As := [.int 80]) (rest := []) ⟨hx, hb, hml, hown, hts⟩ (c_X0_upTo l _ _ _ _ _ _ _ i13 hr14 80) (cwV 1 hts gX2_stepFan_X0_upTo rfl rfl rfl (by decide +kernel) ⟨Nat.le_of_ble_eq_true rfl, Nat.le_of_ble_eq_true rfl⟩) (z_preV hK hE hI [] rfl rfl (z_recv hK hI hr14 rfl rfl)) rfl rfl hl.1 rfl (lv_room (Nat.le_of_ble_eq_true rfl)) dX2_stepFan_17 ⟨Nat.le_of_ble_eq_true rfl, Nat.le_of_ble_eq_true rfl⟩) (fun v15 hw16 => ?_)
    refine lv_istore_n (lv' := [(1, .int v15), (0, .ref p0)]) hx hb dX2_stepFan_20 rfl hl (by decide) rfl (fun ls hl => ?_)
    refine lv_aload_n hx hb dX2_stepFan_21 rfl (lv_at hl 1 rfl) ?_
    refine z_get (k := 4) (j := 3) hM hI hk0 rfl rfl hinX2 rfl (by decide) (by decide +kernel) (fun _ h9 => h9) dX2_stepFan_22 (fun v17 hv18 => ?_)
    obtain ⟨i19, rfl⟩ := hv18
    refine lv_iconst (v := 3) hx hb dX2_stepFan_25 (by decide) ?_
    refine lv_icmp_ge (tgt := 56) hx hb dX2_stepFan_26 (by decide) (fun c20 => ?_) (fun c20 => ?_)
    · skip
      refine lv_aload_n hx hb dX2_stepFan_56 rfl (lv_at hl 1 rfl) ?_
      refine z_get (k := 4) (j := 3) hM hI hk0 rfl rfl hinX2 rfl (by decide) (by decide +kernel) (fun _ h9 => h9) dX2_stepFan_57 (fun v21 hv22 => ?_)
      obtain ⟨i23, rfl⟩ := hv22
      refine lv_if_le (tgt := 87) hx hb dX2_stepFan_60 (by decide) (fun c24 => ?_) (fun c24 => ?_)
      · skip
        exact W.vret hx hb hr (fun t ht hW => ⟨⟨(L, κ, g), rfl, rfl, z_end hK hI ht hW⟩, z_F hI ht⟩) (z_locs hI) dX2_stepFan_87
      · skip
        refine lv_iload_n hx hb dX2_stepFan_63 rfl (lv_at hl 0 rfl) ?_
        refine lv_bipush (v := 25) hx hb dX2_stepFan_64 (by decide) ?_
        refine lv_bipush (v := 10) hx hb dX2_stepFan_66 (by decide) ?_
        refine lv_aload_n hx hb dX2_stepFan_68 rfl (lv_at hl 1 rfl) ?_
        refine z_get (k := 4) (j := 3) hM hI hk0 rfl rfl hinX2 rfl (by decide) (by decide +kernel) (fun _ h9 => h9) dX2_stepFan_69 (fun v25 hv26 => ?_)
        obtain ⟨i27, rfl⟩ := hv26
        refine lv_imul hx hb dX2_stepFan_72 ?_
        refine lv_topi (fun v28 e29 => ?_)
        refine lv_iadd hx hb dX2_stepFan_73 ?_
        refine lv_topi (fun v30 e31 => ?_)
        refine lv_icmp_ge (tgt := 87) hx hb dX2_stepFan_74 (by decide) (fun c32 => ?_) (fun c32 => ?_)
        · skip
          exact W.vret hx hb hr (fun t ht hW => ⟨⟨(L, κ, g), rfl, rfl, z_end hK hI ht hW⟩, z_F hI ht⟩) (z_locs hI) dX2_stepFan_87
        · skip
          refine lv_aload_n hx hb dX2_stepFan_77 rfl (lv_at hl 1 rfl) ?_
          refine lv_dup hx hb dX2_stepFan_78 rfl ?_
          refine z_get (k := 4) (j := 3) hM hI hk0 rfl rfl hinX2 rfl (by decide) (by decide +kernel) (fun _ h9 => h9) dX2_stepFan_79 (fun v33 hv34 => ?_)
          obtain ⟨i35, rfl⟩ := hv34
          refine lv_iconst (v := 1) hx hb dX2_stepFan_82 (by decide) ?_
          refine lv_isub hx hb dX2_stepFan_83 ?_
          refine lv_topi (fun v36 e37 => ?_)
          refine z_put (g' := g) (k := 4) (j := 3) hM hI hk0 rfl rfl hinX2 tyX2 tyX2_ok nmX2 rfl (by decide) (by decide +kernel) (fun _ h9 => h9) rfl rfl rfl rfl ⟨_, rfl⟩ (fun _ _ _ => rfl) dX2_stepFan_84 (fun H locs hI => ?_)
          exact W.vret hx hb hr (fun t ht hW => ⟨⟨(L, κ, g), rfl, rfl, z_end hK hI ht hW⟩, z_F hI ht⟩) (z_locs hI) dX2_stepFan_87
    · skip
      refine lv_iload_n hx hb dX2_stepFan_29 rfl (lv_at hl 0 rfl) ?_
      refine lv_bipush (v := 40) hx hb dX2_stepFan_30 (by decide) ?_
      refine lv_bipush (v := 10) hx hb dX2_stepFan_32 (by decide) ?_
      refine lv_aload_n hx hb dX2_stepFan_34 rfl (lv_at hl 1 rfl) ?_
      refine z_get (k := 4) (j := 3) hM hI hk0 rfl rfl hinX2 rfl (by decide) (by decide +kernel) (fun _ h9 => h9) dX2_stepFan_35 (fun v38 hv39 => ?_)
      obtain ⟨i40, rfl⟩ := hv39
      refine lv_imul hx hb dX2_stepFan_38 ?_
      refine lv_topi (fun v41 e42 => ?_)
      refine lv_iadd hx hb dX2_stepFan_39 ?_
      refine lv_topi (fun v43 e44 => ?_)
      refine lv_icmp_lt (tgt := 56) hx hb dX2_stepFan_40 (by decide) (fun c45 => ?_) (fun c45 => ?_)
      · skip
        refine lv_aload_n hx hb dX2_stepFan_56 rfl (lv_at hl 1 rfl) ?_
        refine z_get (k := 4) (j := 3) hM hI hk0 rfl rfl hinX2 rfl (by decide) (by decide +kernel) (fun _ h9 => h9) dX2_stepFan_57 (fun v46 hv47 => ?_)
        obtain ⟨i48, rfl⟩ := hv47
        refine lv_if_le (tgt := 87) hx hb dX2_stepFan_60 (by decide) (fun c49 => ?_) (fun c49 => ?_)
        · skip
          exact W.vret hx hb hr (fun t ht hW => ⟨⟨(L, κ, g), rfl, rfl, z_end hK hI ht hW⟩, z_F hI ht⟩) (z_locs hI) dX2_stepFan_87
        · skip
          refine lv_iload_n hx hb dX2_stepFan_63 rfl (lv_at hl 0 rfl) ?_
          refine lv_bipush (v := 25) hx hb dX2_stepFan_64 (by decide) ?_
          refine lv_bipush (v := 10) hx hb dX2_stepFan_66 (by decide) ?_
          refine lv_aload_n hx hb dX2_stepFan_68 rfl (lv_at hl 1 rfl) ?_
          refine z_get (k := 4) (j := 3) hM hI hk0 rfl rfl hinX2 rfl (by decide) (by decide +kernel) (fun _ h9 => h9) dX2_stepFan_69 (fun v50 hv51 => ?_)
          obtain ⟨i52, rfl⟩ := hv51
          refine lv_imul hx hb dX2_stepFan_72 ?_
          refine lv_topi (fun v53 e54 => ?_)
          refine lv_iadd hx hb dX2_stepFan_73 ?_
          refine lv_topi (fun v55 e56 => ?_)
          refine lv_icmp_ge (tgt := 87) hx hb dX2_stepFan_74 (by decide) (fun c57 => ?_) (fun c57 => ?_)
          · skip
            exact W.vret hx hb hr (fun t ht hW => ⟨⟨(L, κ, g), rfl, rfl, z_end hK hI ht hW⟩, z_F hI ht⟩) (z_locs hI) dX2_stepFan_87
          · skip
            refine lv_aload_n hx hb dX2_stepFan_77 rfl (lv_at hl 1 rfl) ?_
            refine lv_dup hx hb dX2_stepFan_78 rfl ?_
            refine z_get (k := 4) (j := 3) hM hI hk0 rfl rfl hinX2 rfl (by decide) (by decide +kernel) (fun _ h9 => h9) dX2_stepFan_79 (fun v58 hv59 => ?_)
            obtain ⟨i60, rfl⟩ := hv59
            refine lv_iconst (v := 1) hx hb dX2_stepFan_82 (by decide) ?_
            refine lv_isub hx hb dX2_stepFan_83 ?_
            refine lv_topi (fun v61 e62 => ?_)
            refine z_put (g' := g) (k := 4) (j := 3) hM hI hk0 rfl rfl hinX2 tyX2 tyX2_ok nmX2 rfl (by decide) (by decide +kernel) (fun _ h9 => h9) rfl rfl rfl rfl ⟨_, rfl⟩ (fun _ _ _ => rfl) dX2_stepFan_84 (fun H locs hI => ?_)
            exact W.vret hx hb hr (fun t ht hW => ⟨⟨(L, κ, g), rfl, rfl, z_end hK hI ht hW⟩, z_F hI ht⟩) (z_locs hI) dX2_stepFan_87
      · skip
        refine lv_aload_n hx hb dX2_stepFan_43 rfl (lv_at hl 1 rfl) ?_
        refine lv_dup hx hb dX2_stepFan_44 rfl ?_
        refine z_get (k := 4) (j := 3) hM hI hk0 rfl rfl hinX2 rfl (by decide) (by decide +kernel) (fun _ h9 => h9) dX2_stepFan_45 (fun v63 hv64 => ?_)
        obtain ⟨i65, rfl⟩ := hv64
        refine lv_iconst (v := 1) hx hb dX2_stepFan_48 (by decide) ?_
        refine lv_iadd hx hb dX2_stepFan_49 ?_
        refine lv_topi (fun v66 e67 => ?_)
        refine z_put (g' := g) (k := 4) (j := 3) hM hI hk0 rfl rfl hinX2 tyX2 tyX2_ok nmX2 rfl (by decide) (by decide +kernel) (fun _ h9 => h9) rfl rfl rfl rfl ⟨_, rfl⟩ (fun _ _ _ => rfl) dX2_stepFan_50 (fun H locs hI => ?_)
        refine lv_goto (tgt := 87) hx hb dX2_stepFan_53 (by decide) ?_
        exact W.vret hx hb hr (fun t ht hW => ⟨⟨(L, κ, g), rfl, rfl, z_end hK hI ht hW⟩, z_F hI ht⟩) (z_locs hI) dX2_stepFan_87
  · skip
    exact W.vret hx hb hr (fun t ht hW => ⟨⟨(L, κ, g), rfl, rfl, z_end hK hI ht hW⟩, z_F hI ht⟩) (z_locs hI) dX2_stepFan_7

set_option maxHeartbeats 4000000 in
set_option maxRecDepth 100000 in
theorem c_X2_runFan (l : Launch) (D : va_G) (tc : Nat → ClassId) (z0 : Nat) (L : List Nat) (κ : Nat → Nat) (g : Nat → Nat → Value) (sz : Nat) (p0 : Nat) (hk0 : κ p0 = 4) : Met l yX2_runFan wsX2_runFan ({ frames := 0, cells := 0, slots := 0, locals := 0 }) (zPc D tc z0 [.ref p0] [] (L, κ, g) sz) (va_Qi (fun (r : Int32) (u : zS) => u = (L, κ, g)) (fun (u : zS) (t : State) => zB D tc (zA [] L sz) [] u t) (zA [] L sz)) 0 0 (zA [] L sz) := by
  refine Met.ofW (cc := cX2_runFan) (maxL := 2) (ret := (some .int)) (by decide) rfl ?_
  intro p e s m args below meth c s₁ B hml hv
  obtain ⟨rfl, rfl, hK, hE, hI⟩ := hv.opn
  have hx := B.exec
  have hb := B.bytes
  have hr := B.returns
  have hts := atoms_spec (ws := wsX2_runFan) B.pre
  have hown : s.vm.findClass RX2 = some m.cls := findClass_of_methodNamed B.named
  have hlocks := B.notSynchronized
  have hM : zM p s m c cX2_runFan _ wsX2_runFan RX2 D tc := ⟨hx, hb, hts, hown, hK⟩
  have hinX2 : ∀ w ∈ wsX20, w ∈ wsX2_runFan := by decide +kernel
  have hl := lv_entry ([.ref p0]) (n := 2) (Nat.le_of_ble_eq_true rfl)
  rw [lg_entry_eq]
  generalize (lg_sl ([.ref p0]) ++ List.replicate (2 - (lg_sl ([.ref p0])).length) Slot.unset).toArray = ls at hl ⊢
  have hl : lv_has ls 2 [(0, .ref p0)] := hl
  refine lv_iconst (v := 5) hx hb dX2_runFan_0 (by decide) ?_
  refine lv_aload_n hx hb dX2_runFan_1 rfl (lv_at hl 0 rfl) ?_
  refine z_get (k := 4) (j := 3) hM hI hk0 rfl rfl hinX2 rfl (by decide) (by decide +kernel) (fun _ h9 => h9) dX2_runFan_2 (fun v1 hv2 => ?_)
  obtain ⟨i3, rfl⟩ := hv2
  refine lv_imul hx hb dX2_runFan_5 ?_
  refine lv_topi (fun v4 e5 => ?_)
  refine lv_istore_n (lv' := [(1, .int v4), (0, .ref p0)]) hx hb dX2_runFan_6 rfl hl (by decide) rfl (fun ls hl => ?_)
  refine lv_aload_n hx hb dX2_runFan_7 rfl (lv_at hl 1 rfl) ?_
  refine lv_dup hx hb dX2_runFan_8 rfl ?_
  refine z_get (k := 4) (j := 2) hM hI hk0 rfl rfl hinX2 rfl (by decide) (by decide +kernel) (fun _ h9 => h9) dX2_runFan_9 (fun v6 hv7 => ?_)
  obtain ⟨i8, rfl⟩ := hv7
  refine lv_iload_n hx hb dX2_runFan_12 rfl (lv_at hl 0 rfl) ?_
  refine lv_i2l hx hb dX2_runFan_13 rfl ?_
  refine lv_topl (fun v9 e10 => ?_)
  refine lv_ladd hx hb dX2_runFan_14 ?_
  refine lv_topl (fun v11 e12 => ?_)
  refine z_put (g' := g) (k := 4) (j := 2) hM hI hk0 rfl rfl hinX2 tyX2 tyX2_ok nmX2 rfl (by decide) (by decide +kernel) (fun _ h9 => h9) rfl rfl rfl rfl ⟨_, rfl⟩ (fun _ _ _ => rfl) dX2_runFan_15 (fun H locs hI => ?_)
  refine lv_iload_n hx hb dX2_runFan_18 rfl (lv_at hl 0 rfl) ?_
  exact W.iret (v := v4) hx hb hr (fun t ht hW => ⟨⟨_, (L, κ, g), rfl, rfl, z_end hK hI ht hW⟩, z_F hI ht⟩) (z_locs hI) dX2_runFan_19

set_option maxHeartbeats 4000000 in
set_option maxRecDepth 100000 in
theorem c_X3_inAge (l : Launch) (D : va_G) (tc : Nat → ClassId) (z0 : Nat) (L : List Nat) (κ : Nat → Nat) (g : Nat → Nat → Value) (sz : Nat) (p0 : Nat) (hk0 : κ p0 = 5) : Met l yX3_inAge wsX3_inAge ({ frames := 0, cells := 0, slots := 0, locals := 0 }) (zPc D tc z0 [.ref p0] [] (L, κ, g) sz) (vp_Si (fun r : Int32 => True)) 0 0 (fun _ => False) := by
  refine Met.ofW (cc := cX3_inAge) (maxL := 1) (ret := (some .int)) (by decide) rfl ?_
  intro p e s m args below meth c s₁ B hml hv
  obtain ⟨rfl, rfl, hK, hE, hI⟩ := hv.opn
  have hx := B.exec
  have hb := B.bytes
  have hr := B.returns
  have hts := atoms_spec (ws := wsX3_inAge) B.pre
  have hown : s.vm.findClass RX3 = some m.cls := findClass_of_methodNamed B.named
  have hlocks := B.notSynchronized
  have hM : zM p s m c cX3_inAge _ wsX3_inAge RX3 D tc := ⟨hx, hb, hts, hown, hK⟩
  have hinX3 : ∀ w ∈ wsX30, w ∈ wsX3_inAge := by decide +kernel
  have hl := lv_entry ([.ref p0]) (n := 1) (Nat.le_of_ble_eq_true rfl)
  rw [lg_entry_eq]
  generalize (lg_sl ([.ref p0]) ++ List.replicate (1 - (lg_sl ([.ref p0])).length) Slot.unset).toArray = ls at hl ⊢
  have hl : lv_has ls 1 [(0, .ref p0)] := hl
  refine lv_aload_n hx hb dX3_inAge_0 rfl (lv_at hl 0 rfl) ?_
  refine z_get (k := 5) (j := 19) hM hI hk0 rfl rfl hinX3 rfl (by decide) (by decide +kernel) (fun _ h9 => h9) dX3_inAge_1 (fun v1 hv2 => ?_)
  obtain ⟨i3, rfl⟩ := hv2
  refine lv_bipush (v := 10) hx hb dX3_inAge_4 (by decide) ?_
  refine lv_idiv hx hb dX3_inAge_6 (by decide) ?_
  refine lv_topi (fun v4 e5 => ?_)
  exact W.iret (v := v4) hx hb hr (fun t ht hW => ⟨_, rfl, trivial, ht⟩) (fun q h => by cases h) dX3_inAge_7

set_option maxHeartbeats 4000000 in
set_option maxRecDepth 100000 in
theorem c_X3_isTooOld (l : Launch) (D : va_G) (tc : Nat → ClassId) (z0 : Nat) (L : List Nat) (κ : Nat → Nat) (g : Nat → Nat → Value) (sz : Nat) (p0 : Nat) (hk0 : κ p0 = 5) : Met l yX3_isTooOld wsX3_isTooOld ({ frames := 1, cells := 0, slots := 0, locals := 20 }) (zPc D tc z0 [.ref p0] [] (L, κ, g) sz) (vp_Si (fun r : Int32 => r = 0 ∨ r = 1)) 0 0 (fun _ => False) := by
  refine Met.ofW (cc := cX3_isTooOld) (maxL := 1) (ret := (some .boolean)) (by decide) rfl ?_
  intro p e s m args below meth c s₁ B hml hv
  obtain ⟨rfl, rfl, hK, hE, hI⟩ := hv.opn
  have hx := B.exec
  have hb := B.bytes
  have hr := B.returns
  have hts := atoms_spec (ws := wsX3_isTooOld) B.pre
  have hown : s.vm.findClass RX3 = some m.cls := findClass_of_methodNamed B.named
  have hlocks := B.notSynchronized
  have hM : zM p s m c cX3_isTooOld _ wsX3_isTooOld RX3 D tc := ⟨hx, hb, hts, hown, hK⟩
  skip
  have hl := lv_entry ([.ref p0]) (n := 1) (Nat.le_of_ble_eq_true rfl)
  rw [lg_entry_eq]
  generalize (lg_sl ([.ref p0]) ++ List.replicate (1 - (lg_sl ([.ref p0])).length) Slot.unset).toArray = ls at hl ⊢
  have hl : lv_has ls 1 [(0, .ref p0)] := hl
  refine lv_aload_n hx hb dX3_isTooOld_0 rfl (lv_at hl 0 rfl) ?_
  refine vp_callSi (W.runV (As := []) (rest := []) ⟨hx, hb, hml, hown, hts⟩ (c_X3_inAge l _ _ _ _ _ _ _ p0 hk0) (cwV 0 hts gX3_isTooOld_X3_inAge rfl rfl rfl (by decide +kernel) ⟨Nat.le_of_ble_eq_true rfl, Nat.le_of_ble_eq_true rfl⟩) (z_preV hK hE hI [] rfl rfl (z_recv hK hI hk0 rfl rfl)) rfl rfl hl.1 rfl (lv_room (Nat.le_of_ble_eq_true rfl)) dX3_isTooOld_1 ⟨Nat.le_of_ble_eq_true rfl, Nat.le_of_ble_eq_true rfl⟩) (fun v1 hw2 => ?_)
  refine lv_bipush (v := 100) hx hb dX3_isTooOld_4 (by decide) ?_
  refine lv_icmp_le (tgt := 13) hx hb dX3_isTooOld_6 (by decide) (fun c3 => ?_) (fun c3 => ?_)
  · skip
    refine lv_iconst (v := 0) hx hb dX3_isTooOld_13 (by decide) ?_
    exact W.zret (v := 0) hx hb hr (by decide) (fun t ht hW => ⟨_, rfl, (Or.inl rfl), ht⟩) (fun q h => by cases h) dX3_isTooOld_14
  · skip
    refine lv_iconst (v := 1) hx hb dX3_isTooOld_9 (by decide) ?_
    refine lv_goto (tgt := 14) hx hb dX3_isTooOld_10 (by decide) ?_
    exact W.zret (v := 1) hx hb hr (by decide) (fun t ht hW => ⟨_, rfl, (Or.inr rfl), ht⟩) (fun q h => by cases h) dX3_isTooOld_14

set_option maxHeartbeats 4000000 in
set_option maxRecDepth 100000 in
theorem c_X3_greatestSpeed (l : Launch) (D : va_G) (tc : Nat → ClassId) (z0 : Nat) (L : List Nat) (κ : Nat → Nat) (g : Nat → Nat → Value) (sz : Nat) (p0 : Nat) (hk0 : κ p0 = 5) : Met l yX3_greatestSpeed wsX3_greatestSpeed ({ frames := 0, cells := 0, slots := 0, locals := 0 }) (zPc D tc z0 [.ref p0] [] (L, κ, g) sz) (vp_Si (fun r : Int32 => True)) 0 0 (fun _ => False) := by
  refine Met.ofW (cc := cX3_greatestSpeed) (maxL := 1) (ret := (some .int)) (by decide) rfl ?_
  intro p e s m args below meth c s₁ B hml hv
  obtain ⟨rfl, rfl, hK, hE, hI⟩ := hv.opn
  have hx := B.exec
  have hb := B.bytes
  have hr := B.returns
  have hts := atoms_spec (ws := wsX3_greatestSpeed) B.pre
  have hown : s.vm.findClass RX3 = some m.cls := findClass_of_methodNamed B.named
  have hlocks := B.notSynchronized
  have hM : zM p s m c cX3_greatestSpeed _ wsX3_greatestSpeed RX3 D tc := ⟨hx, hb, hts, hown, hK⟩
  have hinX3 : ∀ w ∈ wsX30, w ∈ wsX3_greatestSpeed := by decide +kernel
  have hl := lv_entry ([.ref p0]) (n := 1) (Nat.le_of_ble_eq_true rfl)
  rw [lg_entry_eq]
  generalize (lg_sl ([.ref p0]) ++ List.replicate (1 - (lg_sl ([.ref p0])).length) Slot.unset).toArray = ls at hl ⊢
  have hl : lv_has ls 1 [(0, .ref p0)] := hl
  refine lv_aload_n hx hb dX3_greatestSpeed_0 rfl (lv_at hl 0 rfl) ?_
  refine z_get (k := 5) (j := 2) hM hI hk0 rfl rfl hinX3 rfl (by decide) (by decide +kernel) (fun _ h9 => h9) dX3_greatestSpeed_1 (fun v1 hv2 => ?_)
  obtain ⟨i3, rfl, hz4⟩ := zv_b hv2
  refine lv_if_eq (tgt := 12) hx hb dX3_greatestSpeed_4 (by decide) (fun c5 => ?_) (fun c5 => ?_)
  · skip
    refine lv_iconst (v := 4) hx hb dX3_greatestSpeed_12 (by decide) ?_
    exact W.iret (v := 4) hx hb hr (fun t ht hW => ⟨_, rfl, trivial, ht⟩) (fun q h => by cases h) dX3_greatestSpeed_13
  · skip
    refine lv_bipush (v := 7) hx hb dX3_greatestSpeed_7 (by decide) ?_
    refine lv_goto (tgt := 13) hx hb dX3_greatestSpeed_9 (by decide) ?_
    exact W.iret (v := 7) hx hb hr (fun t ht hW => ⟨_, rfl, trivial, ht⟩) (fun q h => by cases h) dX3_greatestSpeed_13

set_option maxHeartbeats 4000000 in
set_option maxRecDepth 100000 in
theorem c_X3_workOfOneSpeed (l : Launch) (D : va_G) (tc : Nat → ClassId) (z0 : Nat) (L : List Nat) (κ : Nat → Nat) (g : Nat → Nat → Value) (sz : Nat) (p0 : Nat) (hk0 : κ p0 = 5) : Met l yX3_workOfOneSpeed wsX3_workOfOneSpeed ({ frames := 0, cells := 0, slots := 0, locals := 0 }) (zPc D tc z0 [.ref p0] [] (L, κ, g) sz) (vp_Si (fun r : Int32 => True)) 0 0 (fun _ => False) := by
  refine Met.ofW (cc := cX3_workOfOneSpeed) (maxL := 1) (ret := (some .int)) (by decide) rfl ?_
  intro p e s m args below meth c s₁ B hml hv
  obtain ⟨rfl, rfl, hK, hE, hI⟩ := hv.opn
  have hx := B.exec
  have hb := B.bytes
  have hr := B.returns
  have hts := atoms_spec (ws := wsX3_workOfOneSpeed) B.pre
  have hown : s.vm.findClass RX3 = some m.cls := findClass_of_methodNamed B.named
  have hlocks := B.notSynchronized
  have hM : zM p s m c cX3_workOfOneSpeed _ wsX3_workOfOneSpeed RX3 D tc := ⟨hx, hb, hts, hown, hK⟩
  have hinX3 : ∀ w ∈ wsX30, w ∈ wsX3_workOfOneSpeed := by decide +kernel
  have hl := lv_entry ([.ref p0]) (n := 1) (Nat.le_of_ble_eq_true rfl)
  rw [lg_entry_eq]
  generalize (lg_sl ([.ref p0]) ++ List.replicate (1 - (lg_sl ([.ref p0])).length) Slot.unset).toArray = ls at hl ⊢
  have hl : lv_has ls 1 [(0, .ref p0)] := hl
  refine lv_aload_n hx hb dX3_workOfOneSpeed_0 rfl (lv_at hl 0 rfl) ?_
  refine z_get (k := 5) (j := 2) hM hI hk0 rfl rfl hinX3 rfl (by decide) (by decide +kernel) (fun _ h9 => h9) dX3_workOfOneSpeed_1 (fun v1 hv2 => ?_)
  obtain ⟨i3, rfl, hz4⟩ := zv_b hv2
  refine lv_if_eq (tgt := 11) hx hb dX3_workOfOneSpeed_4 (by decide) (fun c5 => ?_) (fun c5 => ?_)
  · skip
    refine lv_iconst (v := 2) hx hb dX3_workOfOneSpeed_11 (by decide) ?_
    exact W.iret (v := 2) hx hb hr (fun t ht hW => ⟨_, rfl, trivial, ht⟩) (fun q h => by cases h) dX3_workOfOneSpeed_12
  · skip
    refine lv_iconst (v := 3) hx hb dX3_workOfOneSpeed_7 (by decide) ?_
    refine lv_goto (tgt := 12) hx hb dX3_workOfOneSpeed_8 (by decide) ?_
    exact W.iret (v := 3) hx hb hr (fun t ht hW => ⟨_, rfl, trivial, ht⟩) (fun q h => by cases h) dX3_workOfOneSpeed_12

set_option maxHeartbeats 4000000 in
set_option maxRecDepth 100000 in
theorem c_X3_voltsFor (l : Launch) (D : va_G) (tc : Nat → ClassId) (z0 : Nat) (L : List Nat) (κ : Nat → Nat) (g : Nat → Nat → Value) (sz : Nat) (p0 : Nat) (hk0 : κ p0 = 5) (p1 : Int32) : Met l yX3_voltsFor wsX3_voltsFor ({ frames := 1, cells := 0, slots := 0, locals := 21 }) (zPc D tc z0 [.ref p0, .int p1] [] (L, κ, g) sz) (vp_Si (fun r : Int32 => True)) 0 0 (fun _ => False) := by
  refine Met.ofW (cc := cX3_voltsFor) (maxL := 3) (ret := (some .int)) (by decide) rfl ?_
  intro p e s m args below meth c s₁ B hml hv
  obtain ⟨rfl, rfl, hK, hE, hI⟩ := hv.opn
  have hx := B.exec
  have hb := B.bytes
  have hr := B.returns
  have hts := atoms_spec (ws := wsX3_voltsFor) B.pre
  have hown : s.vm.findClass RX3 = some m.cls := findClass_of_methodNamed B.named
  have hlocks := B.notSynchronized
  have hM : zM p s m c cX3_voltsFor _ wsX3_voltsFor RX3 D tc := ⟨hx, hb, hts, hown, hK⟩
  have hinX3 : ∀ w ∈ wsX30, w ∈ wsX3_voltsFor := by decide +kernel
  have hinX1 : ∀ w ∈ wsX10, w ∈ wsX3_voltsFor := by decide +kernel
  have hl := lv_entry ([.ref p0, .int p1]) (n := 3) (Nat.le_of_ble_eq_true rfl)
  rw [lg_entry_eq]
  generalize (lg_sl ([.ref p0, .int p1]) ++ List.replicate (3 - (lg_sl ([.ref p0, .int p1])).length) Slot.unset).toArray = ls at hl ⊢
  have hl : lv_has ls 3 [(0, .ref p0), (1, .int p1)] := hl
  refine lv_aload_n hx hb dX3_voltsFor_0 rfl (lv_at hl 0 rfl) ?_
  refine z_get (k := 5) (j := 15) hM hI hk0 rfl rfl hinX3 rfl (by decide) (by decide +kernel) (fun _ h9 => h9) dX3_voltsFor_1 (fun v1 hv2 => ?_)
  obtain ⟨i3, rfl, hr4⟩ := hv2
  refine z_get (k := 3) (j := 2) hM hI hr4 rfl rfl hinX1 rfl (by decide) (by decide +kernel) (fun _ h9 => h9) dX3_voltsFor_4 (fun v5 hv6 => ?_)
  obtain ⟨i7, rfl, hr8⟩ := hv6
  refine lv_bipush (v := 80) hx hb dX3_voltsFor_7 (by decide) ?_
  refine vp_callSi (W.runV (As := [.int 80]) (rest := []) ⟨hx, hb, hml, hown, hts⟩ (c_X0_upTo l _ _ _ _ _ _ _ i7 hr8 80) (cwV 1 hts gX3_voltsFor_X0_upTo rfl rfl rfl (by decide +kernel) ⟨Nat.le_of_ble_eq_true rfl, Nat.le_of_ble_eq_true rfl⟩) (z_preV hK hE hI [] rfl rfl (z_recv hK hI hr8 rfl rfl)) rfl rfl hl.1 rfl (lv_room (Nat.le_of_ble_eq_true rfl)) dX3_voltsFor_9 ⟨Nat.le_of_ble_eq_true rfl, Nat.le_of_ble_eq_true rfl⟩) (fun v9 hw10 => ?_)
  refine lv_bipush (v := 80) hx hb dX3_voltsFor_12 (by decide) ?_
  refine lv_icmp_lt (tgt := 22) hx hb dX3_voltsFor_14 (by decide) (fun c11 => ?_) (fun c11 => ?_)
  · skip
    refine lv_iconst (v := 0) hx hb dX3_voltsFor_22 (by decide) ?_
    refine lv_istore_n (lv' := [(2, .int 0), (0, .ref p0), (1, .int p1)]) hx hb dX3_voltsFor_23 rfl hl (by decide) rfl (fun ls hl => ?_)
    refine lv_sipush (v := 500) hx hb dX3_voltsFor_24 (by decide) ?_
    refine lv_bipush (v := 60) hx hb dX3_voltsFor_27 (by decide) ?_
    refine lv_iload_n hx hb dX3_voltsFor_29 rfl (lv_at hl 2 rfl) ?_
    refine lv_imul hx hb dX3_voltsFor_30 ?_
    refine lv_topi (fun v12 e13 => ?_)
    refine lv_iadd hx hb dX3_voltsFor_31 ?_
    refine lv_topi (fun v14 e15 => ?_)
    refine lv_aload_n hx hb dX3_voltsFor_32 rfl (lv_at hl 1 rfl) ?_
    refine vp_callSi (W.runV (As := []) (rest := [.int v14]) ⟨hx, hb, hml, hown, hts⟩ (c_X3_inAge l _ _ _ _ _ _ _ p0 hk0) (cwV 0 hts gX3_voltsFor_X3_inAge rfl rfl rfl (by decide +kernel) ⟨Nat.le_of_ble_eq_true rfl, Nat.le_of_ble_eq_true rfl⟩) (z_preV hK hE hI [] rfl rfl (z_recv hK hI hk0 rfl rfl)) rfl rfl hl.1 rfl (lv_room (Nat.le_of_ble_eq_true rfl)) dX3_voltsFor_33 ⟨Nat.le_of_ble_eq_true rfl, Nat.le_of_ble_eq_true rfl⟩) (fun v16 hw17 => ?_)
    refine lv_iadd hx hb dX3_voltsFor_36 ?_
    refine lv_topi (fun v18 e19 => ?_)
    refine lv_iload_n hx hb dX3_voltsFor_37 rfl (lv_at hl 0 rfl) ?_
    refine lv_iadd hx hb dX3_voltsFor_38 ?_
    refine lv_topi (fun v20 e21 => ?_)
    exact W.iret (v := v20) hx hb hr (fun t ht hW => ⟨_, rfl, trivial, ht⟩) (fun q h => by cases h) dX3_voltsFor_39
  · skip
    refine lv_bipush (v := 25) hx hb dX3_voltsFor_17 (by decide) ?_
    refine lv_goto (tgt := 23) hx hb dX3_voltsFor_19 (by decide) ?_
    refine lv_istore_n (lv' := [(2, .int 25), (0, .ref p0), (1, .int p1)]) hx hb dX3_voltsFor_23 rfl hl (by decide) rfl (fun ls hl => ?_)
    refine lv_sipush (v := 500) hx hb dX3_voltsFor_24 (by decide) ?_
    refine lv_bipush (v := 60) hx hb dX3_voltsFor_27 (by decide) ?_
    refine lv_iload_n hx hb dX3_voltsFor_29 rfl (lv_at hl 2 rfl) ?_
    refine lv_imul hx hb dX3_voltsFor_30 ?_
    refine lv_topi (fun v22 e23 => ?_)
    refine lv_iadd hx hb dX3_voltsFor_31 ?_
    refine lv_topi (fun v24 e25 => ?_)
    refine lv_aload_n hx hb dX3_voltsFor_32 rfl (lv_at hl 1 rfl) ?_
    refine vp_callSi (W.runV (As := []) (rest := [.int v24]) ⟨hx, hb, hml, hown, hts⟩ (c_X3_inAge l _ _ _ _ _ _ _ p0 hk0) (cwV 0 hts gX3_voltsFor_X3_inAge rfl rfl rfl (by decide +kernel) ⟨Nat.le_of_ble_eq_true rfl, Nat.le_of_ble_eq_true rfl⟩) (z_preV hK hE hI [] rfl rfl (z_recv hK hI hk0 rfl rfl)) rfl rfl hl.1 rfl (lv_room (Nat.le_of_ble_eq_true rfl)) dX3_voltsFor_33 ⟨Nat.le_of_ble_eq_true rfl, Nat.le_of_ble_eq_true rfl⟩) (fun v26 hw27 => ?_)
    refine lv_iadd hx hb dX3_voltsFor_36 ?_
    refine lv_topi (fun v28 e29 => ?_)
    refine lv_iload_n hx hb dX3_voltsFor_37 rfl (lv_at hl 0 rfl) ?_
    refine lv_iadd hx hb dX3_voltsFor_38 ?_
    refine lv_topi (fun v30 e31 => ?_)
    exact W.iret (v := v30) hx hb hr (fun t ht hW => ⟨_, rfl, trivial, ht⟩) (fun q h => by cases h) dX3_voltsFor_39

set_option maxHeartbeats 4000000 in
set_option maxRecDepth 100000 in
theorem c_X3_noteBusy (l : Launch) (D : va_G) (tc : Nat → ClassId) (z0 : Nat) (L : List Nat) (κ : Nat → Nat) (g : Nat → Nat → Value) (sz : Nat) (p0 : Nat) (hk0 : κ p0 = 5) (p1 : Int32) (hz1 : p1 = 0 ∨ p1 = 1) : Met l yX3_noteBusy wsX3_noteBusy ({ frames := 0, cells := 0, slots := 0, locals := 0 }) (zPc D tc z0 [.ref p0, .int p1] [] (L, κ, g) sz) (va_Qv (fun (u : zS) => u = (L, κ, g)) (fun (u : zS) (t : State) => zB D tc (zA [] L sz) [] u t) (zA [] L sz)) 0 0 (zA [] L sz) := by
  refine Met.ofW (cc := cX3_noteBusy) (maxL := 2) (ret := none) (by decide) rfl ?_
  intro p e s m args below meth c s₁ B hml hv
  obtain ⟨rfl, rfl, hK, hE, hI⟩ := hv.opn
  have hx := B.exec
  have hb := B.bytes
  have hr := B.returns
  have hts := atoms_spec (ws := wsX3_noteBusy) B.pre
  have hown : s.vm.findClass RX3 = some m.cls := findClass_of_methodNamed B.named
  have hlocks := B.notSynchronized
  have hM : zM p s m c cX3_noteBusy _ wsX3_noteBusy RX3 D tc := ⟨hx, hb, hts, hown, hK⟩
  have hinX3 : ∀ w ∈ wsX30, w ∈ wsX3_noteBusy := by decide +kernel
  have hl := lv_entry ([.ref p0, .int p1]) (n := 2) (Nat.le_of_ble_eq_true rfl)
  rw [lg_entry_eq]
  generalize (lg_sl ([.ref p0, .int p1]) ++ List.replicate (2 - (lg_sl ([.ref p0, .int p1])).length) Slot.unset).toArray = ls at hl ⊢
  have hl : lv_has ls 2 [(0, .ref p0), (1, .int p1)] := hl
  refine lv_aload_n hx hb dX3_noteBusy_0 rfl (lv_at hl 0 rfl) ?_
  refine lv_aload_n hx hb dX3_noteBusy_1 rfl (lv_at hl 0 rfl) ?_
  refine z_get (k := 5) (j := 13) hM hI hk0 rfl rfl hinX3 rfl (by decide) (by decide +kernel) (fun _ h9 => h9) dX3_noteBusy_2 (fun v1 hv2 => ?_)
  obtain ⟨i3, rfl, hz4⟩ := zv_b hv2
  refine z_put (g' := g) (k := 5) (j := 14) hM hI hk0 rfl rfl hinX3 tyX3 tyX3_ok nmX3 rfl (by decide) (by decide +kernel) (fun _ h9 => h9) rfl rfl (z_bn (by assumption)) (z_bf (by assumption)) (z_bv (by assumption)) (fun _ _ _ => rfl) dX3_noteBusy_5 (fun H locs hI => ?_)
  refine lv_aload_n hx hb dX3_noteBusy_8 rfl (lv_at hl 0 rfl) ?_
  refine lv_iload_n hx hb dX3_noteBusy_9 rfl (lv_at hl 1 rfl) ?_
  refine z_put (g' := g) (k := 5) (j := 13) hM hI hk0 rfl rfl hinX3 tyX3 tyX3_ok nmX3 rfl (by decide) (by decide +kernel) (fun _ h9 => h9) rfl rfl (z_bn (by assumption)) (z_bf (by assumption)) (z_bv (by assumption)) (fun _ _ _ => rfl) dX3_noteBusy_10 (fun H locs hI => ?_)
  exact W.vret hx hb hr (fun t ht hW => ⟨⟨(L, κ, g), rfl, rfl, z_end hK hI ht hW⟩, z_F hI ht⟩) (z_locs hI) dX3_noteBusy_13

set_option maxHeartbeats 4000000 in
set_option maxRecDepth 100000 in
theorem c_X3_readSensor (l : Launch) (D : va_G) (tc : Nat → ClassId) (z0 : Nat) (L : List Nat) (κ : Nat → Nat) (g : Nat → Nat → Value) (sz : Nat) (p0 : Nat) (hk0 : κ p0 = 5) : Met l yX3_readSensor wsX3_readSensor ({ frames := 1, cells := 0, slots := 0, locals := 20 }) (zPc D tc z0 [.ref p0] [] (L, κ, g) sz) (va_Qv (fun (u : zS) => u = (L, κ, g)) (fun (u : zS) (t : State) => zB D tc (zA [] L sz) [] u t) (zA [] L sz)) 0 0 (zA [] L sz) := by
  refine Met.ofW (cc := cX3_readSensor) (maxL := 2) (ret := none) (by decide) rfl ?_
  intro p e s m args below meth c s₁ B hml hv
  obtain ⟨rfl, rfl, hK, hE, hI⟩ := hv.opn
  have hx := B.exec
  have hb := B.bytes
  have hr := B.returns
  have hts := atoms_spec (ws := wsX3_readSensor) B.pre
  have hown : s.vm.findClass RX3 = some m.cls := findClass_of_methodNamed B.named
  have hlocks := B.notSynchronized
  have hM : zM p s m c cX3_readSensor _ wsX3_readSensor RX3 D tc := ⟨hx, hb, hts, hown, hK⟩
  have hinX3 : ∀ w ∈ wsX30, w ∈ wsX3_readSensor := by decide +kernel
  have hinX1 : ∀ w ∈ wsX10, w ∈ wsX3_readSensor := by decide +kernel
  have hl := lv_entry ([.ref p0]) (n := 2) (Nat.le_of_ble_eq_true rfl)
  rw [lg_entry_eq]
  generalize (lg_sl ([.ref p0]) ++ List.replicate (2 - (lg_sl ([.ref p0])).length) Slot.unset).toArray = ls at hl ⊢
  have hl : lv_has ls 2 [(0, .ref p0)] := hl
  refine lv_aload_n hx hb dX3_readSensor_0 rfl (lv_at hl 0 rfl) ?_
  refine z_get (k := 5) (j := 15) hM hI hk0 rfl rfl hinX3 rfl (by decide) (by decide +kernel) (fun _ h9 => h9) dX3_readSensor_1 (fun v1 hv2 => ?_)
  obtain ⟨i3, rfl, hr4⟩ := hv2
  refine z_get (k := 3) (j := 2) hM hI hr4 rfl rfl hinX1 rfl (by decide) (by decide +kernel) (fun _ h9 => h9) dX3_readSensor_4 (fun v5 hv6 => ?_)
  obtain ⟨i7, rfl, hr8⟩ := hv6
  refine vp_callSl (W.runV (As := []) (rest := []) ⟨hx, hb, hml, hown, hts⟩ (c_X0_lowBits l _ _ _ _ _ _ _ i7 hr8) (cwV 0 hts gX3_readSensor_X0_lowBits rfl rfl rfl (by decide +kernel) ⟨Nat.le_of_ble_eq_true rfl, Nat.le_of_ble_eq_true rfl⟩) (z_preV hK hE hI [] rfl rfl (z_recv hK hI hr8 rfl rfl)) rfl rfl hl.1 rfl (lv_room (Nat.le_of_ble_eq_true rfl)) dX3_readSensor_7 ⟨Nat.le_of_ble_eq_true rfl, Nat.le_of_ble_eq_true rfl⟩) (fun v9 hw10 => ?_)
  refine lv_l2i hx hb dX3_readSensor_10 rfl ?_
  refine lv_topi (fun v11 e12 => ?_)
  refine lv_istore_n (lv' := [(1, .int v11), (0, .ref p0)]) hx hb dX3_readSensor_11 rfl hl (by decide) rfl (fun ls hl => ?_)
  refine lv_aload_n hx hb dX3_readSensor_12 rfl (lv_at hl 1 rfl) ?_
  refine lv_iload_n hx hb dX3_readSensor_13 rfl (lv_at hl 0 rfl) ?_
  refine lv_iload_n hx hb dX3_readSensor_14 rfl (lv_at hl 0 rfl) ?_
  refine lv_iconst (v := 1) hx hb dX3_readSensor_15 (by decide) ?_
  refine lv_iand hx hb dX3_readSensor_16 ?_
  refine lv_topi (fun v13 e14 => ?_)
  refine lv_isub hx hb dX3_readSensor_17 ?_
  refine lv_topi (fun v15 e16 => ?_)
  refine z_put (g' := g) (k := 5) (j := 16) hM hI hk0 rfl rfl hinX3 tyX3 tyX3_ok nmX3 rfl (by decide) (by decide +kernel) (fun _ h9 => h9) rfl rfl rfl rfl ⟨_, rfl⟩ (fun _ _ _ => rfl) dX3_readSensor_18 (fun H locs hI => ?_)
  exact W.vret hx hb hr (fun t ht hW => ⟨⟨(L, κ, g), rfl, rfl, z_end hK hI ht hW⟩, z_F hI ht⟩) (z_locs hI) dX3_readSensor_21

set_option maxHeartbeats 4000000 in
set_option maxRecDepth 100000 in
theorem c_X3_tripAndWear (l : Launch) (D : va_G) (tc : Nat → ClassId) (z0 : Nat) (L : List Nat) (κ : Nat → Nat) (g : Nat → Nat → Value) (sz : Nat) (p0 : Nat) (hk0 : κ p0 = 5) : Met l yX3_tripAndWear wsX3_tripAndWear ({ frames := 1, cells := 0, slots := 0, locals := 21 }) (zPc D tc z0 [.ref p0] [] (L, κ, g) sz) (va_Qv (fun (u : zS) => u = (L, κ, g)) (fun (u : zS) (t : State) => zB D tc (zA [] L sz) [] u t) (zA [] L sz)) 0 0 (zA [] L sz) := by
  refine Met.ofW (cc := cX3_tripAndWear) (maxL := 2) (ret := none) (by decide) rfl ?_
  intro p e s m args below meth c s₁ B hml hv
  obtain ⟨rfl, rfl, hK, hE, hI⟩ := hv.opn
  have hx := B.exec
  have hb := B.bytes
  have hr := B.returns
  have hts := atoms_spec (ws := wsX3_tripAndWear) B.pre
  have hown : s.vm.findClass RX3 = some m.cls := findClass_of_methodNamed B.named
  have hlocks := B.notSynchronized
  have hM : zM p s m c cX3_tripAndWear _ wsX3_tripAndWear RX3 D tc := ⟨hx, hb, hts, hown, hK⟩
  have hinX3 : ∀ w ∈ wsX30, w ∈ wsX3_tripAndWear := by decide +kernel
  have hinX1 : ∀ w ∈ wsX10, w ∈ wsX3_tripAndWear := by decide +kernel
  have hl := lv_entry ([.ref p0]) (n := 2) (Nat.le_of_ble_eq_true rfl)
  rw [lg_entry_eq]
  generalize (lg_sl ([.ref p0]) ++ List.replicate (2 - (lg_sl ([.ref p0])).length) Slot.unset).toArray = ls at hl ⊢
  have hl : lv_has ls 2 [(0, .ref p0)] := hl
  refine lv_aload_n hx hb dX3_tripAndWear_0 rfl (lv_at hl 0 rfl) ?_
  refine z_get (k := 5) (j := 15) hM hI hk0 rfl rfl hinX3 rfl (by decide) (by decide +kernel) (fun _ h9 => h9) dX3_tripAndWear_1 (fun v1 hv2 => ?_)
  obtain ⟨i3, rfl, hr4⟩ := hv2
  refine z_get (k := 3) (j := 2) hM hI hr4 rfl rfl hinX1 rfl (by decide) (by decide +kernel) (fun _ h9 => h9) dX3_tripAndWear_4 (fun v5 hv6 => ?_)
  obtain ⟨i7, rfl, hr8⟩ := hv6
  refine lv_bipush (v := 100) hx hb dX3_tripAndWear_7 (by decide) ?_
  refine vp_callSi (W.runV (As := [.int 100]) (rest := []) ⟨hx, hb, hml, hown, hts⟩ (c_X0_upTo l _ _ _ _ _ _ _ i7 hr8 100) (cwV 1 hts gX3_tripAndWear_X0_upTo rfl rfl rfl (by decide +kernel) ⟨Nat.le_of_ble_eq_true rfl, Nat.le_of_ble_eq_true rfl⟩) (z_preV hK hE hI [] rfl rfl (z_recv hK hI hr8 rfl rfl)) rfl rfl hl.1 rfl (lv_room (Nat.le_of_ble_eq_true rfl)) dX3_tripAndWear_9 ⟨Nat.le_of_ble_eq_true rfl, Nat.le_of_ble_eq_true rfl⟩) (fun v9 hw10 => ?_)
  refine lv_istore_n (lv' := [(1, .int v9), (0, .ref p0)]) hx hb dX3_tripAndWear_12 rfl hl (by decide) rfl (fun ls hl => ?_)
  refine lv_iload_n hx hb dX3_tripAndWear_13 rfl (lv_at hl 0 rfl) ?_
  refine lv_bipush (v := 100) hx hb dX3_tripAndWear_14 (by decide) ?_
  refine lv_icmp_lt (tgt := 27) hx hb dX3_tripAndWear_16 (by decide) (fun c11 => ?_) (fun c11 => ?_)
  · skip
    refine lv_iload_n hx hb dX3_tripAndWear_27 rfl (lv_at hl 0 rfl) ?_
    refine lv_bipush (v := 90) hx hb dX3_tripAndWear_28 (by decide) ?_
    refine lv_icmp_ge (tgt := 38) hx hb dX3_tripAndWear_30 (by decide) (fun c12 => ?_) (fun c12 => ?_)
    · skip
      refine lv_iload_n hx hb dX3_tripAndWear_38 rfl (lv_at hl 0 rfl) ?_
      refine lv_bipush (v := 85) hx hb dX3_tripAndWear_39 (by decide) ?_
      refine lv_icmp_lt (tgt := 54) hx hb dX3_tripAndWear_41 (by decide) (fun c13 => ?_) (fun c13 => ?_)
      · skip
        exact W.vret hx hb hr (fun t ht hW => ⟨⟨(L, κ, g), rfl, rfl, z_end hK hI ht hW⟩, z_F hI ht⟩) (z_locs hI) dX3_tripAndWear_54
      · skip
        refine lv_aload_n hx hb dX3_tripAndWear_44 rfl (lv_at hl 1 rfl) ?_
        refine lv_dup hx hb dX3_tripAndWear_45 rfl ?_
        refine z_get (k := 5) (j := 19) hM hI hk0 rfl rfl hinX3 rfl (by decide) (by decide +kernel) (fun _ h9 => h9) dX3_tripAndWear_46 (fun v14 hv15 => ?_)
        obtain ⟨i16, rfl⟩ := hv15
        refine lv_iconst (v := 1) hx hb dX3_tripAndWear_49 (by decide) ?_
        refine lv_iadd hx hb dX3_tripAndWear_50 ?_
        refine lv_topi (fun v17 e18 => ?_)
        refine z_put (g' := g) (k := 5) (j := 19) hM hI hk0 rfl rfl hinX3 tyX3 tyX3_ok nmX3 rfl (by decide) (by decide +kernel) (fun _ h9 => h9) rfl rfl rfl rfl ⟨_, rfl⟩ (fun _ _ _ => rfl) dX3_tripAndWear_51 (fun H locs hI => ?_)
        exact W.vret hx hb hr (fun t ht hW => ⟨⟨(L, κ, g), rfl, rfl, z_end hK hI ht hW⟩, z_F hI ht⟩) (z_locs hI) dX3_tripAndWear_54
    · skip
      refine lv_aload_n hx hb dX3_tripAndWear_33 rfl (lv_at hl 1 rfl) ?_
      refine lv_iconst (v := 0) hx hb dX3_tripAndWear_34 (by decide) ?_
      refine z_put (g' := g) (k := 5) (j := 18) hM hI hk0 rfl rfl hinX3 tyX3 tyX3_ok nmX3 rfl (by decide) (by decide +kernel) (fun _ h9 => h9) rfl rfl (by decide) (by decide) (Or.inl rfl) (fun _ _ _ => rfl) dX3_tripAndWear_35 (fun H locs hI => ?_)
      refine lv_iload_n hx hb dX3_tripAndWear_38 rfl (lv_at hl 0 rfl) ?_
      refine lv_bipush (v := 85) hx hb dX3_tripAndWear_39 (by decide) ?_
      refine lv_icmp_lt (tgt := 54) hx hb dX3_tripAndWear_41 (by decide) (fun c19 => ?_) (fun c19 => ?_)
      · skip
        exact W.vret hx hb hr (fun t ht hW => ⟨⟨(L, κ, g), rfl, rfl, z_end hK hI ht hW⟩, z_F hI ht⟩) (z_locs hI) dX3_tripAndWear_54
      · skip
        refine lv_aload_n hx hb dX3_tripAndWear_44 rfl (lv_at hl 1 rfl) ?_
        refine lv_dup hx hb dX3_tripAndWear_45 rfl ?_
        refine z_get (k := 5) (j := 19) hM hI hk0 rfl rfl hinX3 rfl (by decide) (by decide +kernel) (fun _ h9 => h9) dX3_tripAndWear_46 (fun v20 hv21 => ?_)
        obtain ⟨i22, rfl⟩ := hv21
        refine lv_iconst (v := 1) hx hb dX3_tripAndWear_49 (by decide) ?_
        refine lv_iadd hx hb dX3_tripAndWear_50 ?_
        refine lv_topi (fun v23 e24 => ?_)
        refine z_put (g' := g) (k := 5) (j := 19) hM hI hk0 rfl rfl hinX3 tyX3 tyX3_ok nmX3 rfl (by decide) (by decide +kernel) (fun _ h9 => h9) rfl rfl rfl rfl ⟨_, rfl⟩ (fun _ _ _ => rfl) dX3_tripAndWear_51 (fun H locs hI => ?_)
        exact W.vret hx hb hr (fun t ht hW => ⟨⟨(L, κ, g), rfl, rfl, z_end hK hI ht hW⟩, z_F hI ht⟩) (z_locs hI) dX3_tripAndWear_54
  · skip
    refine lv_aload_n hx hb dX3_tripAndWear_19 rfl (lv_at hl 1 rfl) ?_
    refine lv_iconst (v := 1) hx hb dX3_tripAndWear_20 (by decide) ?_
    refine z_put (g' := g) (k := 5) (j := 18) hM hI hk0 rfl rfl hinX3 tyX3 tyX3_ok nmX3 rfl (by decide) (by decide +kernel) (fun _ h9 => h9) rfl rfl (by decide) (by decide) (Or.inr rfl) (fun _ _ _ => rfl) dX3_tripAndWear_21 (fun H locs hI => ?_)
    refine lv_goto (tgt := 38) hx hb dX3_tripAndWear_24 (by decide) ?_
    refine lv_iload_n hx hb dX3_tripAndWear_38 rfl (lv_at hl 0 rfl) ?_
    refine lv_bipush (v := 85) hx hb dX3_tripAndWear_39 (by decide) ?_
    refine lv_icmp_lt (tgt := 54) hx hb dX3_tripAndWear_41 (by decide) (fun c25 => ?_) (fun c25 => ?_)
    · skip
      exact W.vret hx hb hr (fun t ht hW => ⟨⟨(L, κ, g), rfl, rfl, z_end hK hI ht hW⟩, z_F hI ht⟩) (z_locs hI) dX3_tripAndWear_54
    · skip
      refine lv_aload_n hx hb dX3_tripAndWear_44 rfl (lv_at hl 1 rfl) ?_
      refine lv_dup hx hb dX3_tripAndWear_45 rfl ?_
      refine z_get (k := 5) (j := 19) hM hI hk0 rfl rfl hinX3 rfl (by decide) (by decide +kernel) (fun _ h9 => h9) dX3_tripAndWear_46 (fun v26 hv27 => ?_)
      obtain ⟨i28, rfl⟩ := hv27
      refine lv_iconst (v := 1) hx hb dX3_tripAndWear_49 (by decide) ?_
      refine lv_iadd hx hb dX3_tripAndWear_50 ?_
      refine lv_topi (fun v29 e30 => ?_)
      refine z_put (g' := g) (k := 5) (j := 19) hM hI hk0 rfl rfl hinX3 tyX3 tyX3_ok nmX3 rfl (by decide) (by decide +kernel) (fun _ h9 => h9) rfl rfl rfl rfl ⟨_, rfl⟩ (fun _ _ _ => rfl) dX3_tripAndWear_51 (fun H locs hI => ?_)
      exact W.vret hx hb hr (fun t ht hW => ⟨⟨(L, κ, g), rfl, rfl, z_end hK hI ht hW⟩, z_F hI ht⟩) (z_locs hI) dX3_tripAndWear_54

set_option maxHeartbeats 4000000 in
set_option maxRecDepth 100000 in
theorem c_X3_countIdle (l : Launch) (D : va_G) (tc : Nat → ClassId) (z0 : Nat) (L : List Nat) (κ : Nat → Nat) (g : Nat → Nat → Value) (sz : Nat) (p0 : Nat) (hk0 : κ p0 = 5) : Met l yX3_countIdle wsX3_countIdle ({ frames := 0, cells := 0, slots := 0, locals := 0 }) (zPc D tc z0 [.ref p0] [] (L, κ, g) sz) (va_Qv (fun (u : zS) => u = (L, κ, g)) (fun (u : zS) (t : State) => zB D tc (zA [] L sz) [] u t) (zA [] L sz)) 0 0 (zA [] L sz) := by
  refine Met.ofW (cc := cX3_countIdle) (maxL := 1) (ret := none) (by decide) rfl ?_
  intro p e s m args below meth c s₁ B hml hv
  obtain ⟨rfl, rfl, hK, hE, hI⟩ := hv.opn
  have hx := B.exec
  have hb := B.bytes
  have hr := B.returns
  have hts := atoms_spec (ws := wsX3_countIdle) B.pre
  have hown : s.vm.findClass RX3 = some m.cls := findClass_of_methodNamed B.named
  have hlocks := B.notSynchronized
  have hM : zM p s m c cX3_countIdle _ wsX3_countIdle RX3 D tc := ⟨hx, hb, hts, hown, hK⟩
  have hinX3 : ∀ w ∈ wsX30, w ∈ wsX3_countIdle := by decide +kernel
  have hl := lv_entry ([.ref p0]) (n := 1) (Nat.le_of_ble_eq_true rfl)
  rw [lg_entry_eq]
  generalize (lg_sl ([.ref p0]) ++ List.replicate (1 - (lg_sl ([.ref p0])).length) Slot.unset).toArray = ls at hl ⊢
  have hl : lv_has ls 1 [(0, .ref p0)] := hl
  refine lv_aload_n hx hb dX3_countIdle_0 rfl (lv_at hl 0 rfl) ?_
  refine lv_dup hx hb dX3_countIdle_1 rfl ?_
  refine z_get (k := 5) (j := 10) hM hI hk0 rfl rfl hinX3 rfl (by decide) (by decide +kernel) (fun _ h9 => h9) dX3_countIdle_2 (fun v1 hv2 => ?_)
  obtain ⟨i3, rfl⟩ := hv2
  refine lv_iconst (v := 1) hx hb dX3_countIdle_5 (by decide) ?_
  refine lv_iadd hx hb dX3_countIdle_6 ?_
  refine lv_topi (fun v4 e5 => ?_)
  refine z_put (g' := g) (k := 5) (j := 10) hM hI hk0 rfl rfl hinX3 tyX3 tyX3_ok nmX3 rfl (by decide) (by decide +kernel) (fun _ h9 => h9) rfl rfl rfl rfl ⟨_, rfl⟩ (fun _ _ _ => rfl) dX3_countIdle_7 (fun H locs hI => ?_)
  refine lv_aload_n hx hb dX3_countIdle_10 rfl (lv_at hl 0 rfl) ?_
  refine z_get (k := 5) (j := 10) hM hI hk0 rfl rfl hinX3 rfl (by decide) (by decide +kernel) (fun _ h9 => h9) dX3_countIdle_11 (fun v6 hv7 => ?_)
  obtain ⟨i8, rfl⟩ := hv7
  refine lv_bipush (v := 10) hx hb dX3_countIdle_14 (by decide) ?_
  refine lv_icmp_lt (tgt := 28) hx hb dX3_countIdle_16 (by decide) (fun c9 => ?_) (fun c9 => ?_)
  · skip
    refine lv_aload_n hx hb dX3_countIdle_28 rfl (lv_at hl 0 rfl) ?_
    refine z_get (k := 5) (j := 10) hM hI hk0 rfl rfl hinX3 rfl (by decide) (by decide +kernel) (fun _ h9 => h9) dX3_countIdle_29 (fun v10 hv11 => ?_)
    obtain ⟨i12, rfl⟩ := hv11
    refine lv_iconst (v := 3) hx hb dX3_countIdle_32 (by decide) ?_
    refine lv_icmp_lt (tgt := 51) hx hb dX3_countIdle_33 (by decide) (fun c13 => ?_) (fun c13 => ?_)
    · skip
      exact W.vret hx hb hr (fun t ht hW => ⟨⟨(L, κ, g), rfl, rfl, z_end hK hI ht hW⟩, z_F hI ht⟩) (z_locs hI) dX3_countIdle_51
    · skip
      refine lv_aload_n hx hb dX3_countIdle_36 rfl (lv_at hl 0 rfl) ?_
      refine z_get (k := 5) (j := 9) hM hI hk0 rfl rfl hinX3 rfl (by decide) (by decide +kernel) (fun _ h9 => h9) dX3_countIdle_37 (fun v14 hv15 => ?_)
      obtain ⟨i16, rfl, hf17⟩ := hv15
      refine lv_bipush (v := 97) hx hb dX3_countIdle_40 (by decide) ?_
      refine lv_icmp_ne (tgt := 51) hx hb dX3_countIdle_42 (by decide) (fun c18 => ?_) (fun c18 => ?_)
      · skip
        exact W.vret hx hb hr (fun t ht hW => ⟨⟨(L, κ, g), rfl, rfl, z_end hK hI ht hW⟩, z_F hI ht⟩) (z_locs hI) dX3_countIdle_51
      · skip
        refine lv_aload_n hx hb dX3_countIdle_45 rfl (lv_at hl 0 rfl) ?_
        refine lv_bipush (v := 108) hx hb dX3_countIdle_46 (by decide) ?_
        refine z_put (g' := g) (k := 5) (j := 9) hM hI hk0 rfl rfl hinX3 tyX3 tyX3_ok nmX3 rfl (by decide) (by decide +kernel) (fun _ h9 => h9) rfl rfl (by decide) (by decide) ⟨_, rfl, by decide⟩ (fun _ _ _ => rfl) dX3_countIdle_48 (fun H locs hI => ?_)
        exact W.vret hx hb hr (fun t ht hW => ⟨⟨(L, κ, g), rfl, rfl, z_end hK hI ht hW⟩, z_F hI ht⟩) (z_locs hI) dX3_countIdle_51
  · skip
    refine lv_aload_n hx hb dX3_countIdle_19 rfl (lv_at hl 0 rfl) ?_
    refine lv_bipush (v := 100) hx hb dX3_countIdle_20 (by decide) ?_
    refine z_put (g' := g) (k := 5) (j := 9) hM hI hk0 rfl rfl hinX3 tyX3 tyX3_ok nmX3 rfl (by decide) (by decide +kernel) (fun _ h9 => h9) rfl rfl (by decide) (by decide) ⟨_, rfl, by decide⟩ (fun _ _ _ => rfl) dX3_countIdle_22 (fun H locs hI => ?_)
    refine lv_goto (tgt := 51) hx hb dX3_countIdle_25 (by decide) ?_
    exact W.vret hx hb hr (fun t ht hW => ⟨⟨(L, κ, g), rfl, rfl, z_end hK hI ht hW⟩, z_F hI ht⟩) (z_locs hI) dX3_countIdle_51

set_option maxHeartbeats 4000000 in
set_option maxRecDepth 100000 in
theorem c_X3_beginToWake (l : Launch) (D : va_G) (tc : Nat → ClassId) (z0 : Nat) (L : List Nat) (κ : Nat → Nat) (g : Nat → Nat → Value) (sz : Nat) (p0 : Nat) (hk0 : κ p0 = 5) : Met l yX3_beginToWake wsX3_beginToWake ({ frames := 0, cells := 0, slots := 0, locals := 0 }) (zPc D tc z0 [.ref p0] [] (L, κ, g) sz) (va_Qv (fun (u : zS) => u = (L, κ, g)) (fun (u : zS) (t : State) => zB D tc (zA [] L sz) [] u t) (zA [] L sz)) 0 0 (zA [] L sz) := by
  refine Met.ofW (cc := cX3_beginToWake) (maxL := 1) (ret := none) (by decide) rfl ?_
  intro p e s m args below meth c s₁ B hml hv
  obtain ⟨rfl, rfl, hK, hE, hI⟩ := hv.opn
  have hx := B.exec
  have hb := B.bytes
  have hr := B.returns
  have hts := atoms_spec (ws := wsX3_beginToWake) B.pre
  have hown : s.vm.findClass RX3 = some m.cls := findClass_of_methodNamed B.named
  have hlocks := B.notSynchronized
  have hM : zM p s m c cX3_beginToWake _ wsX3_beginToWake RX3 D tc := ⟨hx, hb, hts, hown, hK⟩
  have hinX3 : ∀ w ∈ wsX30, w ∈ wsX3_beginToWake := by decide +kernel
  have hl := lv_entry ([.ref p0]) (n := 1) (Nat.le_of_ble_eq_true rfl)
  rw [lg_entry_eq]
  generalize (lg_sl ([.ref p0]) ++ List.replicate (1 - (lg_sl ([.ref p0])).length) Slot.unset).toArray = ls at hl ⊢
  have hl : lv_has ls 1 [(0, .ref p0)] := hl
  refine lv_aload_n hx hb dX3_beginToWake_0 rfl (lv_at hl 0 rfl) ?_
  refine lv_aload_n hx hb dX3_beginToWake_1 rfl (lv_at hl 0 rfl) ?_
  refine z_get (k := 5) (j := 9) hM hI hk0 rfl rfl hinX3 rfl (by decide) (by decide +kernel) (fun _ h9 => h9) dX3_beginToWake_2 (fun v1 hv2 => ?_)
  obtain ⟨i3, rfl, hf4⟩ := hv2
  refine lv_bipush (v := 100) hx hb dX3_beginToWake_5 (by decide) ?_
  refine lv_icmp_ne (tgt := 14) hx hb dX3_beginToWake_7 (by decide) (fun c5 => ?_) (fun c5 => ?_)
  · skip
    refine lv_iconst (v := 0) hx hb dX3_beginToWake_14 (by decide) ?_
    refine z_put (g' := g) (k := 5) (j := 12) hM hI hk0 rfl rfl hinX3 tyX3 tyX3_ok nmX3 rfl (by decide) (by decide +kernel) (fun _ h9 => h9) rfl rfl (by decide) (by decide) (Or.inl rfl) (fun _ _ _ => rfl) dX3_beginToWake_15 (fun H locs hI => ?_)
    refine lv_aload_n hx hb dX3_beginToWake_18 rfl (lv_at hl 0 rfl) ?_
    refine lv_aload_n hx hb dX3_beginToWake_19 rfl (lv_at hl 0 rfl) ?_
    refine z_get (k := 5) (j := 12) hM hI hk0 rfl rfl hinX3 rfl (by decide) (by decide +kernel) (fun _ h9 => h9) dX3_beginToWake_20 (fun v6 hv7 => ?_)
    obtain ⟨i8, rfl, hz9⟩ := zv_b hv7
    refine lv_if_eq (tgt := 30) hx hb dX3_beginToWake_23 (by decide) (fun c10 => ?_) (fun c10 => ?_)
    · skip
      refine lv_iconst (v := 1) hx hb dX3_beginToWake_30 (by decide) ?_
      refine z_put (g' := g) (k := 5) (j := 11) hM hI hk0 rfl rfl hinX3 tyX3 tyX3_ok nmX3 rfl (by decide) (by decide +kernel) (fun _ h9 => h9) rfl rfl rfl rfl ⟨_, rfl⟩ (fun _ _ _ => rfl) dX3_beginToWake_31 (fun H locs hI => ?_)
      refine lv_aload_n hx hb dX3_beginToWake_34 rfl (lv_at hl 0 rfl) ?_
      refine lv_bipush (v := 119) hx hb dX3_beginToWake_35 (by decide) ?_
      refine z_put (g' := g) (k := 5) (j := 9) hM hI hk0 rfl rfl hinX3 tyX3 tyX3_ok nmX3 rfl (by decide) (by decide +kernel) (fun _ h9 => h9) rfl rfl (by decide) (by decide) ⟨_, rfl, by decide⟩ (fun _ _ _ => rfl) dX3_beginToWake_37 (fun H locs hI => ?_)
      exact W.vret hx hb hr (fun t ht hW => ⟨⟨(L, κ, g), rfl, rfl, z_end hK hI ht hW⟩, z_F hI ht⟩) (z_locs hI) dX3_beginToWake_40
    · skip
      refine lv_iconst (v := 4) hx hb dX3_beginToWake_26 (by decide) ?_
      refine lv_goto (tgt := 31) hx hb dX3_beginToWake_27 (by decide) ?_
      refine z_put (g' := g) (k := 5) (j := 11) hM hI hk0 rfl rfl hinX3 tyX3 tyX3_ok nmX3 rfl (by decide) (by decide +kernel) (fun _ h9 => h9) rfl rfl rfl rfl ⟨_, rfl⟩ (fun _ _ _ => rfl) dX3_beginToWake_31 (fun H locs hI => ?_)
      refine lv_aload_n hx hb dX3_beginToWake_34 rfl (lv_at hl 0 rfl) ?_
      refine lv_bipush (v := 119) hx hb dX3_beginToWake_35 (by decide) ?_
      refine z_put (g' := g) (k := 5) (j := 9) hM hI hk0 rfl rfl hinX3 tyX3 tyX3_ok nmX3 rfl (by decide) (by decide +kernel) (fun _ h9 => h9) rfl rfl (by decide) (by decide) ⟨_, rfl, by decide⟩ (fun _ _ _ => rfl) dX3_beginToWake_37 (fun H locs hI => ?_)
      exact W.vret hx hb hr (fun t ht hW => ⟨⟨(L, κ, g), rfl, rfl, z_end hK hI ht hW⟩, z_F hI ht⟩) (z_locs hI) dX3_beginToWake_40
  · skip
    refine lv_iconst (v := 1) hx hb dX3_beginToWake_10 (by decide) ?_
    refine lv_goto (tgt := 15) hx hb dX3_beginToWake_11 (by decide) ?_
    refine z_put (g' := g) (k := 5) (j := 12) hM hI hk0 rfl rfl hinX3 tyX3 tyX3_ok nmX3 rfl (by decide) (by decide +kernel) (fun _ h9 => h9) rfl rfl (by decide) (by decide) (Or.inr rfl) (fun _ _ _ => rfl) dX3_beginToWake_15 (fun H locs hI => ?_)
    refine lv_aload_n hx hb dX3_beginToWake_18 rfl (lv_at hl 0 rfl) ?_
    refine lv_aload_n hx hb dX3_beginToWake_19 rfl (lv_at hl 0 rfl) ?_
    refine z_get (k := 5) (j := 12) hM hI hk0 rfl rfl hinX3 rfl (by decide) (by decide +kernel) (fun _ h9 => h9) dX3_beginToWake_20 (fun v11 hv12 => ?_)
    obtain ⟨i13, rfl, hz14⟩ := zv_b hv12
    refine lv_if_eq (tgt := 30) hx hb dX3_beginToWake_23 (by decide) (fun c15 => ?_) (fun c15 => ?_)
    · skip
      refine lv_iconst (v := 1) hx hb dX3_beginToWake_30 (by decide) ?_
      refine z_put (g' := g) (k := 5) (j := 11) hM hI hk0 rfl rfl hinX3 tyX3 tyX3_ok nmX3 rfl (by decide) (by decide +kernel) (fun _ h9 => h9) rfl rfl rfl rfl ⟨_, rfl⟩ (fun _ _ _ => rfl) dX3_beginToWake_31 (fun H locs hI => ?_)
      refine lv_aload_n hx hb dX3_beginToWake_34 rfl (lv_at hl 0 rfl) ?_
      refine lv_bipush (v := 119) hx hb dX3_beginToWake_35 (by decide) ?_
      refine z_put (g' := g) (k := 5) (j := 9) hM hI hk0 rfl rfl hinX3 tyX3 tyX3_ok nmX3 rfl (by decide) (by decide +kernel) (fun _ h9 => h9) rfl rfl (by decide) (by decide) ⟨_, rfl, by decide⟩ (fun _ _ _ => rfl) dX3_beginToWake_37 (fun H locs hI => ?_)
      exact W.vret hx hb hr (fun t ht hW => ⟨⟨(L, κ, g), rfl, rfl, z_end hK hI ht hW⟩, z_F hI ht⟩) (z_locs hI) dX3_beginToWake_40
    · skip
      refine lv_iconst (v := 4) hx hb dX3_beginToWake_26 (by decide) ?_
      refine lv_goto (tgt := 31) hx hb dX3_beginToWake_27 (by decide) ?_
      refine z_put (g' := g) (k := 5) (j := 11) hM hI hk0 rfl rfl hinX3 tyX3 tyX3_ok nmX3 rfl (by decide) (by decide +kernel) (fun _ h9 => h9) rfl rfl rfl rfl ⟨_, rfl⟩ (fun _ _ _ => rfl) dX3_beginToWake_31 (fun H locs hI => ?_)
      refine lv_aload_n hx hb dX3_beginToWake_34 rfl (lv_at hl 0 rfl) ?_
      refine lv_bipush (v := 119) hx hb dX3_beginToWake_35 (by decide) ?_
      refine z_put (g' := g) (k := 5) (j := 9) hM hI hk0 rfl rfl hinX3 tyX3 tyX3_ok nmX3 rfl (by decide) (by decide +kernel) (fun _ h9 => h9) rfl rfl (by decide) (by decide) ⟨_, rfl, by decide⟩ (fun _ _ _ => rfl) dX3_beginToWake_37 (fun H locs hI => ?_)
      exact W.vret hx hb hr (fun t ht hW => ⟨⟨(L, κ, g), rfl, rfl, z_end hK hI ht hW⟩, z_F hI ht⟩) (z_locs hI) dX3_beginToWake_40

set_option maxHeartbeats 4000000 in
set_option maxRecDepth 100000 in
theorem c_X3_wish (l : Launch) (D : va_G) (tc : Nat → ClassId) (z0 : Nat) (L : List Nat) (κ : Nat → Nat) (g : Nat → Nat → Value) (sz : Nat) (p0 : Nat) (hk0 : κ p0 = 5) (p1 : Int32) : Met l yX3_wish wsX3_wish ({ frames := 1, cells := 0, slots := 0, locals := 22 }) (zPc D tc z0 [.ref p0, .int p1] [] (L, κ, g) sz) (va_Qv (fun (u : zS) => u = (L, κ, g)) (fun (u : zS) (t : State) => zB D tc (zA [] L sz) [] u t) (zA [] L sz)) 0 0 (zA [] L sz) := by
  refine Met.ofW (cc := cX3_wish) (maxL := 3) (ret := none) (by decide) rfl ?_
  intro p e s m args below meth c s₁ B hml hv
  obtain ⟨rfl, rfl, hK, hE, hI⟩ := hv.opn
  have hx := B.exec
  have hb := B.bytes
  have hr := B.returns
  have hts := atoms_spec (ws := wsX3_wish) B.pre
  have hown : s.vm.findClass RX3 = some m.cls := findClass_of_methodNamed B.named
  have hlocks := B.notSynchronized
  have hM : zM p s m c cX3_wish _ wsX3_wish RX3 D tc := ⟨hx, hb, hts, hown, hK⟩
  have hinX3 : ∀ w ∈ wsX30, w ∈ wsX3_wish := by decide +kernel
  have hl := lv_entry ([.ref p0, .int p1]) (n := 3) (Nat.le_of_ble_eq_true rfl)
  rw [lg_entry_eq]
  generalize (lg_sl ([.ref p0, .int p1]) ++ List.replicate (3 - (lg_sl ([.ref p0, .int p1])).length) Slot.unset).toArray = ls at hl ⊢
  have hl : lv_has ls 3 [(0, .ref p0), (1, .int p1)] := hl
  refine lv_aload_n hx hb dX3_wish_0 rfl (lv_at hl 0 rfl) ?_
  refine z_get (k := 5) (j := 4) hM hI hk0 rfl rfl hinX3 rfl (by decide) (by decide +kernel) (fun _ h9 => h9) dX3_wish_1 (fun v1 hv2 => ?_)
  obtain ⟨i3, rfl⟩ := hv2
  refine lv_istore_n (lv' := [(2, .int i3), (0, .ref p0), (1, .int p1)]) hx hb dX3_wish_4 rfl hl (by decide) rfl (fun ls hl => ?_)
  refine lv_aload_n hx hb dX3_wish_5 rfl (lv_at hl 1 rfl) ?_
  refine z_get (k := 5) (j := 3) hM hI hk0 rfl rfl hinX3 rfl (by decide) (by decide +kernel) (fun _ h9 => h9) dX3_wish_6 (fun v4 hv5 => ?_)
  obtain ⟨hg7, i6, rfl, hf8⟩ := hv5
  refine lv_bipush (v := 108) hx hb dX3_wish_9 (by decide) ?_
  have hL53 : ∀ (H : Heap) (locs : List Loc) (x9 : Int32)    (hI : zI D tc (zA [] L s.heap.size) s.heap [] L κ g H locs) (ls : Array Slot) (hl : lv_has ls 3 [(2, .int x9), (0, .ref p0), (1, .int p1)]), W p l e (headSpec wsX3_wish ({ frames := 1, cells := 0, slots := 0, locals := 22 })).room s m ([.ref p0, .int p1] : List Value).toArray below meth c H locs 0 0 (MQ below (va_Qv (fun (u : zS) => u = (L, κ, g)) (fun (u : zS) (t : State) => zB D tc (zA [] L s.heap.size) [] u t) (zA [] L s.heap.size)) ([.ref p0, .int p1] : List Value).toArray s 0 0 (zA [] L s.heap.size)) (F0 m 53 ls []) := by
    intro H locs x9 hI ls hl
    refine lv_aload_n hx hb dX3_wish_53 rfl (lv_at hl 1 rfl) ?_
    refine lv_iconst (v := 0) hx hb dX3_wish_54 (by decide) ?_
    refine lv_aload_n hx hb dX3_wish_55 rfl (lv_at hl 1 rfl) ?_
    refine vp_callSi (W.runV (As := []) (rest := [.int 0, .ref p0]) ⟨hx, hb, hml, hown, hts⟩ (c_X3_greatestSpeed l _ _ _ _ _ _ _ p0 hk0) (cwV 0 hts gX3_wish_X3_greatestSpeed rfl rfl rfl (by decide +kernel) ⟨Nat.le_of_ble_eq_true rfl, Nat.le_of_ble_eq_true rfl⟩) (z_preV hK hE hI [] rfl rfl (z_recv hK hI hk0 rfl rfl)) rfl rfl hl.1 rfl (lv_room (Nat.le_of_ble_eq_true rfl)) dX3_wish_56 ⟨Nat.le_of_ble_eq_true rfl, Nat.le_of_ble_eq_true rfl⟩) (fun v10 hw11 => ?_)
    refine lv_iload_n hx hb dX3_wish_59 rfl (lv_at hl 0 rfl) ?_
    refine va_mmin hx hb (hml.trans hl.1.symm) hown (hts (.methodLink RX3 102 Lib.Math.min.name) (by decide +kernel)) (hts (.static Lib.Math.min.name) (by decide +kernel)) (hts (.initialized "java/lang/Math") (by decide +kernel)) (hts (.code Lib.Math.min.name Lib.Math.min.code 2 (some .int)) (by decide +kernel)) (Nat.le_of_ble_eq_true rfl) (Nat.le_of_ble_eq_true rfl) (Nat.le_of_ble_eq_true rfl) (Nat.le_of_ble_eq_true rfl) dX3_wish_60 ?_
    refine lv_topi (fun v12 e13 => ?_)
    refine va_mmax hx hb (hml.trans hl.1.symm) hown (hts (.methodLink RX3 108 Lib.Math.max.name) (by decide +kernel)) (hts (.static Lib.Math.max.name) (by decide +kernel)) (hts (.initialized "java/lang/Math") (by decide +kernel)) (hts (.code Lib.Math.max.name Lib.Math.max.code 2 (some .int)) (by decide +kernel)) (Nat.le_of_ble_eq_true rfl) (Nat.le_of_ble_eq_true rfl) (Nat.le_of_ble_eq_true rfl) (Nat.le_of_ble_eq_true rfl) dX3_wish_63 ?_
    refine lv_topi (fun v14 e15 => ?_)
    refine z_put (g' := g) (k := 5) (j := 5) hM hI hk0 rfl rfl hinX3 tyX3 tyX3_ok nmX3 rfl (by decide) (by decide +kernel) (fun _ h9 => h9) rfl rfl rfl rfl ⟨_, rfl⟩ (fun _ _ _ => rfl) dX3_wish_66 (fun H locs hI => ?_)
    exact W.vret hx hb hr (fun t ht hW => ⟨⟨(L, κ, g), rfl, rfl, z_end hK hI ht hW⟩, z_F hI ht⟩) (z_locs hI) dX3_wish_69
  refine lv_icmp_ne (tgt := 40) hx hb dX3_wish_11 (by decide) (fun c16 => ?_) (fun c16 => ?_)
  · skip
    refine lv_aload_n hx hb dX3_wish_40 rfl (lv_at hl 1 rfl) ?_
    refine z_get (k := 5) (j := 3) hM hI hk0 rfl rfl hinX3 rfl (by decide) (by decide +kernel) (fun _ h9 => h9) dX3_wish_41 (fun v17 hv18 => ?_)
    obtain ⟨hg20, i19, rfl, hf21⟩ := hv18
    refine lv_bipush (v := 119) hx hb dX3_wish_44 (by decide) ?_
    refine lv_icmp_ne (tgt := 53) hx hb dX3_wish_46 (by decide) (fun c22 => ?_) (fun c22 => ?_)
    · skip
      exact hL53 _ _ i3 hI ls (lv_sub hl [0, 1, 2] rfl)
    · skip
      refine lv_iconst (v := 3) hx hb dX3_wish_49 (by decide) ?_
      refine lv_iload_n hx hb dX3_wish_50 rfl (lv_at hl 2 rfl) ?_
      refine lv_imul hx hb dX3_wish_51 ?_
      refine lv_topi (fun v23 e24 => ?_)
      refine lv_istore_n (lv' := [(2, .int v23), (0, .ref p0), (1, .int p1)]) hx hb dX3_wish_52 rfl hl (by decide) rfl (fun ls hl => ?_)
      exact hL53 _ _ v23 hI ls (lv_sub hl [0, 1, 2] rfl)
  · skip
    refine lv_aload_n hx hb dX3_wish_14 rfl (lv_at hl 1 rfl) ?_
    refine z_get (k := 5) (j := 14) hM hI hk0 rfl rfl hinX3 rfl (by decide) (by decide +kernel) (fun _ h9 => h9) dX3_wish_15 (fun v25 hv26 => ?_)
    obtain ⟨i27, rfl, hz28⟩ := zv_b hv26
    refine lv_if_eq (tgt := 30) hx hb dX3_wish_18 (by decide) (fun c29 => ?_) (fun c29 => ?_)
    · skip
      refine lv_aload_n hx hb dX3_wish_30 rfl (lv_at hl 1 rfl) ?_
      refine z_get (k := 5) (j := 7) hM hI hk0 rfl rfl hinX3 rfl (by decide) (by decide +kernel) (fun _ h9 => h9) dX3_wish_31 (fun v30 hv31 => ?_)
      obtain ⟨i32, rfl⟩ := hv31
      refine lv_iconst (v := 1) hx hb dX3_wish_34 (by decide) ?_
      refine lv_isub hx hb dX3_wish_35 ?_
      refine lv_topi (fun v33 e34 => ?_)
      refine lv_istore_n (lv' := [(2, .int v33), (0, .ref p0), (1, .int p1)]) hx hb dX3_wish_36 rfl hl (by decide) rfl (fun ls hl => ?_)
      refine lv_goto (tgt := 53) hx hb dX3_wish_37 (by decide) ?_
      exact hL53 _ _ v33 hI ls (lv_sub hl [0, 1, 2] rfl)
    · skip
      refine lv_aload_n hx hb dX3_wish_21 rfl (lv_at hl 1 rfl) ?_
      refine z_get (k := 5) (j := 7) hM hI hk0 rfl rfl hinX3 rfl (by decide) (by decide +kernel) (fun _ h9 => h9) dX3_wish_22 (fun v35 hv36 => ?_)
      obtain ⟨i37, rfl⟩ := hv36
      refine lv_iconst (v := 1) hx hb dX3_wish_25 (by decide) ?_
      refine lv_iadd hx hb dX3_wish_26 ?_
      refine lv_topi (fun v38 e39 => ?_)
      refine lv_goto (tgt := 36) hx hb dX3_wish_27 (by decide) ?_
      refine lv_istore_n (lv' := [(2, .int v38), (0, .ref p0), (1, .int p1)]) hx hb dX3_wish_36 rfl hl (by decide) rfl (fun ls hl => ?_)
      refine lv_goto (tgt := 53) hx hb dX3_wish_37 (by decide) ?_
      exact hL53 _ _ v38 hI ls (lv_sub hl [0, 1, 2] rfl)

set_option maxHeartbeats 4000000 in
set_option maxRecDepth 100000 in
theorem c_X3_limit (l : Launch) (D : va_G) (tc : Nat → ClassId) (z0 : Nat) (L : List Nat) (κ : Nat → Nat) (g : Nat → Nat → Value) (sz : Nat) (p0 : Nat) (hk0 : κ p0 = 5) (p1 : Int32) (p2 : Int32) (hc2 : fits .char (.int p2) = true) : Met l yX3_limit wsX3_limit ({ frames := 0, cells := 0, slots := 0, locals := 0 }) (zPc D tc z0 [.ref p0, .int p1, .int p2] [] (L, κ, g) sz) (va_Qv (fun (u : zS) => u = (L, κ, g)) (fun (u : zS) (t : State) => zB D tc (zA [] L sz) [] u t) (zA [] L sz)) 0 0 (zA [] L sz) := by
  refine Met.ofW (cc := cX3_limit) (maxL := 3) (ret := none) (by decide) rfl ?_
  intro p e s m args below meth c s₁ B hml hv
  obtain ⟨rfl, rfl, hK, hE, hI⟩ := hv.opn
  have hx := B.exec
  have hb := B.bytes
  have hr := B.returns
  have hts := atoms_spec (ws := wsX3_limit) B.pre
  have hown : s.vm.findClass RX3 = some m.cls := findClass_of_methodNamed B.named
  have hlocks := B.notSynchronized
  have hM : zM p s m c cX3_limit _ wsX3_limit RX3 D tc := ⟨hx, hb, hts, hown, hK⟩
  have hinX3 : ∀ w ∈ wsX30, w ∈ wsX3_limit := by decide +kernel
  have hl := lv_entry ([.ref p0, .int p1, .int p2]) (n := 3) (Nat.le_of_ble_eq_true rfl)
  rw [lg_entry_eq]
  generalize (lg_sl ([.ref p0, .int p1, .int p2]) ++ List.replicate (3 - (lg_sl ([.ref p0, .int p1, .int p2])).length) Slot.unset).toArray = ls at hl ⊢
  have hl : lv_has ls 3 [(0, .ref p0), (1, .int p1), (2, .int p2)] := hl
  refine lv_iload_n hx hb dX3_limit_0 rfl (lv_at hl 1 rfl) ?_
  refine lv_aload_n hx hb dX3_limit_1 rfl (lv_at hl 0 rfl) ?_
  refine z_get (k := 5) (j := 6) hM hI hk0 rfl rfl hinX3 rfl (by decide) (by decide +kernel) (fun _ h9 => h9) dX3_limit_2 (fun v1 hv2 => ?_)
  obtain ⟨i3, rfl⟩ := hv2
  refine lv_icmp_ge (tgt := 18) hx hb dX3_limit_5 (by decide) (fun c4 => ?_) (fun c4 => ?_)
  · skip
    exact W.vret hx hb hr (fun t ht hW => ⟨⟨(L, κ, g), rfl, rfl, z_end hK hI ht hW⟩, z_F hI ht⟩) (z_locs hI) dX3_limit_18
  · skip
    refine lv_aload_n hx hb dX3_limit_8 rfl (lv_at hl 0 rfl) ?_
    refine lv_iload_n hx hb dX3_limit_9 rfl (lv_at hl 1 rfl) ?_
    refine z_put (g' := g) (k := 5) (j := 6) hM hI hk0 rfl rfl hinX3 tyX3 tyX3_ok nmX3 rfl (by decide) (by decide +kernel) (fun _ h9 => h9) rfl rfl rfl rfl ⟨_, rfl⟩ (fun _ _ _ => rfl) dX3_limit_10 (fun H locs hI => ?_)
    refine lv_aload_n hx hb dX3_limit_13 rfl (lv_at hl 0 rfl) ?_
    refine lv_iload_n hx hb dX3_limit_14 rfl (lv_at hl 2 rfl) ?_
    refine z_put (g' := g) (k := 5) (j := 8) hM hI hk0 rfl rfl hinX3 tyX3 tyX3_ok nmX3 rfl (by decide) (by decide +kernel) (fun _ h9 => h9) rfl rfl (z_cn (by assumption)) (by assumption) ⟨_, rfl, (by assumption)⟩ (fun _ _ _ => rfl) dX3_limit_15 (fun H locs hI => ?_)
    exact W.vret hx hb hr (fun t ht hW => ⟨⟨(L, κ, g), rfl, rfl, z_end hK hI ht hW⟩, z_F hI ht⟩) (z_locs hI) dX3_limit_18

set_option maxHeartbeats 4000000 in
set_option maxRecDepth 100000 in
theorem c_X3_powerOfSpeed (l : Launch) (D : va_G) (tc : Nat → ClassId) (z0 : Nat) (L : List Nat) (κ : Nat → Nat) (g : Nat → Nat → Value) (sz : Nat) (p0 : Nat) (hk0 : κ p0 = 5) : Met l yX3_powerOfSpeed wsX3_powerOfSpeed ({ frames := 0, cells := 0, slots := 0, locals := 0 }) (zPc D tc z0 [.ref p0] [] (L, κ, g) sz) (vp_Si (fun r : Int32 => True)) 0 0 (fun _ => False) := by
  refine Met.ofW (cc := cX3_powerOfSpeed) (maxL := 1) (ret := (some .int)) (by decide) rfl ?_
  intro p e s m args below meth c s₁ B hml hv
  obtain ⟨rfl, rfl, hK, hE, hI⟩ := hv.opn
  have hx := B.exec
  have hb := B.bytes
  have hr := B.returns
  have hts := atoms_spec (ws := wsX3_powerOfSpeed) B.pre
  have hown : s.vm.findClass RX3 = some m.cls := findClass_of_methodNamed B.named
  have hlocks := B.notSynchronized
  have hM : zM p s m c cX3_powerOfSpeed _ wsX3_powerOfSpeed RX3 D tc := ⟨hx, hb, hts, hown, hK⟩
  have hinX3 : ∀ w ∈ wsX30, w ∈ wsX3_powerOfSpeed := by decide +kernel
  have hinX4 : ∀ w ∈ wsX40, w ∈ wsX3_powerOfSpeed := by decide +kernel
  have hl := lv_entry ([.ref p0]) (n := 1) (Nat.le_of_ble_eq_true rfl)
  rw [lg_entry_eq]
  generalize (lg_sl ([.ref p0]) ++ List.replicate (1 - (lg_sl ([.ref p0])).length) Slot.unset).toArray = ls at hl ⊢
  have hl : lv_has ls 1 [(0, .ref p0)] := hl
  refine lv_aload_n hx hb dX3_powerOfSpeed_0 rfl (lv_at hl 0 rfl) ?_
  refine z_get (k := 5) (j := 7) hM hI hk0 rfl rfl hinX3 rfl (by decide) (by decide +kernel) (fun _ h9 => h9) dX3_powerOfSpeed_1 (fun v1 hv2 => ?_)
  obtain ⟨i3, rfl⟩ := hv2
  refine lv_aload_n hx hb dX3_powerOfSpeed_4 rfl (lv_at hl 0 rfl) ?_
  refine z_get (k := 5) (j := 1) hM hI hk0 rfl rfl hinX3 rfl (by decide) (by decide +kernel) (fun _ h9 => h9) dX3_powerOfSpeed_5 (fun v4 hv5 => ?_)
  obtain ⟨i6, rfl, hr7⟩ := hv5
  refine z_get (k := 6) (j := 0) hM hI hr7 rfl rfl hinX4 rfl (by decide) (by decide +kernel) (fun _ h9 => h9) dX3_powerOfSpeed_8 (fun v8 hv9 => ?_)
  obtain ⟨i10, rfl⟩ := hv9
  refine lv_imul hx hb dX3_powerOfSpeed_11 ?_
  refine lv_topi (fun v11 e12 => ?_)
  refine lv_aload_n hx hb dX3_powerOfSpeed_12 rfl (lv_at hl 0 rfl) ?_
  refine z_get (k := 5) (j := 13) hM hI hk0 rfl rfl hinX3 rfl (by decide) (by decide +kernel) (fun _ h9 => h9) dX3_powerOfSpeed_13 (fun v13 hv14 => ?_)
  obtain ⟨i15, rfl, hz16⟩ := zv_b hv14
  refine lv_if_eq (tgt := 24) hx hb dX3_powerOfSpeed_16 (by decide) (fun c17 => ?_) (fun c17 => ?_)
  · skip
    refine lv_sipush (v := 200) hx hb dX3_powerOfSpeed_24 (by decide) ?_
    refine lv_idiv hx hb dX3_powerOfSpeed_27 (by decide) ?_
    refine lv_topi (fun v18 e19 => ?_)
    exact W.iret (v := v18) hx hb hr (fun t ht hW => ⟨_, rfl, trivial, ht⟩) (fun q h => by cases h) dX3_powerOfSpeed_28
  · skip
    refine lv_bipush (v := 50) hx hb dX3_powerOfSpeed_19 (by decide) ?_
    refine lv_goto (tgt := 27) hx hb dX3_powerOfSpeed_21 (by decide) ?_
    refine lv_idiv hx hb dX3_powerOfSpeed_27 (by decide) ?_
    refine lv_topi (fun v20 e21 => ?_)
    exact W.iret (v := v20) hx hb hr (fun t ht hW => ⟨_, rfl, trivial, ht⟩) (fun q h => by cases h) dX3_powerOfSpeed_28

set_option maxHeartbeats 4000000 in
set_option maxRecDepth 100000 in
theorem c_X3_tellLeak (l : Launch) (D : va_G) (tc : Nat → ClassId) (z0 : Nat) (L : List Nat) (κ : Nat → Nat) (g : Nat → Nat → Value) (sz : Nat) (p0 : Nat) (hk0 : κ p0 = 5) (p1 : Nat) (hk1 : κ p1 = 2) : Met l yX3_tellLeak wsX3_tellLeak ({ frames := 3, cells := 0, slots := 0, locals := 69 }) (zPc D tc z0 [.ref p0, .ref p1] [] (L, κ, g) sz) (va_Qv (fun (u : zS) => u = (L, κ, g)) (fun (u : zS) (t : State) => zB D tc (zA [] L sz) [] u t) (zA [] L sz)) 0 0 (zA [] L sz) := by
  refine Met.ofW (cc := cX3_tellLeak) (maxL := 2) (ret := none) (by decide) rfl ?_
  intro p e s m args below meth c s₁ B hml hv
  obtain ⟨rfl, rfl, hK, hE, hI⟩ := hv.opn
  have hx := B.exec
  have hb := B.bytes
  have hr := B.returns
  have hts := atoms_spec (ws := wsX3_tellLeak) B.pre
  have hown : s.vm.findClass RX3 = some m.cls := findClass_of_methodNamed B.named
  have hlocks := B.notSynchronized
  have hM : zM p s m c cX3_tellLeak _ wsX3_tellLeak RX3 D tc := ⟨hx, hb, hts, hown, hK⟩
  have hinX3 : ∀ w ∈ wsX30, w ∈ wsX3_tellLeak := by decide +kernel
  have hinX1 : ∀ w ∈ wsX10, w ∈ wsX3_tellLeak := by decide +kernel
  have hinX4 : ∀ w ∈ wsX40, w ∈ wsX3_tellLeak := by decide +kernel
  have hl := lv_entry ([.ref p0, .ref p1]) (n := 2) (Nat.le_of_ble_eq_true rfl)
  rw [lg_entry_eq]
  generalize (lg_sl ([.ref p0, .ref p1]) ++ List.replicate (2 - (lg_sl ([.ref p0, .ref p1])).length) Slot.unset).toArray = ls at hl ⊢
  have hl : lv_has ls 2 [(0, .ref p0), (1, .ref p1)] := hl
  refine lv_aload_n hx hb dX3_tellLeak_0 rfl (lv_at hl 0 rfl) ?_
  refine z_get (k := 5) (j := 9) hM hI hk0 rfl rfl hinX3 rfl (by decide) (by decide +kernel) (fun _ h9 => h9) dX3_tellLeak_1 (fun v1 hv2 => ?_)
  obtain ⟨i3, rfl, hf4⟩ := hv2
  refine lv_bipush (v := 100) hx hb dX3_tellLeak_4 (by decide) ?_
  refine lv_icmp_ne (tgt := 15) hx hb dX3_tellLeak_6 (by decide) (fun c5 => ?_) (fun c5 => ?_)
  · skip
    refine lv_aload_n hx hb dX3_tellLeak_15 rfl (lv_at hl 1 rfl) ?_
    refine lv_aload_n hx hb dX3_tellLeak_16 rfl (lv_at hl 0 rfl) ?_
    refine z_get (k := 5) (j := 15) hM hI hk0 rfl rfl hinX3 rfl (by decide) (by decide +kernel) (fun _ h9 => h9) dX3_tellLeak_17 (fun v6 hv7 => ?_)
    obtain ⟨i8, rfl, hr9⟩ := hv7
    refine z_get (k := 3) (j := 2) hM hI hr9 rfl rfl hinX1 rfl (by decide) (by decide +kernel) (fun _ h9 => h9) dX3_tellLeak_20 (fun v10 hv11 => ?_)
    obtain ⟨i12, rfl, hr13⟩ := hv11
    refine lv_aload_n hx hb dX3_tellLeak_23 rfl (lv_at hl 0 rfl) ?_
    refine z_get (k := 5) (j := 1) hM hI hk0 rfl rfl hinX3 rfl (by decide) (by decide +kernel) (fun _ h9 => h9) dX3_tellLeak_24 (fun v14 hv15 => ?_)
    obtain ⟨i16, rfl, hr17⟩ := hv15
    refine z_get (k := 6) (j := 0) hM hI hr17 rfl rfl hinX4 rfl (by decide) (by decide +kernel) (fun _ h9 => h9) dX3_tellLeak_27 (fun v18 hv19 => ?_)
    obtain ⟨i20, rfl⟩ := hv19
    refine z_cv hI (va_runV (As := [.ref i12, .int i20]) (rest := []) ⟨hx, hb, hml, hown, hts⟩ (c_X0_becomeProduct l _ _ _ _ _ _ _ p1 hk1 i12 hr13 i20) (cwV 2 hts gX3_tellLeak_X0_becomeProduct rfl rfl rfl (by decide +kernel) ⟨Nat.le_of_ble_eq_true rfl, Nat.le_of_ble_eq_true rfl⟩) (z_preV hK hE hI [] rfl rfl (z_recv hK hI hk1 rfl rfl)) rfl rfl hl.1 rfl (lv_room (Nat.le_of_ble_eq_true rfl)) dX3_tellLeak_30 ⟨Nat.le_of_ble_eq_true rfl, Nat.le_of_ble_eq_true rfl⟩) (fun u H locs hw22 hI => ?_)
    obtain rfl := hw22
    refine lv_aload_n hx hb dX3_tellLeak_33 rfl (lv_at hl 1 rfl) ?_
    refine lv_aload_n hx hb dX3_tellLeak_34 rfl (lv_at hl 1 rfl) ?_
    refine lv_sipush (v := 5000) hx hb dX3_tellLeak_35 (by decide) ?_
    refine z_cv hI (va_runV (As := [.ref p1, .int 5000]) (rest := []) ⟨hx, hb, hml, hown, hts⟩ (c_X0_becomeQuotient l _ _ _ _ _ _ _ p1 hk1 p1 hk1 5000) (cwV 2 hts gX3_tellLeak_X0_becomeQuotient rfl rfl rfl (by decide +kernel) ⟨Nat.le_of_ble_eq_true rfl, Nat.le_of_ble_eq_true rfl⟩) (z_preV hK hE hI [] rfl rfl (z_recv hK hI hk1 rfl rfl)) rfl rfl hl.1 rfl (lv_room (Nat.le_of_ble_eq_true rfl)) dX3_tellLeak_38 ⟨Nat.le_of_ble_eq_true rfl, Nat.le_of_ble_eq_true rfl⟩) (fun u H locs hw24 hI => ?_)
    obtain rfl := hw24
    refine lv_aload_n hx hb dX3_tellLeak_41 rfl (lv_at hl 0 rfl) ?_
    refine z_get (k := 5) (j := 9) hM hI hk0 rfl rfl hinX3 rfl (by decide) (by decide +kernel) (fun _ h9 => h9) dX3_tellLeak_42 (fun v25 hv26 => ?_)
    obtain ⟨i27, rfl, hf28⟩ := hv26
    refine lv_bipush (v := 108) hx hb dX3_tellLeak_45 (by decide) ?_
    refine lv_icmp_ne (tgt := 56) hx hb dX3_tellLeak_47 (by decide) (fun c29 => ?_) (fun c29 => ?_)
    · skip
      exact W.vret hx hb hr (fun t ht hW => ⟨⟨(L, κ, g), rfl, rfl, z_end hK hI ht hW⟩, z_F hI ht⟩) (z_locs hI) dX3_tellLeak_56
    · skip
      refine lv_aload_n hx hb dX3_tellLeak_50 rfl (lv_at hl 1 rfl) ?_
      refine lv_aload_n hx hb dX3_tellLeak_51 rfl (lv_at hl 1 rfl) ?_
      refine lv_iconst (v := 2) hx hb dX3_tellLeak_52 (by decide) ?_
      refine z_cv hI (va_runV (As := [.ref p1, .int 2]) (rest := []) ⟨hx, hb, hml, hown, hts⟩ (c_X0_becomeQuotient l _ _ _ _ _ _ _ p1 hk1 p1 hk1 2) (cwV 2 hts gX3_tellLeak_X0_becomeQuotient rfl rfl rfl (by decide +kernel) ⟨Nat.le_of_ble_eq_true rfl, Nat.le_of_ble_eq_true rfl⟩) (z_preV hK hE hI [] rfl rfl (z_recv hK hI hk1 rfl rfl)) rfl rfl hl.1 rfl (lv_room (Nat.le_of_ble_eq_true rfl)) dX3_tellLeak_53 ⟨Nat.le_of_ble_eq_true rfl, Nat.le_of_ble_eq_true rfl⟩) (fun u H locs hw31 hI => ?_)
      obtain rfl := hw31
      exact W.vret hx hb hr (fun t ht hW => ⟨⟨(L, κ, g), rfl, rfl, z_end hK hI ht hW⟩, z_F hI ht⟩) (z_locs hI) dX3_tellLeak_56
  · skip
    refine lv_aload_n hx hb dX3_tellLeak_9 rfl (lv_at hl 1 rfl) ?_
    refine lv_iconst (v := 0) hx hb dX3_tellLeak_10 (by decide) ?_
    refine z_cv hI (va_runV (As := [.int 0]) (rest := []) ⟨hx, hb, hml, hown, hts⟩ (c_X0_become l _ _ _ _ _ _ _ p1 hk1 0) (cwV 1 hts gX3_tellLeak_X0_become rfl rfl rfl (by decide +kernel) ⟨Nat.le_of_ble_eq_true rfl, Nat.le_of_ble_eq_true rfl⟩) (z_preV hK hE hI [] rfl rfl (z_recv hK hI hk1 rfl rfl)) rfl rfl hl.1 rfl (lv_room (Nat.le_of_ble_eq_true rfl)) dX3_tellLeak_11 ⟨Nat.le_of_ble_eq_true rfl, Nat.le_of_ble_eq_true rfl⟩) (fun u H locs hw33 hI => ?_)
    obtain rfl := hw33
    exact W.vret hx hb hr (fun t ht hW => ⟨⟨(L, κ, g), rfl, rfl, z_end hK hI ht hW⟩, z_F hI ht⟩) (z_locs hI) dX3_tellLeak_14

set_option maxHeartbeats 4000000 in
set_option maxRecDepth 100000 in
theorem c_X4_goTowardsTarget (l : Launch) (D : va_G) (tc : Nat → ClassId) (z0 : Nat) (L : List Nat) (κ : Nat → Nat) (g : Nat → Nat → Value) (sz : Nat) (p0 : Nat) (hk0 : κ p0 = 6) : Met l yX4_goTowardsTarget wsX4_goTowardsTarget ({ frames := 1, cells := 0, slots := 0, locals := 22 }) (zPc D tc z0 [.ref p0] [] (L, κ, g) sz) (va_Qv (fun (u : zS) => u = (L, κ, g)) (fun (u : zS) (t : State) => zB D tc (zA [] L sz) [] u t) (zA [] L sz)) 0 0 (zA [] L sz) := by
  refine Met.ofW (cc := cX4_goTowardsTarget) (maxL := 3) (ret := none) (by decide) rfl ?_
  intro p e s m args below meth c s₁ B hml hv
  obtain ⟨rfl, rfl, hK, hE, hI⟩ := hv.opn
  have hx := B.exec
  have hb := B.bytes
  have hr := B.returns
  have hts := atoms_spec (ws := wsX4_goTowardsTarget) B.pre
  have hown : s.vm.findClass RX4 = some m.cls := findClass_of_methodNamed B.named
  have hlocks := B.notSynchronized
  have hM : zM p s m c cX4_goTowardsTarget _ wsX4_goTowardsTarget RX4 D tc := ⟨hx, hb, hts, hown, hK⟩
  have hinX4 : ∀ w ∈ wsX40, w ∈ wsX4_goTowardsTarget := by decide +kernel
  have hl := lv_entry ([.ref p0]) (n := 3) (Nat.le_of_ble_eq_true rfl)
  rw [lg_entry_eq]
  generalize (lg_sl ([.ref p0]) ++ List.replicate (3 - (lg_sl ([.ref p0])).length) Slot.unset).toArray = ls at hl ⊢
  have hl : lv_has ls 3 [(0, .ref p0)] := hl
  refine lv_aload_n hx hb dX4_goTowardsTarget_0 rfl (lv_at hl 0 rfl) ?_
  refine z_get (k := 6) (j := 0) hM hI hk0 rfl rfl hinX4 rfl (by decide) (by decide +kernel) (fun _ h9 => h9) dX4_goTowardsTarget_1 (fun v1 hv2 => ?_)
  obtain ⟨i3, rfl⟩ := hv2
  refine lv_bipush (v := 20) hx hb dX4_goTowardsTarget_4 (by decide) ?_
  refine lv_iadd hx hb dX4_goTowardsTarget_6 ?_
  refine lv_topi (fun v4 e5 => ?_)
  refine lv_istore_n (lv' := [(1, .int v4), (0, .ref p0)]) hx hb dX4_goTowardsTarget_7 rfl hl (by decide) rfl (fun ls hl => ?_)
  refine lv_aload_n hx hb dX4_goTowardsTarget_8 rfl (lv_at hl 1 rfl) ?_
  refine z_get (k := 6) (j := 0) hM hI hk0 rfl rfl hinX4 rfl (by decide) (by decide +kernel) (fun _ h9 => h9) dX4_goTowardsTarget_9 (fun v6 hv7 => ?_)
  obtain ⟨i8, rfl⟩ := hv7
  refine lv_bipush (v := 20) hx hb dX4_goTowardsTarget_12 (by decide) ?_
  refine lv_isub hx hb dX4_goTowardsTarget_14 ?_
  refine lv_topi (fun v9 e10 => ?_)
  refine lv_istore_n (lv' := [(2, .int v9), (1, .int v4), (0, .ref p0)]) hx hb dX4_goTowardsTarget_15 rfl hl (by decide) rfl (fun ls hl => ?_)
  refine lv_aload_n hx hb dX4_goTowardsTarget_16 rfl (lv_at hl 2 rfl) ?_
  refine lv_iload_n hx hb dX4_goTowardsTarget_17 rfl (lv_at hl 0 rfl) ?_
  refine lv_iload_n hx hb dX4_goTowardsTarget_18 rfl (lv_at hl 1 rfl) ?_
  refine lv_aload_n hx hb dX4_goTowardsTarget_19 rfl (lv_at hl 2 rfl) ?_
  refine z_get (k := 6) (j := 1) hM hI hk0 rfl rfl hinX4 rfl (by decide) (by decide +kernel) (fun _ h9 => h9) dX4_goTowardsTarget_20 (fun v11 hv12 => ?_)
  obtain ⟨i13, rfl⟩ := hv12
  refine va_mmin hx hb (hml.trans hl.1.symm) hown (hts (.methodLink RX4 18 Lib.Math.min.name) (by decide +kernel)) (hts (.static Lib.Math.min.name) (by decide +kernel)) (hts (.initialized "java/lang/Math") (by decide +kernel)) (hts (.code Lib.Math.min.name Lib.Math.min.code 2 (some .int)) (by decide +kernel)) (Nat.le_of_ble_eq_true rfl) (Nat.le_of_ble_eq_true rfl) (Nat.le_of_ble_eq_true rfl) (Nat.le_of_ble_eq_true rfl) dX4_goTowardsTarget_23 ?_
  refine lv_topi (fun v14 e15 => ?_)
  refine va_mmax hx hb (hml.trans hl.1.symm) hown (hts (.methodLink RX4 24 Lib.Math.max.name) (by decide +kernel)) (hts (.static Lib.Math.max.name) (by decide +kernel)) (hts (.initialized "java/lang/Math") (by decide +kernel)) (hts (.code Lib.Math.max.name Lib.Math.max.code 2 (some .int)) (by decide +kernel)) (Nat.le_of_ble_eq_true rfl) (Nat.le_of_ble_eq_true rfl) (Nat.le_of_ble_eq_true rfl) (Nat.le_of_ble_eq_true rfl) dX4_goTowardsTarget_26 ?_
  refine lv_topi (fun v16 e17 => ?_)
  refine z_put (g' := g) (k := 6) (j := 0) hM hI hk0 rfl rfl hinX4 tyX4 tyX4_ok nmX4 rfl (by decide) (by decide +kernel) (fun _ h9 => h9) rfl rfl rfl rfl ⟨_, rfl⟩ (fun _ _ _ => rfl) dX4_goTowardsTarget_29 (fun H locs hI => ?_)
  exact W.vret hx hb hr (fun t ht hW => ⟨⟨(L, κ, g), rfl, rfl, z_end hK hI ht hW⟩, z_F hI ht⟩) (z_locs hI) dX4_goTowardsTarget_32

set_option maxHeartbeats 4000000 in
set_option maxRecDepth 100000 in
theorem c_X7_workAt (l : Launch) (D : va_G) (tc : Nat → ClassId) (z0 : Nat) (L : List Nat) (κ : Nat → Nat) (g : Nat → Nat → Value) (sz : Nat) (p0 : Nat) (hk0 : κ p0 = 9) (p1 : Int32) : Met l yX7_workAt wsX7_workAt ({ frames := 1, cells := 0, slots := 0, locals := 22 }) (zPc D tc z0 [.ref p0, .int p1] [] (L, κ, g) sz) (va_Qv (fun (u : zS) => u = (L, κ, g)) (fun (u : zS) (t : State) => zB D tc (zA [] L sz) [] u t) (zA [] L sz)) 0 0 (zA [] L sz) := by
  refine Met.ofW (cc := cX7_workAt) (maxL := 3) (ret := none) (by decide) rfl ?_
  intro p e s m args below meth c s₁ B hml hv
  obtain ⟨rfl, rfl, hK, hE, hI⟩ := hv.opn
  have hx := B.exec
  have hb := B.bytes
  have hr := B.returns
  have hts := atoms_spec (ws := wsX7_workAt) B.pre
  have hown : s.vm.findClass RX7 = some m.cls := findClass_of_methodNamed B.named
  have hlocks := B.notSynchronized
  have hM : zM p s m c cX7_workAt _ wsX7_workAt RX7 D tc := ⟨hx, hb, hts, hown, hK⟩
  have hinX7 : ∀ w ∈ wsX70, w ∈ wsX7_workAt := by decide +kernel
  have hl := lv_entry ([.ref p0, .int p1]) (n := 3) (Nat.le_of_ble_eq_true rfl)
  rw [lg_entry_eq]
  generalize (lg_sl ([.ref p0, .int p1]) ++ List.replicate (3 - (lg_sl ([.ref p0, .int p1])).length) Slot.unset).toArray = ls at hl ⊢
  have hl : lv_has ls 3 [(0, .ref p0), (1, .int p1)] := hl
  refine lv_iconst (v := 1) hx hb dX7_workAt_0 (by decide) ?_
  refine lv_iload_n hx hb dX7_workAt_1 rfl (lv_at hl 1 rfl) ?_
  refine lv_bipush (v := 10) hx hb dX7_workAt_2 (by decide) ?_
  refine lv_aload_n hx hb dX7_workAt_4 rfl (lv_at hl 0 rfl) ?_
  refine z_get (k := 9) (j := 0) hM hI hk0 rfl rfl hinX7 rfl (by decide) (by decide +kernel) (fun _ h9 => h9) dX7_workAt_5 (fun v1 hv2 => ?_)
  obtain ⟨i3, rfl⟩ := hv2
  refine lv_isub hx hb dX7_workAt_8 ?_
  refine lv_topi (fun v4 e5 => ?_)
  refine lv_imul hx hb dX7_workAt_9 ?_
  refine lv_topi (fun v6 e7 => ?_)
  refine lv_bipush (v := 10) hx hb dX7_workAt_10 (by decide) ?_
  refine lv_idiv hx hb dX7_workAt_12 (by decide) ?_
  refine lv_topi (fun v8 e9 => ?_)
  refine va_mmax hx hb (hml.trans hl.1.symm) hown (hts (.methodLink RX7 22 Lib.Math.max.name) (by decide +kernel)) (hts (.static Lib.Math.max.name) (by decide +kernel)) (hts (.initialized "java/lang/Math") (by decide +kernel)) (hts (.code Lib.Math.max.name Lib.Math.max.code 2 (some .int)) (by decide +kernel)) (Nat.le_of_ble_eq_true rfl) (Nat.le_of_ble_eq_true rfl) (Nat.le_of_ble_eq_true rfl) (Nat.le_of_ble_eq_true rfl) dX7_workAt_13 ?_
  refine lv_topi (fun v10 e11 => ?_)
  refine lv_istore_n (lv' := [(2, .int v10), (0, .ref p0), (1, .int p1)]) hx hb dX7_workAt_16 rfl hl (by decide) rfl (fun ls hl => ?_)
  refine lv_aload_n hx hb dX7_workAt_17 rfl (lv_at hl 1 rfl) ?_
  refine z_get (k := 9) (j := 3) hM hI hk0 rfl rfl hinX7 rfl (by decide) (by decide +kernel) (fun _ h9 => h9) dX7_workAt_18 (fun v12 hv13 => ?_)
  obtain ⟨i14, rfl⟩ := hv13
  have hL38 : ∀ (H : Heap) (locs : List Loc) (x15 : Int32)    (hI : zI D tc (zA [] L s.heap.size) s.heap [] L κ g H locs) (ls : Array Slot) (hl : lv_has ls 3 [(2, .int x15), (0, .ref p0), (1, .int p1)]), W p l e (headSpec wsX7_workAt ({ frames := 1, cells := 0, slots := 0, locals := 22 })).room s m ([.ref p0, .int p1] : List Value).toArray below meth c H locs 0 0 (MQ below (va_Qv (fun (u : zS) => u = (L, κ, g)) (fun (u : zS) (t : State) => zB D tc (zA [] L s.heap.size) [] u t) (zA [] L s.heap.size)) ([.ref p0, .int p1] : List Value).toArray s 0 0 (zA [] L s.heap.size)) (F0 m 38 ls []) := by
    intro H locs x15 hI ls hl
    refine lv_aload_n hx hb dX7_workAt_38 rfl (lv_at hl 1 rfl) ?_
    refine lv_dup hx hb dX7_workAt_39 rfl ?_
    refine z_get (k := 9) (j := 2) hM hI hk0 rfl rfl hinX7 rfl (by decide) (by decide +kernel) (fun _ h9 => h9) dX7_workAt_40 (fun v16 hv17 => ?_)
    obtain ⟨i18, rfl⟩ := hv17
    refine lv_iload_n hx hb dX7_workAt_43 rfl (lv_at hl 0 rfl) ?_
    refine lv_aload_n hx hb dX7_workAt_44 rfl (lv_at hl 1 rfl) ?_
    refine z_get (k := 9) (j := 2) hM hI hk0 rfl rfl hinX7 rfl (by decide) (by decide +kernel) (fun _ h9 => h9) dX7_workAt_45 (fun v19 hv20 => ?_)
    obtain ⟨i21, rfl⟩ := hv20
    refine va_mmin hx hb (hml.trans hl.1.symm) hown (hts (.methodLink RX7 28 Lib.Math.min.name) (by decide +kernel)) (hts (.static Lib.Math.min.name) (by decide +kernel)) (hts (.initialized "java/lang/Math") (by decide +kernel)) (hts (.code Lib.Math.min.name Lib.Math.min.code 2 (some .int)) (by decide +kernel)) (Nat.le_of_ble_eq_true rfl) (Nat.le_of_ble_eq_true rfl) (Nat.le_of_ble_eq_true rfl) (Nat.le_of_ble_eq_true rfl) dX7_workAt_48 ?_
    refine lv_topi (fun v22 e23 => ?_)
    refine lv_isub hx hb dX7_workAt_51 ?_
    refine lv_topi (fun v24 e25 => ?_)
    refine z_put (g' := g) (k := 9) (j := 2) hM hI hk0 rfl rfl hinX7 tyX7 tyX7_ok nmX7 rfl (by decide) (by decide +kernel) (fun _ h9 => h9) rfl rfl rfl rfl ⟨_, rfl⟩ (fun _ _ _ => rfl) dX7_workAt_52 (fun H locs hI => ?_)
    exact W.vret hx hb hr (fun t ht hW => ⟨⟨(L, κ, g), rfl, rfl, z_end hK hI ht hW⟩, z_F hI ht⟩) (z_locs hI) dX7_workAt_55
  refine lv_if_le (tgt := 38) hx hb dX7_workAt_21 (by decide) (fun c26 => ?_) (fun c26 => ?_)
  · skip
    exact hL38 _ _ v10 hI ls (lv_sub hl [0, 1, 2] rfl)
  · skip
    refine lv_iload_n hx hb dX7_workAt_24 rfl (lv_at hl 0 rfl) ?_
    refine lv_iconst (v := 2) hx hb dX7_workAt_25 (by decide) ?_
    refine lv_idiv hx hb dX7_workAt_26 (by decide) ?_
    refine lv_topi (fun v27 e28 => ?_)
    refine lv_istore_n (lv' := [(2, .int v27), (0, .ref p0), (1, .int p1)]) hx hb dX7_workAt_27 rfl hl (by decide) rfl (fun ls hl => ?_)
    refine lv_aload_n hx hb dX7_workAt_28 rfl (lv_at hl 1 rfl) ?_
    refine lv_dup hx hb dX7_workAt_29 rfl ?_
    refine z_get (k := 9) (j := 3) hM hI hk0 rfl rfl hinX7 rfl (by decide) (by decide +kernel) (fun _ h9 => h9) dX7_workAt_30 (fun v29 hv30 => ?_)
    obtain ⟨i31, rfl⟩ := hv30
    refine lv_iconst (v := 1) hx hb dX7_workAt_33 (by decide) ?_
    refine lv_isub hx hb dX7_workAt_34 ?_
    refine lv_topi (fun v32 e33 => ?_)
    refine z_put (g' := g) (k := 9) (j := 3) hM hI hk0 rfl rfl hinX7 tyX7 tyX7_ok nmX7 rfl (by decide) (by decide +kernel) (fun _ h9 => h9) rfl rfl rfl rfl ⟨_, rfl⟩ (fun _ _ _ => rfl) dX7_workAt_35 (fun H locs hI => ?_)
    exact hL38 _ _ v27 hI ls (lv_sub hl [0, 1, 2] rfl)

set_option maxHeartbeats 4000000 in
set_option maxRecDepth 100000 in
theorem c_X6_give (l : Launch) (D : va_G) (tc : Nat → ClassId) (z0 : Nat) (L : List Nat) (κ : Nat → Nat) (g : Nat → Nat → Value) (sz : Nat) (p0 : Nat) (hk0 : κ p0 = 8) (p1 : Nat) (hk1 : κ p1 = 2) : Met l yX6_give wsX6_give ({ frames := 1, cells := 0, slots := 0, locals := 22 }) (zPc D tc z0 [.ref p0, .ref p1] [] (L, κ, g) sz) (va_Qv (fun (u : zS) => u = (L, κ, g)) (fun (u : zS) (t : State) => zB D tc (zA [] L sz) [] u t) (zA [] L sz)) 0 0 (zA [] L sz) := by
  refine Met.ofW (cc := cX6_give) (maxL := 7) (ret := none) (by decide) rfl ?_
  intro p e s m args below meth c s₁ B hml hv
  obtain ⟨rfl, rfl, hK, hE, hI⟩ := hv.opn
  have hx := B.exec
  have hb := B.bytes
  have hr := B.returns
  have hts := atoms_spec (ws := wsX6_give) B.pre
  have hown : s.vm.findClass RX6 = some m.cls := findClass_of_methodNamed B.named
  have hlocks := B.notSynchronized
  have hM : zM p s m c cX6_give _ wsX6_give RX6 D tc := ⟨hx, hb, hts, hown, hK⟩
  have hinX6 : ∀ w ∈ wsX60, w ∈ wsX6_give := by decide +kernel
  have hl := lv_entry ([.ref p0, .ref p1]) (n := 7) (Nat.le_of_ble_eq_true rfl)
  rw [lg_entry_eq]
  generalize (lg_sl ([.ref p0, .ref p1]) ++ List.replicate (7 - (lg_sl ([.ref p0, .ref p1])).length) Slot.unset).toArray = ls at hl ⊢
  have hl : lv_has ls 7 [(0, .ref p0), (1, .ref p1)] := hl
  refine lv_aload_n hx hb dX6_give_0 rfl (lv_at hl 1 rfl) ?_
  refine lv_sipush (v := 10000) hx hb dX6_give_1 (by decide) ?_
  refine vp_callSi (W.runV (As := [.int 10000]) (rest := []) ⟨hx, hb, hml, hown, hts⟩ (c_X0_upTo l _ _ _ _ _ _ _ p1 hk1 10000) (cwV 1 hts gX6_give_X0_upTo rfl rfl rfl (by decide +kernel) ⟨Nat.le_of_ble_eq_true rfl, Nat.le_of_ble_eq_true rfl⟩) (z_preV hK hE hI [] rfl rfl (z_recv hK hI hk1 rfl rfl)) rfl rfl hl.1 rfl (lv_room (Nat.le_of_ble_eq_true rfl)) dX6_give_4 ⟨Nat.le_of_ble_eq_true rfl, Nat.le_of_ble_eq_true rfl⟩) (fun v1 hw2 => ?_)
  refine lv_istore_n (lv' := [(2, .int v1), (0, .ref p0), (1, .ref p1)]) hx hb dX6_give_7 rfl hl (by decide) rfl (fun ls hl => ?_)
  refine lv_iload_n hx hb dX6_give_8 rfl (lv_at hl 0 rfl) ?_
  refine lv_aload_n hx hb dX6_give_9 rfl (lv_at hl 1 rfl) ?_
  refine z_get (k := 8) (j := 0) hM hI hk0 rfl rfl hinX6 rfl (by decide) (by decide +kernel) (fun _ h9 => h9) dX6_give_10 (fun v3 hv4 => ?_)
  obtain ⟨hg6, i5, rfl⟩ := hv4
  refine va_mmin hx hb (hml.trans hl.1.symm) hown (hts (.methodLink RX6 50 Lib.Math.min.name) (by decide +kernel)) (hts (.static Lib.Math.min.name) (by decide +kernel)) (hts (.initialized "java/lang/Math") (by decide +kernel)) (hts (.code Lib.Math.min.name Lib.Math.min.code 2 (some .int)) (by decide +kernel)) (Nat.le_of_ble_eq_true rfl) (Nat.le_of_ble_eq_true rfl) (Nat.le_of_ble_eq_true rfl) (Nat.le_of_ble_eq_true rfl) dX6_give_13 ?_
  refine lv_topi (fun v7 e8 => ?_)
  refine lv_istore_n (lv' := [(3, .int v7), (2, .int v1), (0, .ref p0), (1, .ref p1)]) hx hb dX6_give_16 rfl hl (by decide) rfl (fun ls hl => ?_)
  refine lv_iload_n hx hb dX6_give_17 rfl (lv_at hl 1 rfl) ?_
  refine lv_iload_n hx hb dX6_give_18 rfl (lv_at hl 0 rfl) ?_
  refine lv_isub hx hb dX6_give_19 ?_
  refine lv_topi (fun v9 e10 => ?_)
  refine lv_aload_n hx hb dX6_give_20 rfl (lv_at hl 2 rfl) ?_
  refine z_get (k := 8) (j := 1) hM hI hk0 rfl rfl hinX6 rfl (by decide) (by decide +kernel) (fun _ h9 => h9) dX6_give_21 (fun v11 hv12 => ?_)
  obtain ⟨i13, rfl⟩ := hv12
  refine va_mmin hx hb (hml.trans hl.1.symm) hown (hts (.methodLink RX6 50 Lib.Math.min.name) (by decide +kernel)) (hts (.static Lib.Math.min.name) (by decide +kernel)) (hts (.initialized "java/lang/Math") (by decide +kernel)) (hts (.code Lib.Math.min.name Lib.Math.min.code 2 (some .int)) (by decide +kernel)) (Nat.le_of_ble_eq_true rfl) (Nat.le_of_ble_eq_true rfl) (Nat.le_of_ble_eq_true rfl) (Nat.le_of_ble_eq_true rfl) dX6_give_24 ?_
  refine lv_topi (fun v14 e15 => ?_)
  refine lv_istore (lv' := [(4, .int v14), (3, .int v7), (2, .int v1), (0, .ref p0), (1, .ref p1)]) hx hb dX6_give_27 hl (by decide) rfl (fun ls hl => ?_)
  refine lv_sipush (v := 5000) hx hb dX6_give_29 (by decide) ?_
  refine lv_aload_n hx hb dX6_give_32 rfl (lv_at hl 3 rfl) ?_
  refine z_get (k := 8) (j := 1) hM hI hk0 rfl rfl hinX6 rfl (by decide) (by decide +kernel) (fun _ h9 => h9) dX6_give_33 (fun v16 hv17 => ?_)
  obtain ⟨i18, rfl⟩ := hv17
  refine lv_isub hx hb dX6_give_36 ?_
  refine lv_topi (fun v19 e20 => ?_)
  refine lv_istore (lv' := [(5, .int v19), (4, .int v14), (3, .int v7), (2, .int v1), (0, .ref p0), (1, .ref p1)]) hx hb dX6_give_37 hl (by decide) rfl (fun ls hl => ?_)
  refine lv_iload hx hb dX6_give_39 (lv_at hl 0 rfl) ?_
  refine lv_bipush (v := 30) hx hb dX6_give_41 (by decide) ?_
  refine lv_aload_n hx hb dX6_give_43 rfl (lv_at hl 4 rfl) ?_
  refine z_get (k := 8) (j := 0) hM hI hk0 rfl rfl hinX6 rfl (by decide) (by decide +kernel) (fun _ h9 => h9) dX6_give_44 (fun v21 hv22 => ?_)
  obtain ⟨hg24, i23, rfl⟩ := hv22
  refine lv_iload_n hx hb dX6_give_47 rfl (lv_at hl 2 rfl) ?_
  refine lv_isub hx hb dX6_give_48 ?_
  refine lv_topi (fun v25 e26 => ?_)
  refine va_mmin hx hb (hml.trans hl.1.symm) hown (hts (.methodLink RX6 50 Lib.Math.min.name) (by decide +kernel)) (hts (.static Lib.Math.min.name) (by decide +kernel)) (hts (.initialized "java/lang/Math") (by decide +kernel)) (hts (.code Lib.Math.min.name Lib.Math.min.code 2 (some .int)) (by decide +kernel)) (Nat.le_of_ble_eq_true rfl) (Nat.le_of_ble_eq_true rfl) (Nat.le_of_ble_eq_true rfl) (Nat.le_of_ble_eq_true rfl) dX6_give_49 ?_
  refine lv_topi (fun v27 e28 => ?_)
  refine va_mmin hx hb (hml.trans hl.1.symm) hown (hts (.methodLink RX6 50 Lib.Math.min.name) (by decide +kernel)) (hts (.static Lib.Math.min.name) (by decide +kernel)) (hts (.initialized "java/lang/Math") (by decide +kernel)) (hts (.code Lib.Math.min.name Lib.Math.min.code 2 (some .int)) (by decide +kernel)) (Nat.le_of_ble_eq_true rfl) (Nat.le_of_ble_eq_true rfl) (Nat.le_of_ble_eq_true rfl) (Nat.le_of_ble_eq_true rfl) dX6_give_52 ?_
  refine lv_topi (fun v29 e30 => ?_)
  refine lv_istore (lv' := [(6, .int v29), (5, .int v19), (4, .int v14), (3, .int v7), (2, .int v1), (0, .ref p0), (1, .ref p1)]) hx hb dX6_give_55 hl (by decide) rfl (fun ls hl => ?_)
  refine lv_aload_n hx hb dX6_give_57 rfl (lv_at hl 5 rfl) ?_
  refine lv_aload_n hx hb dX6_give_58 rfl (lv_at hl 6 rfl) ?_
  refine vp_callSl (W.runV (As := []) (rest := [.ref p0]) ⟨hx, hb, hml, hown, hts⟩ (c_X0_lowBits l _ _ _ _ _ _ _ p1 hk1) (cwV 0 hts gX6_give_X0_lowBits rfl rfl rfl (by decide +kernel) ⟨Nat.le_of_ble_eq_true rfl, Nat.le_of_ble_eq_true rfl⟩) (z_preV hK hE hI [] rfl rfl (z_recv hK hI hk1 rfl rfl)) rfl rfl hl.1 rfl (lv_room (Nat.le_of_ble_eq_true rfl)) dX6_give_59 ⟨Nat.le_of_ble_eq_true rfl, Nat.le_of_ble_eq_true rfl⟩) (fun v31 hw32 => ?_)
  refine z_put (g' := g) (k := 8) (j := 3) hM hI hk0 rfl rfl hinX6 tyX6 tyX6_ok nmX6 rfl (by decide) (by decide +kernel) (fun _ h9 => h9) rfl rfl rfl rfl ⟨_, rfl⟩ (fun _ _ _ => rfl) dX6_give_62 (fun H locs hI => ?_)
  refine lv_aload_n hx hb dX6_give_65 rfl (lv_at hl 5 rfl) ?_
  refine lv_aload_n hx hb dX6_give_66 rfl (lv_at hl 5 rfl) ?_
  refine z_get (k := 8) (j := 3) hM hI hk0 rfl rfl hinX6 rfl (by decide) (by decide +kernel) (fun _ h9 => h9) dX6_give_67 (fun v33 hv34 => ?_)
  obtain ⟨i35, rfl⟩ := hv34
  refine lv_iload_n hx hb dX6_give_70 rfl (lv_at hl 3 rfl) ?_
  refine lv_i2l hx hb dX6_give_71 rfl ?_
  refine lv_topl (fun v36 e37 => ?_)
  refine lv_lsub hx hb dX6_give_72 ?_
  refine lv_topl (fun v38 e39 => ?_)
  refine lv_iload hx hb dX6_give_73 (lv_at hl 2 rfl) ?_
  refine lv_i2l hx hb dX6_give_75 rfl ?_
  refine lv_topl (fun v40 e41 => ?_)
  refine lv_lsub hx hb dX6_give_76 ?_
  refine lv_topl (fun v42 e43 => ?_)
  refine z_put (g' := g) (k := 8) (j := 4) hM hI hk0 rfl rfl hinX6 tyX6 tyX6_ok nmX6 rfl (by decide) (by decide +kernel) (fun _ h9 => h9) rfl rfl rfl rfl ⟨_, rfl⟩ (fun _ _ _ => rfl) dX6_give_77 (fun H locs hI => ?_)
  refine lv_aload_n hx hb dX6_give_80 rfl (lv_at hl 5 rfl) ?_
  refine lv_iload_n hx hb dX6_give_81 rfl (lv_at hl 4 rfl) ?_
  refine lv_iload_n hx hb dX6_give_82 rfl (lv_at hl 3 rfl) ?_
  refine lv_iload hx hb dX6_give_83 (lv_at hl 2 rfl) ?_
  refine lv_iadd hx hb dX6_give_85 ?_
  refine lv_topi (fun v44 e45 => ?_)
  refine lv_icmp_le (tgt := 93) hx hb dX6_give_86 (by decide) (fun c46 => ?_) (fun c46 => ?_)
  · skip
    refine lv_iconst (v := 0) hx hb dX6_give_93 (by decide) ?_
    refine z_put (g' := g) (k := 8) (j := 5) hM hI hk0 rfl rfl hinX6 tyX6 tyX6_ok nmX6 rfl (by decide) (by decide +kernel) (fun _ h9 => h9) rfl rfl (by decide) (by decide) (Or.inl rfl) (fun _ _ _ => rfl) dX6_give_94 (fun H locs hI => ?_)
    refine lv_aload_n hx hb dX6_give_97 rfl (lv_at hl 5 rfl) ?_
    refine lv_dup hx hb dX6_give_98 rfl ?_
    refine z_get (k := 8) (j := 1) hM hI hk0 rfl rfl hinX6 rfl (by decide) (by decide +kernel) (fun _ h9 => h9) dX6_give_99 (fun v47 hv48 => ?_)
    obtain ⟨i49, rfl⟩ := hv48
    refine lv_iload hx hb dX6_give_102 (lv_at hl 0 rfl) ?_
    refine lv_iload hx hb dX6_give_104 (lv_at hl 2 rfl) ?_
    refine lv_isub hx hb dX6_give_106 ?_
    refine lv_topi (fun v50 e51 => ?_)
    refine lv_iadd hx hb dX6_give_107 ?_
    refine lv_topi (fun v52 e53 => ?_)
    refine z_put (g' := g) (k := 8) (j := 1) hM hI hk0 rfl rfl hinX6 tyX6 tyX6_ok nmX6 rfl (by decide) (by decide +kernel) (fun _ h9 => h9) rfl rfl rfl rfl ⟨_, rfl⟩ (fun _ _ _ => rfl) dX6_give_108 (fun H locs hI => ?_)
    refine lv_aload_n hx hb dX6_give_111 rfl (lv_at hl 5 rfl) ?_
    refine lv_dup hx hb dX6_give_112 rfl ?_
    refine z_get (k := 8) (j := 6) hM hI hk0 rfl rfl hinX6 rfl (by decide) (by decide +kernel) (fun _ h9 => h9) dX6_give_113 (fun v54 hv55 => ?_)
    obtain ⟨i56, rfl⟩ := hv55
    refine lv_iload_n hx hb dX6_give_116 rfl (lv_at hl 3 rfl) ?_
    refine lv_iload hx hb dX6_give_117 (lv_at hl 0 rfl) ?_
    refine lv_iadd hx hb dX6_give_119 ?_
    refine lv_topi (fun v57 e58 => ?_)
    refine lv_i2l hx hb dX6_give_120 rfl ?_
    refine lv_topl (fun v59 e60 => ?_)
    refine lv_ladd hx hb dX6_give_121 ?_
    refine lv_topl (fun v61 e62 => ?_)
    refine z_put (g' := g) (k := 8) (j := 6) hM hI hk0 rfl rfl hinX6 tyX6 tyX6_ok nmX6 rfl (by decide) (by decide +kernel) (fun _ h9 => h9) rfl rfl rfl rfl ⟨_, rfl⟩ (fun _ _ _ => rfl) dX6_give_122 (fun H locs hI => ?_)
    refine lv_aload_n hx hb dX6_give_125 rfl (lv_at hl 5 rfl) ?_
    refine lv_dup hx hb dX6_give_126 rfl ?_
    refine z_get (k := 8) (j := 7) hM hI hk0 rfl rfl hinX6 rfl (by decide) (by decide +kernel) (fun _ h9 => h9) dX6_give_127 (fun v63 hv64 => ?_)
    obtain ⟨i65, rfl⟩ := hv64
    refine lv_iload hx hb dX6_give_130 (lv_at hl 2 rfl) ?_
    refine lv_iload hx hb dX6_give_132 (lv_at hl 0 rfl) ?_
    refine lv_isub hx hb dX6_give_134 ?_
    refine lv_topi (fun v66 e67 => ?_)
    refine lv_i2l hx hb dX6_give_135 rfl ?_
    refine lv_topl (fun v68 e69 => ?_)
    refine lv_ladd hx hb dX6_give_136 ?_
    refine lv_topl (fun v70 e71 => ?_)
    refine z_put (g' := g) (k := 8) (j := 7) hM hI hk0 rfl rfl hinX6 tyX6 tyX6_ok nmX6 rfl (by decide) (by decide +kernel) (fun _ h9 => h9) rfl rfl rfl rfl ⟨_, rfl⟩ (fun _ _ _ => rfl) dX6_give_137 (fun H locs hI => ?_)
    refine lv_aload_n hx hb dX6_give_140 rfl (lv_at hl 5 rfl) ?_
    refine lv_dup hx hb dX6_give_141 rfl ?_
    refine z_get (k := 8) (j := 8) hM hI hk0 rfl rfl hinX6 rfl (by decide) (by decide +kernel) (fun _ h9 => h9) dX6_give_142 (fun v72 hv73 => ?_)
    obtain ⟨i74, rfl⟩ := hv73
    refine lv_aload_n hx hb dX6_give_145 rfl (lv_at hl 5 rfl) ?_
    refine z_get (k := 8) (j := 4) hM hI hk0 rfl rfl hinX6 rfl (by decide) (by decide +kernel) (fun _ h9 => h9) dX6_give_146 (fun v75 hv76 => ?_)
    obtain ⟨i77, rfl⟩ := hv76
    refine lv_ladd hx hb dX6_give_149 ?_
    refine lv_topl (fun v78 e79 => ?_)
    refine z_put (g' := g) (k := 8) (j := 8) hM hI hk0 rfl rfl hinX6 tyX6 tyX6_ok nmX6 rfl (by decide) (by decide +kernel) (fun _ h9 => h9) rfl rfl rfl rfl ⟨_, rfl⟩ (fun _ _ _ => rfl) dX6_give_150 (fun H locs hI => ?_)
    refine lv_aload_n hx hb dX6_give_153 rfl (lv_at hl 5 rfl) ?_
    refine lv_dup hx hb dX6_give_154 rfl ?_
    refine z_get (k := 8) (j := 9) hM hI hk0 rfl rfl hinX6 rfl (by decide) (by decide +kernel) (fun _ h9 => h9) dX6_give_155 (fun v80 hv81 => ?_)
    obtain ⟨i82, rfl⟩ := hv81
    refine lv_aload_n hx hb dX6_give_158 rfl (lv_at hl 5 rfl) ?_
    refine z_get (k := 8) (j := 3) hM hI hk0 rfl rfl hinX6 rfl (by decide) (by decide +kernel) (fun _ h9 => h9) dX6_give_159 (fun v83 hv84 => ?_)
    obtain ⟨i85, rfl⟩ := hv84
    refine lv_ladd hx hb dX6_give_162 ?_
    refine lv_topl (fun v86 e87 => ?_)
    refine z_put (g' := g) (k := 8) (j := 9) hM hI hk0 rfl rfl hinX6 tyX6 tyX6_ok nmX6 rfl (by decide) (by decide +kernel) (fun _ h9 => h9) rfl rfl rfl rfl ⟨_, rfl⟩ (fun _ _ _ => rfl) dX6_give_163 (fun H locs hI => ?_)
    refine lv_aload_n hx hb dX6_give_166 rfl (lv_at hl 5 rfl) ?_
    refine lv_iconst (v := 0) hx hb dX6_give_167 (by decide) ?_
    refine lv_sipush (v := 600) hx hb dX6_give_168 (by decide) ?_
    refine lv_aload_n hx hb dX6_give_171 rfl (lv_at hl 5 rfl) ?_
    refine z_get (k := 8) (j := 2) hM hI hk0 rfl rfl hinX6 rfl (by decide) (by decide +kernel) (fun _ h9 => h9) dX6_give_172 (fun v88 hv89 => ?_)
    obtain ⟨i90, rfl⟩ := hv89
    refine lv_bipush (v := 60) hx hb dX6_give_175 (by decide) ?_
    refine lv_iadd hx hb dX6_give_177 ?_
    refine lv_topi (fun v91 e92 => ?_)
    refine lv_iload_n hx hb dX6_give_178 rfl (lv_at hl 4 rfl) ?_
    refine lv_isub hx hb dX6_give_179 ?_
    refine lv_topi (fun v93 e94 => ?_)
    refine va_mmin hx hb (hml.trans hl.1.symm) hown (hts (.methodLink RX6 50 Lib.Math.min.name) (by decide +kernel)) (hts (.static Lib.Math.min.name) (by decide +kernel)) (hts (.initialized "java/lang/Math") (by decide +kernel)) (hts (.code Lib.Math.min.name Lib.Math.min.code 2 (some .int)) (by decide +kernel)) (Nat.le_of_ble_eq_true rfl) (Nat.le_of_ble_eq_true rfl) (Nat.le_of_ble_eq_true rfl) (Nat.le_of_ble_eq_true rfl) dX6_give_180 ?_
    refine lv_topi (fun v95 e96 => ?_)
    refine va_mmax hx hb (hml.trans hl.1.symm) hown (hts (.methodLink RX6 60 Lib.Math.max.name) (by decide +kernel)) (hts (.static Lib.Math.max.name) (by decide +kernel)) (hts (.initialized "java/lang/Math") (by decide +kernel)) (hts (.code Lib.Math.max.name Lib.Math.max.code 2 (some .int)) (by decide +kernel)) (Nat.le_of_ble_eq_true rfl) (Nat.le_of_ble_eq_true rfl) (Nat.le_of_ble_eq_true rfl) (Nat.le_of_ble_eq_true rfl) dX6_give_183 ?_
    refine lv_topi (fun v97 e98 => ?_)
    refine z_put (g' := g) (k := 8) (j := 2) hM hI hk0 rfl rfl hinX6 tyX6 tyX6_ok nmX6 rfl (by decide) (by decide +kernel) (fun _ h9 => h9) rfl rfl rfl rfl ⟨_, rfl⟩ (fun _ _ _ => rfl) dX6_give_186 (fun H locs hI => ?_)
    exact W.vret hx hb hr (fun t ht hW => ⟨⟨(L, κ, g), rfl, rfl, z_end hK hI ht hW⟩, z_F hI ht⟩) (z_locs hI) dX6_give_189
  · skip
    refine lv_iconst (v := 1) hx hb dX6_give_89 (by decide) ?_
    refine lv_goto (tgt := 94) hx hb dX6_give_90 (by decide) ?_
    refine z_put (g' := g) (k := 8) (j := 5) hM hI hk0 rfl rfl hinX6 tyX6 tyX6_ok nmX6 rfl (by decide) (by decide +kernel) (fun _ h9 => h9) rfl rfl (by decide) (by decide) (Or.inr rfl) (fun _ _ _ => rfl) dX6_give_94 (fun H locs hI => ?_)
    refine lv_aload_n hx hb dX6_give_97 rfl (lv_at hl 5 rfl) ?_
    refine lv_dup hx hb dX6_give_98 rfl ?_
    refine z_get (k := 8) (j := 1) hM hI hk0 rfl rfl hinX6 rfl (by decide) (by decide +kernel) (fun _ h9 => h9) dX6_give_99 (fun v99 hv100 => ?_)
    obtain ⟨i101, rfl⟩ := hv100
    refine lv_iload hx hb dX6_give_102 (lv_at hl 0 rfl) ?_
    refine lv_iload hx hb dX6_give_104 (lv_at hl 2 rfl) ?_
    refine lv_isub hx hb dX6_give_106 ?_
    refine lv_topi (fun v102 e103 => ?_)
    refine lv_iadd hx hb dX6_give_107 ?_
    refine lv_topi (fun v104 e105 => ?_)
    refine z_put (g' := g) (k := 8) (j := 1) hM hI hk0 rfl rfl hinX6 tyX6 tyX6_ok nmX6 rfl (by decide) (by decide +kernel) (fun _ h9 => h9) rfl rfl rfl rfl ⟨_, rfl⟩ (fun _ _ _ => rfl) dX6_give_108 (fun H locs hI => ?_)
    refine lv_aload_n hx hb dX6_give_111 rfl (lv_at hl 5 rfl) ?_
    refine lv_dup hx hb dX6_give_112 rfl ?_
    refine z_get (k := 8) (j := 6) hM hI hk0 rfl rfl hinX6 rfl (by decide) (by decide +kernel) (fun _ h9 => h9) dX6_give_113 (fun v106 hv107 => ?_)
    obtain ⟨i108, rfl⟩ := hv107
    refine lv_iload_n hx hb dX6_give_116 rfl (lv_at hl 3 rfl) ?_
    refine lv_iload hx hb dX6_give_117 (lv_at hl 0 rfl) ?_
    refine lv_iadd hx hb dX6_give_119 ?_
    refine lv_topi (fun v109 e110 => ?_)
    refine lv_i2l hx hb dX6_give_120 rfl ?_
    refine lv_topl (fun v111 e112 => ?_)
    refine lv_ladd hx hb dX6_give_121 ?_
    refine lv_topl (fun v113 e114 => ?_)
    refine z_put (g' := g) (k := 8) (j := 6) hM hI hk0 rfl rfl hinX6 tyX6 tyX6_ok nmX6 rfl (by decide) (by decide +kernel) (fun _ h9 => h9) rfl rfl rfl rfl ⟨_, rfl⟩ (fun _ _ _ => rfl) dX6_give_122 (fun H locs hI => ?_)
    refine lv_aload_n hx hb dX6_give_125 rfl (lv_at hl 5 rfl) ?_
    refine lv_dup hx hb dX6_give_126 rfl ?_
    refine z_get (k := 8) (j := 7) hM hI hk0 rfl rfl hinX6 rfl (by decide) (by decide +kernel) (fun _ h9 => h9) dX6_give_127 (fun v115 hv116 => ?_)
    obtain ⟨i117, rfl⟩ := hv116
    refine lv_iload hx hb dX6_give_130 (lv_at hl 2 rfl) ?_
    refine lv_iload hx hb dX6_give_132 (lv_at hl 0 rfl) ?_
    refine lv_isub hx hb dX6_give_134 ?_
    refine lv_topi (fun v118 e119 => ?_)
    refine lv_i2l hx hb dX6_give_135 rfl ?_
    refine lv_topl (fun v120 e121 => ?_)
    refine lv_ladd hx hb dX6_give_136 ?_
    refine lv_topl (fun v122 e123 => ?_)
    refine z_put (g' := g) (k := 8) (j := 7) hM hI hk0 rfl rfl hinX6 tyX6 tyX6_ok nmX6 rfl (by decide) (by decide +kernel) (fun _ h9 => h9) rfl rfl rfl rfl ⟨_, rfl⟩ (fun _ _ _ => rfl) dX6_give_137 (fun H locs hI => ?_)
    refine lv_aload_n hx hb dX6_give_140 rfl (lv_at hl 5 rfl) ?_
    refine lv_dup hx hb dX6_give_141 rfl ?_
    refine z_get (k := 8) (j := 8) hM hI hk0 rfl rfl hinX6 rfl (by decide) (by decide +kernel) (fun _ h9 => h9) dX6_give_142 (fun v124 hv125 => ?_)
    obtain ⟨i126, rfl⟩ := hv125
    refine lv_aload_n hx hb dX6_give_145 rfl (lv_at hl 5 rfl) ?_
    refine z_get (k := 8) (j := 4) hM hI hk0 rfl rfl hinX6 rfl (by decide) (by decide +kernel) (fun _ h9 => h9) dX6_give_146 (fun v127 hv128 => ?_)
    obtain ⟨i129, rfl⟩ := hv128
    refine lv_ladd hx hb dX6_give_149 ?_
    refine lv_topl (fun v130 e131 => ?_)
    refine z_put (g' := g) (k := 8) (j := 8) hM hI hk0 rfl rfl hinX6 tyX6 tyX6_ok nmX6 rfl (by decide) (by decide +kernel) (fun _ h9 => h9) rfl rfl rfl rfl ⟨_, rfl⟩ (fun _ _ _ => rfl) dX6_give_150 (fun H locs hI => ?_)
    refine lv_aload_n hx hb dX6_give_153 rfl (lv_at hl 5 rfl) ?_
    refine lv_dup hx hb dX6_give_154 rfl ?_
    refine z_get (k := 8) (j := 9) hM hI hk0 rfl rfl hinX6 rfl (by decide) (by decide +kernel) (fun _ h9 => h9) dX6_give_155 (fun v132 hv133 => ?_)
    obtain ⟨i134, rfl⟩ := hv133
    refine lv_aload_n hx hb dX6_give_158 rfl (lv_at hl 5 rfl) ?_
    refine z_get (k := 8) (j := 3) hM hI hk0 rfl rfl hinX6 rfl (by decide) (by decide +kernel) (fun _ h9 => h9) dX6_give_159 (fun v135 hv136 => ?_)
    obtain ⟨i137, rfl⟩ := hv136
    refine lv_ladd hx hb dX6_give_162 ?_
    refine lv_topl (fun v138 e139 => ?_)
    refine z_put (g' := g) (k := 8) (j := 9) hM hI hk0 rfl rfl hinX6 tyX6 tyX6_ok nmX6 rfl (by decide) (by decide +kernel) (fun _ h9 => h9) rfl rfl rfl rfl ⟨_, rfl⟩ (fun _ _ _ => rfl) dX6_give_163 (fun H locs hI => ?_)
    refine lv_aload_n hx hb dX6_give_166 rfl (lv_at hl 5 rfl) ?_
    refine lv_iconst (v := 0) hx hb dX6_give_167 (by decide) ?_
    refine lv_sipush (v := 600) hx hb dX6_give_168 (by decide) ?_
    refine lv_aload_n hx hb dX6_give_171 rfl (lv_at hl 5 rfl) ?_
    refine z_get (k := 8) (j := 2) hM hI hk0 rfl rfl hinX6 rfl (by decide) (by decide +kernel) (fun _ h9 => h9) dX6_give_172 (fun v140 hv141 => ?_)
    obtain ⟨i142, rfl⟩ := hv141
    refine lv_bipush (v := 60) hx hb dX6_give_175 (by decide) ?_
    refine lv_iadd hx hb dX6_give_177 ?_
    refine lv_topi (fun v143 e144 => ?_)
    refine lv_iload_n hx hb dX6_give_178 rfl (lv_at hl 4 rfl) ?_
    refine lv_isub hx hb dX6_give_179 ?_
    refine lv_topi (fun v145 e146 => ?_)
    refine va_mmin hx hb (hml.trans hl.1.symm) hown (hts (.methodLink RX6 50 Lib.Math.min.name) (by decide +kernel)) (hts (.static Lib.Math.min.name) (by decide +kernel)) (hts (.initialized "java/lang/Math") (by decide +kernel)) (hts (.code Lib.Math.min.name Lib.Math.min.code 2 (some .int)) (by decide +kernel)) (Nat.le_of_ble_eq_true rfl) (Nat.le_of_ble_eq_true rfl) (Nat.le_of_ble_eq_true rfl) (Nat.le_of_ble_eq_true rfl) dX6_give_180 ?_
    refine lv_topi (fun v147 e148 => ?_)
    refine va_mmax hx hb (hml.trans hl.1.symm) hown (hts (.methodLink RX6 60 Lib.Math.max.name) (by decide +kernel)) (hts (.static Lib.Math.max.name) (by decide +kernel)) (hts (.initialized "java/lang/Math") (by decide +kernel)) (hts (.code Lib.Math.max.name Lib.Math.max.code 2 (some .int)) (by decide +kernel)) (Nat.le_of_ble_eq_true rfl) (Nat.le_of_ble_eq_true rfl) (Nat.le_of_ble_eq_true rfl) (Nat.le_of_ble_eq_true rfl) dX6_give_183 ?_
    refine lv_topi (fun v149 e150 => ?_)
    refine z_put (g' := g) (k := 8) (j := 2) hM hI hk0 rfl rfl hinX6 tyX6 tyX6_ok nmX6 rfl (by decide) (by decide +kernel) (fun _ h9 => h9) rfl rfl rfl rfl ⟨_, rfl⟩ (fun _ _ _ => rfl) dX6_give_186 (fun H locs hI => ?_)
    exact W.vret hx hb hr (fun t ht hW => ⟨⟨(L, κ, g), rfl, rfl, z_end hK hI ht hW⟩, z_F hI ht⟩) (z_locs hI) dX6_give_189

