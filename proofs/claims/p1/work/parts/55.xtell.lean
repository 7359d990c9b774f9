set_option maxHeartbeats 4000000 in
set_option maxRecDepth 100000 in
theorem x_X0_lowBits_4000 (l : Launch) (D : va_G) (tc : Nat → ClassId) (z0 : Nat) (L : List Nat) (κ : Nat → Nat) (g : Nat → Nat → Value) (sz : Nat) (p0 : Nat) (pa : Nat)  : Met l yX0_lowBits wsX0_lowBits ({ frames := 0, cells := 0, slots := 0, locals := 0 }) (zPc D tc z0 [.ref p0] ([(p0, .inr (2, [.ref pa, .int 1])), (pa, .inl (tc 1, 16, .inr (.inl (vp_updL (fun _ => 0) (0 : Int32).toNatClampNeg 4000))))] : va_W) (L, κ, g) sz) (va_Ql (fun (r : Int64) (u : (zS)) => r = 4000 ∧ u = (L, κ, g)) (fun (u : (zS)) (t : State) => zB D tc (zA ([(p0, .inr (2, [.ref pa, .int 1])), (pa, .inl (tc 1, 16, .inr (.inl (vp_updL (fun _ => 0) (0 : Int32).toNatClampNeg 4000))))] : va_W) L sz) ([(p0, .inr (2, [.ref pa, .int 1])), (pa, .inl (tc 1, 16, .inr (.inl (vp_updL (fun _ => 0) (0 : Int32).toNatClampNeg 4000))))] : va_W) u t) (zA ([(p0, .inr (2, [.ref pa, .int 1])), (pa, .inl (tc 1, 16, .inr (.inl (vp_updL (fun _ => 0) (0 : Int32).toNatClampNeg 4000))))] : va_W) L sz)) 0 0 (zA ([(p0, .inr (2, [.ref pa, .int 1])), (pa, .inl (tc 1, 16, .inr (.inl (vp_updL (fun _ => 0) (0 : Int32).toNatClampNeg 4000))))] : va_W) L sz) := by
  refine Met.ofW (cc := cX0_lowBits) (maxL := 1) (ret := (some .long)) (by decide) rfl ?_
  intro p e9 s m args below meth c s₁ B hml hv
  obtain ⟨rfl, rfl, hK, hE, hI⟩ := hv.opn
  have hx := B.exec
  have hb := B.bytes
  have hr := B.returns
  have hts := atoms_spec (ws := wsX0_lowBits) B.pre
  have hown : s.vm.findClass RX0 = some m.cls := findClass_of_methodNamed B.named
  have hlocks := B.notSynchronized
  have hM : zM p s m c cX0_lowBits _ wsX0_lowBits RX0 D tc := ⟨hx, hb, hts, hown, hK⟩
  have hinX0 : ∀ w ∈ wsX00, w ∈ wsX0_lowBits := by decide +kernel
  have hl := lv_entry ([.ref p0]) (n := 1) (Nat.le_of_ble_eq_true rfl)
  rw [lg_entry_eq]
  generalize (lg_sl ([.ref p0]) ++ List.replicate (1 - (lg_sl ([.ref p0])).length) Slot.unset).toArray = ls at hl ⊢
  have hl : lv_has ls 1 [(0, .ref p0)] := hl
  refine lv_aload_n hx hb dX0_lowBits_0 rfl (lv_at hl 0 rfl) ?_
  refine z_getX (i := 0) (j := 0) hM hI rfl hinX0 rfl (by decide) (by decide +kernel) (fun _ h9 => h9) rfl dX0_lowBits_1 ?_
  refine lv_iconst (v := 0) hx hb dX0_lowBits_4 (by decide) ?_
  refine z_laldE (i := 1) (v := 4000) hM hI rfl (vp_in_c 0 16 (by decide)) (by first | rfl | decide +kernel) dX0_lowBits_5 ?_
  refine lv_aload_n hx hb dX0_lowBits_6 rfl (lv_at hl 0 rfl) ?_
  refine z_getX (i := 0) (j := 0) hM hI rfl hinX0 rfl (by decide) (by decide +kernel) (fun _ h9 => h9) rfl dX0_lowBits_7 ?_
  refine lv_iconst (v := 1) hx hb dX0_lowBits_10 (by decide) ?_
  refine z_laldE (i := 1) (v := 0) hM hI rfl (vp_in_c 1 16 (by decide)) (by first | rfl | decide +kernel) dX0_lowBits_11 ?_
  refine lv_bipush (v := 32) hx hb dX0_lowBits_12 (by decide) ?_
  refine lv_lshl hx hb dX0_lowBits_14 rfl ?_
  refine lv_topl (fun v1 e2 => ?_)
  obtain rfl : v1 = 0 := e2.trans (by decide +kernel)
  refine lv_ladd hx hb dX0_lowBits_15 ?_
  refine lv_topl (fun v3 e4 => ?_)
  obtain rfl : v3 = 4000 := e4.trans (by decide +kernel)
  exact W.lret (v := 4000) hx hb hr (fun t ht hW => ⟨⟨_, (L, κ, g), rfl, ⟨rfl, rfl⟩, z_end hK hI ht hW⟩, z_F hI ht⟩) (z_locs hI) dX0_lowBits_16

set_option maxHeartbeats 4000000 in
set_option maxRecDepth 100000 in
theorem x_X0_lowBits_20 (l : Launch) (D : va_G) (tc : Nat → ClassId) (z0 : Nat) (L : List Nat) (κ : Nat → Nat) (g : Nat → Nat → Value) (sz : Nat) (p0 : Nat) (pa : Nat)  : Met l yX0_lowBits wsX0_lowBits ({ frames := 0, cells := 0, slots := 0, locals := 0 }) (zPc D tc z0 [.ref p0] ([(p0, .inr (2, [.ref pa, .int 1])), (pa, .inl (tc 1, 16, .inr (.inl (vp_updL (fun _ => 0) (0 : Int32).toNatClampNeg 20))))] : va_W) (L, κ, g) sz) (va_Ql (fun (r : Int64) (u : (zS)) => r = 20 ∧ u = (L, κ, g)) (fun (u : (zS)) (t : State) => zB D tc (zA ([(p0, .inr (2, [.ref pa, .int 1])), (pa, .inl (tc 1, 16, .inr (.inl (vp_updL (fun _ => 0) (0 : Int32).toNatClampNeg 20))))] : va_W) L sz) ([(p0, .inr (2, [.ref pa, .int 1])), (pa, .inl (tc 1, 16, .inr (.inl (vp_updL (fun _ => 0) (0 : Int32).toNatClampNeg 20))))] : va_W) u t) (zA ([(p0, .inr (2, [.ref pa, .int 1])), (pa, .inl (tc 1, 16, .inr (.inl (vp_updL (fun _ => 0) (0 : Int32).toNatClampNeg 20))))] : va_W) L sz)) 0 0 (zA ([(p0, .inr (2, [.ref pa, .int 1])), (pa, .inl (tc 1, 16, .inr (.inl (vp_updL (fun _ => 0) (0 : Int32).toNatClampNeg 20))))] : va_W) L sz) := by
  refine Met.ofW (cc := cX0_lowBits) (maxL := 1) (ret := (some .long)) (by decide) rfl ?_
  intro p e9 s m args below meth c s₁ B hml hv
  obtain ⟨rfl, rfl, hK, hE, hI⟩ := hv.opn
  have hx := B.exec
  have hb := B.bytes
  have hr := B.returns
  have hts := atoms_spec (ws := wsX0_lowBits) B.pre
  have hown : s.vm.findClass RX0 = some m.cls := findClass_of_methodNamed B.named
  have hlocks := B.notSynchronized
  have hM : zM p s m c cX0_lowBits _ wsX0_lowBits RX0 D tc := ⟨hx, hb, hts, hown, hK⟩
  have hinX0 : ∀ w ∈ wsX00, w ∈ wsX0_lowBits := by decide +kernel
  have hl := lv_entry ([.ref p0]) (n := 1) (Nat.le_of_ble_eq_true rfl)
  rw [lg_entry_eq]
  generalize (lg_sl ([.ref p0]) ++ List.replicate (1 - (lg_sl ([.ref p0])).length) Slot.unset).toArray = ls at hl ⊢
  have hl : lv_has ls 1 [(0, .ref p0)] := hl
  refine lv_aload_n hx hb dX0_lowBits_0 rfl (lv_at hl 0 rfl) ?_
  refine z_getX (i := 0) (j := 0) hM hI rfl hinX0 rfl (by decide) (by decide +kernel) (fun _ h9 => h9) rfl dX0_lowBits_1 ?_
  refine lv_iconst (v := 0) hx hb dX0_lowBits_4 (by decide) ?_
  refine z_laldE (i := 1) (v := 20) hM hI rfl (vp_in_c 0 16 (by decide)) (by first | rfl | decide +kernel) dX0_lowBits_5 ?_
  refine lv_aload_n hx hb dX0_lowBits_6 rfl (lv_at hl 0 rfl) ?_
  refine z_getX (i := 0) (j := 0) hM hI rfl hinX0 rfl (by decide) (by decide +kernel) (fun _ h9 => h9) rfl dX0_lowBits_7 ?_
  refine lv_iconst (v := 1) hx hb dX0_lowBits_10 (by decide) ?_
  refine z_laldE (i := 1) (v := 0) hM hI rfl (vp_in_c 1 16 (by decide)) (by first | rfl | decide +kernel) dX0_lowBits_11 ?_
  refine lv_bipush (v := 32) hx hb dX0_lowBits_12 (by decide) ?_
  refine lv_lshl hx hb dX0_lowBits_14 rfl ?_
  refine lv_topl (fun v1 e2 => ?_)
  obtain rfl : v1 = 0 := e2.trans (by decide +kernel)
  refine lv_ladd hx hb dX0_lowBits_15 ?_
  refine lv_topl (fun v3 e4 => ?_)
  obtain rfl : v3 = 20 := e4.trans (by decide +kernel)
  exact W.lret (v := 20) hx hb hr (fun t ht hW => ⟨⟨_, (L, κ, g), rfl, ⟨rfl, rfl⟩, z_end hK hI ht hW⟩, z_F hI ht⟩) (z_locs hI) dX0_lowBits_16

set_option maxHeartbeats 4000000 in
set_option maxRecDepth 100000 in
theorem x_X8_fan (l : Launch) (D : va_G) (tc : Nat → ClassId) (z0 : Nat) (L : List Nat) (κ : Nat → Nat) (g : Nat → Nat → Value) (sz : Nat) (yr : Nat) (yC : Nat) (yT : Nat) (yk : Nat) (ys : Nat) (yb : Nat) (yq : Nat) (yA : Nat) (yP : Nat) (yS : Nat) (px : Nat)  : Met l yX8_fan wsX8_fan ({ frames := 0, cells := 0, slots := 0, locals := 0 }) (zPc D tc z0 [.ref px] ([(px, .inr (10, [.ref yr, .ref yC, .ref yT, .ref yk, .ref ys, .ref yq, .ref yP, .ref yS, .int 0, .long 0])), (yk, .inr (4, [.ref yb, .ref yA, .long 0, .int 0, .int 0]))] : va_W) (L, κ, g) sz) (va_Qi (fun (r : Int32) (u : (zS)) => r = 0 ∧ u = (L, κ, g)) (fun (u : (zS)) (t : State) => zB D tc (zA ([(px, .inr (10, [.ref yr, .ref yC, .ref yT, .ref yk, .ref ys, .ref yq, .ref yP, .ref yS, .int 0, .long 0])), (yk, .inr (4, [.ref yb, .ref yA, .long 0, .int 0, .int 0]))] : va_W) L sz) ([(px, .inr (10, [.ref yr, .ref yC, .ref yT, .ref yk, .ref ys, .ref yq, .ref yP, .ref yS, .int 0, .long 0])), (yk, .inr (4, [.ref yb, .ref yA, .long 0, .int 0, .int 0]))] : va_W) u t) (zA ([(px, .inr (10, [.ref yr, .ref yC, .ref yT, .ref yk, .ref ys, .ref yq, .ref yP, .ref yS, .int 0, .long 0])), (yk, .inr (4, [.ref yb, .ref yA, .long 0, .int 0, .int 0]))] : va_W) L sz)) 0 0 (zA ([(px, .inr (10, [.ref yr, .ref yC, .ref yT, .ref yk, .ref ys, .ref yq, .ref yP, .ref yS, .int 0, .long 0])), (yk, .inr (4, [.ref yb, .ref yA, .long 0, .int 0, .int 0]))] : va_W) L sz) := by
  refine Met.ofW (cc := cX8_fan) (maxL := 1) (ret := (some .int)) (by decide) rfl ?_
  intro p e9 s m args below meth c s₁ B hml hv
  obtain ⟨rfl, rfl, hK, hE, hI⟩ := hv.opn
  have hx := B.exec
  have hb := B.bytes
  have hr := B.returns
  have hts := atoms_spec (ws := wsX8_fan) B.pre
  have hown : s.vm.findClass RX8 = some m.cls := findClass_of_methodNamed B.named
  have hlocks := B.notSynchronized
  have hM : zM p s m c cX8_fan _ wsX8_fan RX8 D tc := ⟨hx, hb, hts, hown, hK⟩
  have hinX8 : ∀ w ∈ wsX80, w ∈ wsX8_fan := by decide +kernel
  have hinX2 : ∀ w ∈ wsX20, w ∈ wsX8_fan := by decide +kernel
  have hl := lv_entry ([.ref px]) (n := 1) (Nat.le_of_ble_eq_true rfl)
  rw [lg_entry_eq]
  generalize (lg_sl ([.ref px]) ++ List.replicate (1 - (lg_sl ([.ref px])).length) Slot.unset).toArray = ls at hl ⊢
  have hl : lv_has ls 1 [(0, .ref px)] := hl
  refine lv_aload_n hx hb dX8_fan_0 rfl (lv_at hl 0 rfl) ?_
  refine z_getX (i := 0) (j := 3) hM hI rfl hinX8 rfl (by decide) (by decide +kernel) (fun _ h9 => h9) rfl dX8_fan_1 ?_
  refine z_getX (i := 1) (j := 3) hM hI rfl hinX2 rfl (by decide) (by decide +kernel) (fun _ h9 => h9) rfl dX8_fan_4 ?_
  exact W.iret (v := 0) hx hb hr (fun t ht hW => ⟨⟨_, (L, κ, g), rfl, ⟨rfl, rfl⟩, z_end hK hI ht hW⟩, z_F hI ht⟩) (z_locs hI) dX8_fan_7

set_option maxHeartbeats 4000000 in
set_option maxRecDepth 100000 in
theorem x_X8_battery (l : Launch) (D : va_G) (tc : Nat → ClassId) (z0 : Nat) (L : List Nat) (κ : Nat → Nat) (g : Nat → Nat → Value) (sz : Nat) (yr : Nat) (yC : Nat) (yT : Nat) (yk : Nat) (ys : Nat) (yq : Nat) (yP : Nat) (yS : Nat) (px : Nat)  : Met l yX8_battery wsX8_battery ({ frames := 0, cells := 0, slots := 0, locals := 0 }) (zPc D tc z0 [.ref px] ([(px, .inr (10, [.ref yr, .ref yC, .ref yT, .ref yk, .ref ys, .ref yq, .ref yP, .ref yS, .int 0, .long 0])), (ys, .inr (8, [.int 200, .int 5000, .int 600, .long 0, .long 0, .int 0, .long 0, .long 0, .long 0, .long 0]))] : va_W) (L, κ, g) sz) (va_Qi (fun (r : Int32) (u : (zS)) => r = 5000 ∧ u = (L, κ, g)) (fun (u : (zS)) (t : State) => zB D tc (zA ([(px, .inr (10, [.ref yr, .ref yC, .ref yT, .ref yk, .ref ys, .ref yq, .ref yP, .ref yS, .int 0, .long 0])), (ys, .inr (8, [.int 200, .int 5000, .int 600, .long 0, .long 0, .int 0, .long 0, .long 0, .long 0, .long 0]))] : va_W) L sz) ([(px, .inr (10, [.ref yr, .ref yC, .ref yT, .ref yk, .ref ys, .ref yq, .ref yP, .ref yS, .int 0, .long 0])), (ys, .inr (8, [.int 200, .int 5000, .int 600, .long 0, .long 0, .int 0, .long 0, .long 0, .long 0, .long 0]))] : va_W) u t) (zA ([(px, .inr (10, [.ref yr, .ref yC, .ref yT, .ref yk, .ref ys, .ref yq, .ref yP, .ref yS, .int 0, .long 0])), (ys, .inr (8, [.int 200, .int 5000, .int 600, .long 0, .long 0, .int 0, .long 0, .long 0, .long 0, .long 0]))] : va_W) L sz)) 0 0 (zA ([(px, .inr (10, [.ref yr, .ref yC, .ref yT, .ref yk, .ref ys, .ref yq, .ref yP, .ref yS, .int 0, .long 0])), (ys, .inr (8, [.int 200, .int 5000, .int 600, .long 0, .long 0, .int 0, .long 0, .long 0, .long 0, .long 0]))] : va_W) L sz) := by
  refine Met.ofW (cc := cX8_battery) (maxL := 1) (ret := (some .int)) (by decide) rfl ?_
  intro p e9 s m args below meth c s₁ B hml hv
  obtain ⟨rfl, rfl, hK, hE, hI⟩ := hv.opn
  have hx := B.exec
  have hb := B.bytes
  have hr := B.returns
  have hts := atoms_spec (ws := wsX8_battery) B.pre
  have hown : s.vm.findClass RX8 = some m.cls := findClass_of_methodNamed B.named
  have hlocks := B.notSynchronized
  have hM : zM p s m c cX8_battery _ wsX8_battery RX8 D tc := ⟨hx, hb, hts, hown, hK⟩
  have hinX8 : ∀ w ∈ wsX80, w ∈ wsX8_battery := by decide +kernel
  have hinX6 : ∀ w ∈ wsX60, w ∈ wsX8_battery := by decide +kernel
  have hl := lv_entry ([.ref px]) (n := 1) (Nat.le_of_ble_eq_true rfl)
  rw [lg_entry_eq]
  generalize (lg_sl ([.ref px]) ++ List.replicate (1 - (lg_sl ([.ref px])).length) Slot.unset).toArray = ls at hl ⊢
  have hl : lv_has ls 1 [(0, .ref px)] := hl
  refine lv_aload_n hx hb dX8_battery_0 rfl (lv_at hl 0 rfl) ?_
  refine z_getX (i := 0) (j := 4) hM hI rfl hinX8 rfl (by decide) (by decide +kernel) (fun _ h9 => h9) rfl dX8_battery_1 ?_
  refine z_getX (i := 1) (j := 1) hM hI rfl hinX6 rfl (by decide) (by decide +kernel) (fun _ h9 => h9) rfl dX8_battery_4 ?_
  exact W.iret (v := 5000) hx hb hr (fun t ht hW => ⟨⟨_, (L, κ, g), rfl, ⟨rfl, rfl⟩, z_end hK hI ht hW⟩, z_F hI ht⟩) (z_locs hI) dX8_battery_7

set_option maxHeartbeats 4000000 in
set_option maxRecDepth 100000 in
theorem x_X8_purse (l : Launch) (D : va_G) (tc : Nat → ClassId) (z0 : Nat) (L : List Nat) (κ : Nat → Nat) (g : Nat → Nat → Value) (sz : Nat) (yr : Nat) (yC : Nat) (yT : Nat) (yk : Nat) (ys : Nat) (yq : Nat) (yP : Nat) (yS : Nat) (px : Nat)  : Met l yX8_purse wsX8_purse ({ frames := 0, cells := 0, slots := 0, locals := 0 }) (zPc D tc z0 [.ref px] ([(px, .inr (10, [.ref yr, .ref yC, .ref yT, .ref yk, .ref ys, .ref yq, .ref yP, .ref yS, .int 0, .long 0])), (ys, .inr (8, [.int 200, .int 5000, .int 600, .long 0, .long 0, .int 0, .long 0, .long 0, .long 0, .long 0]))] : va_W) (L, κ, g) sz) (va_Qi (fun (r : Int32) (u : (zS)) => r = 600 ∧ u = (L, κ, g)) (fun (u : (zS)) (t : State) => zB D tc (zA ([(px, .inr (10, [.ref yr, .ref yC, .ref yT, .ref yk, .ref ys, .ref yq, .ref yP, .ref yS, .int 0, .long 0])), (ys, .inr (8, [.int 200, .int 5000, .int 600, .long 0, .long 0, .int 0, .long 0, .long 0, .long 0, .long 0]))] : va_W) L sz) ([(px, .inr (10, [.ref yr, .ref yC, .ref yT, .ref yk, .ref ys, .ref yq, .ref yP, .ref yS, .int 0, .long 0])), (ys, .inr (8, [.int 200, .int 5000, .int 600, .long 0, .long 0, .int 0, .long 0, .long 0, .long 0, .long 0]))] : va_W) u t) (zA ([(px, .inr (10, [.ref yr, .ref yC, .ref yT, .ref yk, .ref ys, .ref yq, .ref yP, .ref yS, .int 0, .long 0])), (ys, .inr (8, [.int 200, .int 5000, .int 600, .long 0, .long 0, .int 0, .long 0, .long 0, .long 0, .long 0]))] : va_W) L sz)) 0 0 (zA ([(px, .inr (10, [.ref yr, .ref yC, .ref yT, .ref yk, .ref ys, .ref yq, .ref yP, .ref yS, .int 0, .long 0])), (ys, .inr (8, [.int 200, .int 5000, .int 600, .long 0, .long 0, .int 0, .long 0, .long 0, .long 0, .long 0]))] : va_W) L sz) := by
  refine Met.ofW (cc := cX8_purse) (maxL := 1) (ret := (some .int)) (by decide) rfl ?_
  intro p e9 s m args below meth c s₁ B hml hv
  obtain ⟨rfl, rfl, hK, hE, hI⟩ := hv.opn
  have hx := B.exec
  have hb := B.bytes
  have hr := B.returns
  have hts := atoms_spec (ws := wsX8_purse) B.pre
  have hown : s.vm.findClass RX8 = some m.cls := findClass_of_methodNamed B.named
  have hlocks := B.notSynchronized
  have hM : zM p s m c cX8_purse _ wsX8_purse RX8 D tc := ⟨hx, hb, hts, hown, hK⟩
  have hinX8 : ∀ w ∈ wsX80, w ∈ wsX8_purse := by decide +kernel
  have hinX6 : ∀ w ∈ wsX60, w ∈ wsX8_purse := by decide +kernel
  have hl := lv_entry ([.ref px]) (n := 1) (Nat.le_of_ble_eq_true rfl)
  rw [lg_entry_eq]
  generalize (lg_sl ([.ref px]) ++ List.replicate (1 - (lg_sl ([.ref px])).length) Slot.unset).toArray = ls at hl ⊢
  have hl : lv_has ls 1 [(0, .ref px)] := hl
  refine lv_aload_n hx hb dX8_purse_0 rfl (lv_at hl 0 rfl) ?_
  refine z_getX (i := 0) (j := 4) hM hI rfl hinX8 rfl (by decide) (by decide +kernel) (fun _ h9 => h9) rfl dX8_purse_1 ?_
  refine z_getX (i := 1) (j := 2) hM hI rfl hinX6 rfl (by decide) (by decide +kernel) (fun _ h9 => h9) rfl dX8_purse_4 ?_
  exact W.iret (v := 600) hx hb hr (fun t ht hW => ⟨⟨_, (L, κ, g), rfl, ⟨rfl, rfl⟩, z_end hK hI ht hW⟩, z_F hI ht⟩) (z_locs hI) dX8_purse_7

set_option maxHeartbeats 4000000 in
set_option maxRecDepth 100000 in
theorem x_X8_taken (l : Launch) (D : va_G) (tc : Nat → ClassId) (z0 : Nat) (L : List Nat) (κ : Nat → Nat) (g : Nat → Nat → Value) (sz : Nat) (yr : Nat) (yC : Nat) (yT : Nat) (yk : Nat) (ys : Nat) (yq : Nat) (yP : Nat) (yS : Nat) (px : Nat)  : Met l yX8_taken wsX8_taken ({ frames := 0, cells := 0, slots := 0, locals := 0 }) (zPc D tc z0 [.ref px] ([(px, .inr (10, [.ref yr, .ref yC, .ref yT, .ref yk, .ref ys, .ref yq, .ref yP, .ref yS, .int 0, .long 0])), (ys, .inr (8, [.int 200, .int 5000, .int 600, .long 0, .long 0, .int 0, .long 0, .long 0, .long 0, .long 0]))] : va_W) (L, κ, g) sz) (va_Qi (fun (r : Int32) (u : (zS)) => r = 0 ∧ u = (L, κ, g)) (fun (u : (zS)) (t : State) => zB D tc (zA ([(px, .inr (10, [.ref yr, .ref yC, .ref yT, .ref yk, .ref ys, .ref yq, .ref yP, .ref yS, .int 0, .long 0])), (ys, .inr (8, [.int 200, .int 5000, .int 600, .long 0, .long 0, .int 0, .long 0, .long 0, .long 0, .long 0]))] : va_W) L sz) ([(px, .inr (10, [.ref yr, .ref yC, .ref yT, .ref yk, .ref ys, .ref yq, .ref yP, .ref yS, .int 0, .long 0])), (ys, .inr (8, [.int 200, .int 5000, .int 600, .long 0, .long 0, .int 0, .long 0, .long 0, .long 0, .long 0]))] : va_W) u t) (zA ([(px, .inr (10, [.ref yr, .ref yC, .ref yT, .ref yk, .ref ys, .ref yq, .ref yP, .ref yS, .int 0, .long 0])), (ys, .inr (8, [.int 200, .int 5000, .int 600, .long 0, .long 0, .int 0, .long 0, .long 0, .long 0, .long 0]))] : va_W) L sz)) 0 0 (zA ([(px, .inr (10, [.ref yr, .ref yC, .ref yT, .ref yk, .ref ys, .ref yq, .ref yP, .ref yS, .int 0, .long 0])), (ys, .inr (8, [.int 200, .int 5000, .int 600, .long 0, .long 0, .int 0, .long 0, .long 0, .long 0, .long 0]))] : va_W) L sz) := by
  refine Met.ofW (cc := cX8_taken) (maxL := 1) (ret := (some .int)) (by decide) rfl ?_
  intro p e9 s m args below meth c s₁ B hml hv
  obtain ⟨rfl, rfl, hK, hE, hI⟩ := hv.opn
  have hx := B.exec
  have hb := B.bytes
  have hr := B.returns
  have hts := atoms_spec (ws := wsX8_taken) B.pre
  have hown : s.vm.findClass RX8 = some m.cls := findClass_of_methodNamed B.named
  have hlocks := B.notSynchronized
  have hM : zM p s m c cX8_taken _ wsX8_taken RX8 D tc := ⟨hx, hb, hts, hown, hK⟩
  have hinX8 : ∀ w ∈ wsX80, w ∈ wsX8_taken := by decide +kernel
  have hinX6 : ∀ w ∈ wsX60, w ∈ wsX8_taken := by decide +kernel
  have hl := lv_entry ([.ref px]) (n := 1) (Nat.le_of_ble_eq_true rfl)
  rw [lg_entry_eq]
  generalize (lg_sl ([.ref px]) ++ List.replicate (1 - (lg_sl ([.ref px])).length) Slot.unset).toArray = ls at hl ⊢
  have hl : lv_has ls 1 [(0, .ref px)] := hl
  refine lv_aload_n hx hb dX8_taken_0 rfl (lv_at hl 0 rfl) ?_
  refine z_getX (i := 0) (j := 4) hM hI rfl hinX8 rfl (by decide) (by decide +kernel) (fun _ h9 => h9) rfl dX8_taken_1 ?_
  refine z_getX (i := 1) (j := 3) hM hI rfl hinX6 rfl (by decide) (by decide +kernel) (fun _ h9 => h9) rfl dX8_taken_4 ?_
  refine lv_l2i hx hb dX8_taken_7 rfl ?_
  refine lv_topi (fun v1 e2 => ?_)
  obtain rfl : v1 = 0 := e2.trans (by decide +kernel)
  exact W.iret (v := 0) hx hb hr (fun t ht hW => ⟨⟨_, (L, κ, g), rfl, ⟨rfl, rfl⟩, z_end hK hI ht hW⟩, z_F hI ht⟩) (z_locs hI) dX8_taken_8

set_option maxHeartbeats 4000000 in
set_option maxRecDepth 100000 in
theorem x_X8_owed (l : Launch) (D : va_G) (tc : Nat → ClassId) (z0 : Nat) (L : List Nat) (κ : Nat → Nat) (g : Nat → Nat → Value) (sz : Nat) (yr : Nat) (yC : Nat) (yT : Nat) (yk : Nat) (ys : Nat) (yq : Nat) (yP : Nat) (yS : Nat) (px : Nat)  : Met l yX8_owed wsX8_owed ({ frames := 0, cells := 0, slots := 0, locals := 0 }) (zPc D tc z0 [.ref px] ([(px, .inr (10, [.ref yr, .ref yC, .ref yT, .ref yk, .ref ys, .ref yq, .ref yP, .ref yS, .int 0, .long 0])), (ys, .inr (8, [.int 200, .int 5000, .int 600, .long 0, .long 0, .int 0, .long 0, .long 0, .long 0, .long 0]))] : va_W) (L, κ, g) sz) (va_Qi (fun (r : Int32) (u : (zS)) => r = 0 ∧ u = (L, κ, g)) (fun (u : (zS)) (t : State) => zB D tc (zA ([(px, .inr (10, [.ref yr, .ref yC, .ref yT, .ref yk, .ref ys, .ref yq, .ref yP, .ref yS, .int 0, .long 0])), (ys, .inr (8, [.int 200, .int 5000, .int 600, .long 0, .long 0, .int 0, .long 0, .long 0, .long 0, .long 0]))] : va_W) L sz) ([(px, .inr (10, [.ref yr, .ref yC, .ref yT, .ref yk, .ref ys, .ref yq, .ref yP, .ref yS, .int 0, .long 0])), (ys, .inr (8, [.int 200, .int 5000, .int 600, .long 0, .long 0, .int 0, .long 0, .long 0, .long 0, .long 0]))] : va_W) u t) (zA ([(px, .inr (10, [.ref yr, .ref yC, .ref yT, .ref yk, .ref ys, .ref yq, .ref yP, .ref yS, .int 0, .long 0])), (ys, .inr (8, [.int 200, .int 5000, .int 600, .long 0, .long 0, .int 0, .long 0, .long 0, .long 0, .long 0]))] : va_W) L sz)) 0 0 (zA ([(px, .inr (10, [.ref yr, .ref yC, .ref yT, .ref yk, .ref ys, .ref yq, .ref yP, .ref yS, .int 0, .long 0])), (ys, .inr (8, [.int 200, .int 5000, .int 600, .long 0, .long 0, .int 0, .long 0, .long 0, .long 0, .long 0]))] : va_W) L sz) := by
  refine Met.ofW (cc := cX8_owed) (maxL := 1) (ret := (some .int)) (by decide) rfl ?_
  intro p e9 s m args below meth c s₁ B hml hv
  obtain ⟨rfl, rfl, hK, hE, hI⟩ := hv.opn
  have hx := B.exec
  have hb := B.bytes
  have hr := B.returns
  have hts := atoms_spec (ws := wsX8_owed) B.pre
  have hown : s.vm.findClass RX8 = some m.cls := findClass_of_methodNamed B.named
  have hlocks := B.notSynchronized
  have hM : zM p s m c cX8_owed _ wsX8_owed RX8 D tc := ⟨hx, hb, hts, hown, hK⟩
  have hinX8 : ∀ w ∈ wsX80, w ∈ wsX8_owed := by decide +kernel
  have hinX6 : ∀ w ∈ wsX60, w ∈ wsX8_owed := by decide +kernel
  have hl := lv_entry ([.ref px]) (n := 1) (Nat.le_of_ble_eq_true rfl)
  rw [lg_entry_eq]
  generalize (lg_sl ([.ref px]) ++ List.replicate (1 - (lg_sl ([.ref px])).length) Slot.unset).toArray = ls at hl ⊢
  have hl : lv_has ls 1 [(0, .ref px)] := hl
  refine lv_aload_n hx hb dX8_owed_0 rfl (lv_at hl 0 rfl) ?_
  refine z_getX (i := 0) (j := 4) hM hI rfl hinX8 rfl (by decide) (by decide +kernel) (fun _ h9 => h9) rfl dX8_owed_1 ?_
  refine z_getX (i := 1) (j := 4) hM hI rfl hinX6 rfl (by decide) (by decide +kernel) (fun _ h9 => h9) rfl dX8_owed_4 ?_
  refine lv_l2i hx hb dX8_owed_7 rfl ?_
  refine lv_topi (fun v1 e2 => ?_)
  obtain rfl : v1 = 0 := e2.trans (by decide +kernel)
  exact W.iret (v := 0) hx hb hr (fun t ht hW => ⟨⟨_, (L, κ, g), rfl, ⟨rfl, rfl⟩, z_end hK hI ht hW⟩, z_F hI ht⟩) (z_locs hI) dX8_owed_8

set_option maxHeartbeats 4000000 in
set_option maxRecDepth 100000 in
theorem x_X8_caseDegrees (l : Launch) (D : va_G) (tc : Nat → ClassId) (z0 : Nat) (L : List Nat) (κ : Nat → Nat) (g : Nat → Nat → Value) (sz : Nat) (yr : Nat) (yC : Nat) (yT : Nat) (yk : Nat) (ys : Nat) (yb : Nat) (yq : Nat) (yA : Nat) (yP : Nat) (yh : Nat) (yS : Nat) (yd : Nat) (yda : Nat) (px : Nat)  : Met l yX8_caseDegrees wsX8_caseDegrees ({ frames := 1, cells := 0, slots := 0, locals := 20 }) (zPc D tc z0 [.ref px] ([(px, .inr (10, [.ref yr, .ref yC, .ref yT, .ref yk, .ref ys, .ref yq, .ref yP, .ref yS, .int 0, .long 0])), (yk, .inr (4, [.ref yb, .ref yA, .long 0, .int 0, .int 0])), (yb, .inr (3, [.int 200, .ref yh, .ref yd])), (yd, .inr (2, [.ref yda, .int 1])), (yda, .inl (tc 1, 16, .inr (.inl (vp_updL (fun _ => 0) (0 : Int32).toNatClampNeg 20))))] : va_W) (L, κ, g) sz) (va_Qi (fun (r : Int32) (u : (zS)) => r = 20 ∧ u = (L, κ, g)) (fun (u : (zS)) (t : State) => zB D tc (zA ([(px, .inr (10, [.ref yr, .ref yC, .ref yT, .ref yk, .ref ys, .ref yq, .ref yP, .ref yS, .int 0, .long 0])), (yk, .inr (4, [.ref yb, .ref yA, .long 0, .int 0, .int 0])), (yb, .inr (3, [.int 200, .ref yh, .ref yd])), (yd, .inr (2, [.ref yda, .int 1])), (yda, .inl (tc 1, 16, .inr (.inl (vp_updL (fun _ => 0) (0 : Int32).toNatClampNeg 20))))] : va_W) L sz) ([(px, .inr (10, [.ref yr, .ref yC, .ref yT, .ref yk, .ref ys, .ref yq, .ref yP, .ref yS, .int 0, .long 0])), (yk, .inr (4, [.ref yb, .ref yA, .long 0, .int 0, .int 0])), (yb, .inr (3, [.int 200, .ref yh, .ref yd])), (yd, .inr (2, [.ref yda, .int 1])), (yda, .inl (tc 1, 16, .inr (.inl (vp_updL (fun _ => 0) (0 : Int32).toNatClampNeg 20))))] : va_W) u t) (zA ([(px, .inr (10, [.ref yr, .ref yC, .ref yT, .ref yk, .ref ys, .ref yq, .ref yP, .ref yS, .int 0, .long 0])), (yk, .inr (4, [.ref yb, .ref yA, .long 0, .int 0, .int 0])), (yb, .inr (3, [.int 200, .ref yh, .ref yd])), (yd, .inr (2, [.ref yda, .int 1])), (yda, .inl (tc 1, 16, .inr (.inl (vp_updL (fun _ => 0) (0 : Int32).toNatClampNeg 20))))] : va_W) L sz)) 0 0 (zA ([(px, .inr (10, [.ref yr, .ref yC, .ref yT, .ref yk, .ref ys, .ref yq, .ref yP, .ref yS, .int 0, .long 0])), (yk, .inr (4, [.ref yb, .ref yA, .long 0, .int 0, .int 0])), (yb, .inr (3, [.int 200, .ref yh, .ref yd])), (yd, .inr (2, [.ref yda, .int 1])), (yda, .inl (tc 1, 16, .inr (.inl (vp_updL (fun _ => 0) (0 : Int32).toNatClampNeg 20))))] : va_W) L sz) := by
  refine Met.ofW (cc := cX8_caseDegrees) (maxL := 1) (ret := (some .int)) (by decide) rfl ?_
  intro p e9 s m args below meth c s₁ B hml hv
  obtain ⟨rfl, rfl, hK, hE, hI⟩ := hv.opn
  have hx := B.exec
  have hb := B.bytes
  have hr := B.returns
  have hts := atoms_spec (ws := wsX8_caseDegrees) B.pre
  have hown : s.vm.findClass RX8 = some m.cls := findClass_of_methodNamed B.named
  have hlocks := B.notSynchronized
  have hM : zM p s m c cX8_caseDegrees _ wsX8_caseDegrees RX8 D tc := ⟨hx, hb, hts, hown, hK⟩
  have hinX8 : ∀ w ∈ wsX80, w ∈ wsX8_caseDegrees := by decide +kernel
  have hinX2 : ∀ w ∈ wsX20, w ∈ wsX8_caseDegrees := by decide +kernel
  have hinX1 : ∀ w ∈ wsX10, w ∈ wsX8_caseDegrees := by decide +kernel
  have hl := lv_entry ([.ref px]) (n := 1) (Nat.le_of_ble_eq_true rfl)
  rw [lg_entry_eq]
  generalize (lg_sl ([.ref px]) ++ List.replicate (1 - (lg_sl ([.ref px])).length) Slot.unset).toArray = ls at hl ⊢
  have hl : lv_has ls 1 [(0, .ref px)] := hl
  refine lv_aload_n hx hb dX8_caseDegrees_0 rfl (lv_at hl 0 rfl) ?_
  refine z_getX (i := 0) (j := 3) hM hI rfl hinX8 rfl (by decide) (by decide +kernel) (fun _ h9 => h9) rfl dX8_caseDegrees_1 ?_
  refine z_getX (i := 1) (j := 0) hM hI rfl hinX2 rfl (by decide) (by decide +kernel) (fun _ h9 => h9) rfl dX8_caseDegrees_4 ?_
  refine z_getX (i := 2) (j := 2) hM hI rfl hinX1 rfl (by decide) (by decide +kernel) (fun _ h9 => h9) rfl dX8_caseDegrees_7 ?_
  refine z_clX (Xc := ([(yd, .inr (2, [.ref yda, .int 1])), (yda, .inl (tc 1, 16, .inr (.inl (vp_updL (fun _ => 0) (0 : Int32).toNatClampNeg 20))))] : va_W)) (wr := ([(px, .inr (10, [.ref yr, .ref yC, .ref yT, .ref yk, .ref ys, .ref yq, .ref yP, .ref yS, .int 0, .long 0])), (yk, .inr (4, [.ref yb, .ref yA, .long 0, .int 0, .int 0])), (yb, .inr (3, [.int 200, .ref yh, .ref yd]))] : va_W)) (rx := ([(yd, .inr (2, [.ref yda, .int 1])), (yda, .inl (tc 1, 16, .inr (.inl (vp_updL (fun _ => 0) (0 : Int32).toNatClampNeg 20))))] : va_W)) [3, 4] [0, 1, 2] rfl rfl rfl rfl (by decide) hI (va_runV (As := []) (rest := []) ⟨hx, hb, hml, hown, hts⟩ (x_X0_lowBits_20 l D tc z0 _ κ g _ yd yda ) (cwV 0 hts gX8_caseDegrees_X0_lowBits rfl rfl rfl (by decide +kernel) ⟨Nat.le_of_ble_eq_true rfl, Nat.le_of_ble_eq_true rfl⟩) (z_preV (Xc := ([(yd, .inr (2, [.ref yda, .int 1])), (yda, .inl (tc 1, 16, .inr (.inl (vp_updL (fun _ => 0) (0 : Int32).toNatClampNeg 20))))] : va_W)) hK hE hI [3, 4] rfl rfl (z_recvX hK hI (i := 3) rfl rfl)) rfl rfl hl.1 rfl (lv_room (Nat.le_of_ble_eq_true rfl)) dX8_caseDegrees_10 ⟨Nat.le_of_ble_eq_true rfl, Nat.le_of_ble_eq_true rfl⟩) (fun v1 u H locs hw hI => ?_)
  obtain ⟨rfl, rfl⟩ := hw
  have hI : zI D tc _ s.heap [(px, .inr (10, [.ref yr, .ref yC, .ref yT, .ref yk, .ref ys, .ref yq, .ref yP, .ref yS, .int 0, .long 0])), (yk, .inr (4, [.ref yb, .ref yA, .long 0, .int 0, .int 0])), (yb, .inr (3, [.int 200, .ref yh, .ref yd])), (yd, .inr (2, [.ref yda, .int 1])), (yda, .inl (tc 1, 16, .inr (.inl (vp_updL (fun _ => 0) (0 : Int32).toNatClampNeg 20))))] L κ g _ _ := hI
  refine lv_l2i hx hb dX8_caseDegrees_13 rfl ?_
  refine lv_topi (fun v2 e3 => ?_)
  obtain rfl : v2 = 20 := e3.trans (by decide +kernel)
  exact W.iret (v := 20) hx hb hr (fun t ht hW => ⟨⟨_, (L, κ, g), rfl, ⟨rfl, rfl⟩, z_end hK hI ht hW⟩, z_F hI ht⟩) (z_locs hI) dX8_caseDegrees_14

set_option maxHeartbeats 4000000 in
set_option maxRecDepth 100000 in
theorem x_X8_checksum (l : Launch) (D : va_G) (tc : Nat → ClassId) (z0 : Nat) (L : List Nat) (κ : Nat → Nat) (g : Nat → Nat → Value) (sz : Nat) (yr : Nat) (yC : Nat) (yT : Nat) (yk : Nat) (ys : Nat) (yb : Nat) (yq : Nat) (yA : Nat) (yP : Nat) (yh : Nat) (yS : Nat) (yd : Nat) (yha : Nat) (px : Nat)  : Met l yX8_checksum wsX8_checksum ({ frames := 1, cells := 0, slots := 0, locals := 20 }) (zPc D tc z0 [.ref px] ([(px, .inr (10, [.ref yr, .ref yC, .ref yT, .ref yk, .ref ys, .ref yq, .ref yP, .ref yS, .int 0, .long 0])), (yC, .inl (tc 3, 6, .inr (.inr (.inr (.inr (fun _ => none)))))), (yT, .inl (tc 5, 8, .inr (.inr (.inr (.inr (fun _ => none)))))), (yk, .inr (4, [.ref yb, .ref yA, .long 0, .int 0, .int 0])), (yb, .inr (3, [.int 200, .ref yh, .ref yd])), (yh, .inr (2, [.ref yha, .int 1])), (yha, .inl (tc 1, 16, .inr (.inl (vp_updL (fun _ => 0) (0 : Int32).toNatClampNeg 4000)))), (ys, .inr (8, [.int 200, .int 5000, .int 600, .long 0, .long 0, .int 0, .long 0, .long 0, .long 0, .long 0]))] : va_W) (L, κ, g) sz) (va_Ql (fun (r : Int64) (u : (zS)) => r = 135727 ∧ u = (L, κ, g)) (fun (u : (zS)) (t : State) => zB D tc (zA ([(px, .inr (10, [.ref yr, .ref yC, .ref yT, .ref yk, .ref ys, .ref yq, .ref yP, .ref yS, .int 0, .long 0])), (yC, .inl (tc 3, 6, .inr (.inr (.inr (.inr (fun _ => none)))))), (yT, .inl (tc 5, 8, .inr (.inr (.inr (.inr (fun _ => none)))))), (yk, .inr (4, [.ref yb, .ref yA, .long 0, .int 0, .int 0])), (yb, .inr (3, [.int 200, .ref yh, .ref yd])), (yh, .inr (2, [.ref yha, .int 1])), (yha, .inl (tc 1, 16, .inr (.inl (vp_updL (fun _ => 0) (0 : Int32).toNatClampNeg 4000)))), (ys, .inr (8, [.int 200, .int 5000, .int 600, .long 0, .long 0, .int 0, .long 0, .long 0, .long 0, .long 0]))] : va_W) L sz) ([(px, .inr (10, [.ref yr, .ref yC, .ref yT, .ref yk, .ref ys, .ref yq, .ref yP, .ref yS, .int 0, .long 0])), (yC, .inl (tc 3, 6, .inr (.inr (.inr (.inr (fun _ => none)))))), (yT, .inl (tc 5, 8, .inr (.inr (.inr (.inr (fun _ => none)))))), (yk, .inr (4, [.ref yb, .ref yA, .long 0, .int 0, .int 0])), (yb, .inr (3, [.int 200, .ref yh, .ref yd])), (yh, .inr (2, [.ref yha, .int 1])), (yha, .inl (tc 1, 16, .inr (.inl (vp_updL (fun _ => 0) (0 : Int32).toNatClampNeg 4000)))), (ys, .inr (8, [.int 200, .int 5000, .int 600, .long 0, .long 0, .int 0, .long 0, .long 0, .long 0, .long 0]))] : va_W) u t) (zA ([(px, .inr (10, [.ref yr, .ref yC, .ref yT, .ref yk, .ref ys, .ref yq, .ref yP, .ref yS, .int 0, .long 0])), (yC, .inl (tc 3, 6, .inr (.inr (.inr (.inr (fun _ => none)))))), (yT, .inl (tc 5, 8, .inr (.inr (.inr (.inr (fun _ => none)))))), (yk, .inr (4, [.ref yb, .ref yA, .long 0, .int 0, .int 0])), (yb, .inr (3, [.int 200, .ref yh, .ref yd])), (yh, .inr (2, [.ref yha, .int 1])), (yha, .inl (tc 1, 16, .inr (.inl (vp_updL (fun _ => 0) (0 : Int32).toNatClampNeg 4000)))), (ys, .inr (8, [.int 200, .int 5000, .int 600, .long 0, .long 0, .int 0, .long 0, .long 0, .long 0, .long 0]))] : va_W) L sz)) 0 0 (zA ([(px, .inr (10, [.ref yr, .ref yC, .ref yT, .ref yk, .ref ys, .ref yq, .ref yP, .ref yS, .int 0, .long 0])), (yC, .inl (tc 3, 6, .inr (.inr (.inr (.inr (fun _ => none)))))), (yT, .inl (tc 5, 8, .inr (.inr (.inr (.inr (fun _ => none)))))), (yk, .inr (4, [.ref yb, .ref yA, .long 0, .int 0, .int 0])), (yb, .inr (3, [.int 200, .ref yh, .ref yd])), (yh, .inr (2, [.ref yha, .int 1])), (yha, .inl (tc 1, 16, .inr (.inl (vp_updL (fun _ => 0) (0 : Int32).toNatClampNeg 4000)))), (ys, .inr (8, [.int 200, .int 5000, .int 600, .long 0, .long 0, .int 0, .long 0, .long 0, .long 0, .long 0]))] : va_W) L sz) := by
  refine Met.ofW (cc := cX8_checksum) (maxL := 7) (ret := (some .long)) (by decide) rfl ?_
  intro p e9 s m args below meth c s₁ B hml hv
  obtain ⟨rfl, rfl, hK, hE, hI⟩ := hv.opn
  have hx := B.exec
  have hb := B.bytes
  have hr := B.returns
  have hts := atoms_spec (ws := wsX8_checksum) B.pre
  have hown : s.vm.findClass RX8 = some m.cls := findClass_of_methodNamed B.named
  have hlocks := B.notSynchronized
  have hM : zM p s m c cX8_checksum _ wsX8_checksum RX8 D tc := ⟨hx, hb, hts, hown, hK⟩
  have hinX8 : ∀ w ∈ wsX80, w ∈ wsX8_checksum := by decide +kernel
  have hinX2 : ∀ w ∈ wsX20, w ∈ wsX8_checksum := by decide +kernel
  have hinX1 : ∀ w ∈ wsX10, w ∈ wsX8_checksum := by decide +kernel
  have hinX6 : ∀ w ∈ wsX60, w ∈ wsX8_checksum := by decide +kernel
  have hl := lv_entry ([.ref px]) (n := 7) (Nat.le_of_ble_eq_true rfl)
  rw [lg_entry_eq]
  generalize (lg_sl ([.ref px]) ++ List.replicate (7 - (lg_sl ([.ref px])).length) Slot.unset).toArray = ls at hl ⊢
  have hl : lv_has ls 7 [(0, .ref px)] := hl
  refine lv_ldc2 (v := 7) hx hb hown (hts (.constantLong RX8 285 (7)) (by decide +kernel)) dX8_checksum_0 ?_
  refine lv_lstore_n (lv' := [(1, .long 7), (0, .ref px)]) hx hb dX8_checksum_3 rfl hl (by decide) rfl (fun ls hl => ?_)
  refine lv_aload_n hx hb dX8_checksum_4 rfl (lv_at hl 1 rfl) ?_
  refine z_getX (i := 0) (j := 1) hM hI rfl hinX8 rfl (by decide) (by decide +kernel) (fun _ h9 => h9) rfl dX8_checksum_5 ?_
  refine lv_astore_n (lv' := [(3, .ref yC), (1, .long 7), (0, .ref px)]) hx hb dX8_checksum_8 rfl hl (by decide) rfl (fun ls hl => ?_)
  refine lv_aload_n hx hb dX8_checksum_9 rfl (lv_at hl 0 rfl) ?_
  refine z_alenX (i := 1) (v := 6) hM hI rfl rfl (show Int32.ofNat 6 = 6 by decide) dX8_checksum_10 ?_
  refine lv_istore (lv' := [(4, .int 6), (3, .ref yC), (1, .long 7), (0, .ref px)]) hx hb dX8_checksum_11 hl (by decide) rfl (fun ls hl => ?_)
  refine lv_iconst (v := 0) hx hb dX8_checksum_13 (by decide) ?_
  refine lv_istore (lv' := [(5, .int 0), (4, .int 6), (3, .ref yC), (1, .long 7), (0, .ref px)]) hx hb dX8_checksum_14 hl (by decide) rfl (fun ls hl => ?_)
  refine lv_iload hx hb dX8_checksum_16 (lv_at hl 0 rfl) ?_
  refine lv_iload hx hb dX8_checksum_18 (lv_at hl 1 rfl) ?_
  refine lv_icmp_ge (tgt := 71) hx hb dX8_checksum_20 (by decide) (fun h9 => by first | exact absurd h9 (by decide) | exact absurd (by decide) h9) (fun _ => ?_)
  refine lv_aload_n hx hb dX8_checksum_23 rfl (lv_at hl 2 rfl) ?_
  refine lv_iload hx hb dX8_checksum_24 (lv_at hl 0 rfl) ?_
  refine z_aaldE (i := 1) (x := none) hM hI rfl rfl (vp_in_c 0 6 (by decide)) (by first | rfl | decide +kernel | (simp [va_up]; done)) dX8_checksum_26 ?_
  show W p l e9 _ s m _ below meth c _ _ _ _ _ (F0 m 27 ls (.null :: []))
  refine lv_astoreN (lv' := [(6, .null), (5, .int 0), (4, .int 6), (3, .ref yC), (1, .long 7), (0, .ref px)]) hx hb dX8_checksum_27 hl (by decide) rfl (fun ls hl => ?_)
  refine lv_aloadN hx hb dX8_checksum_29 (lv_at hl 0 rfl) ?_
  refine lv_ifnullN (tgt := 65) hx hb dX8_checksum_31 (by decide) ?_
  refine lv_iinc (v := 1) (lv' := [(5, .int 1), (6, .null), (4, .int 6), (3, .ref yC), (1, .long 7), (0, .ref px)]) hx hb dX8_checksum_65 hl (k := 1) rfl (by decide) (by decide) rfl (fun ls hl => ?_)
  refine lv_goto (tgt := 16) hx hb dX8_checksum_68 (by decide) ?_
  refine lv_iload hx hb dX8_checksum_16 (lv_at hl 0 rfl) ?_
  refine lv_iload hx hb dX8_checksum_18 (lv_at hl 2 rfl) ?_
  refine lv_icmp_ge (tgt := 71) hx hb dX8_checksum_20 (by decide) (fun h9 => by first | exact absurd h9 (by decide) | exact absurd (by decide) h9) (fun _ => ?_)
  refine lv_aload_n hx hb dX8_checksum_23 rfl (lv_at hl 3 rfl) ?_
  refine lv_iload hx hb dX8_checksum_24 (lv_at hl 0 rfl) ?_
  refine z_aaldE (i := 1) (x := none) hM hI rfl rfl (vp_in_c 1 6 (by decide)) (by first | rfl | decide +kernel | (simp [va_up]; done)) dX8_checksum_26 ?_
  show W p l e9 _ s m _ below meth c _ _ _ _ _ (F0 m 27 ls (.null :: []))
  refine lv_astoreN (lv' := [(6, .null), (5, .int 1), (4, .int 6), (3, .ref yC), (1, .long 7), (0, .ref px)]) hx hb dX8_checksum_27 hl (by decide) rfl (fun ls hl => ?_)
  refine lv_aloadN hx hb dX8_checksum_29 (lv_at hl 0 rfl) ?_
  refine lv_ifnullN (tgt := 65) hx hb dX8_checksum_31 (by decide) ?_
  refine lv_iinc (v := 2) (lv' := [(5, .int 2), (6, .null), (4, .int 6), (3, .ref yC), (1, .long 7), (0, .ref px)]) hx hb dX8_checksum_65 hl (k := 1) rfl (by decide) (by decide) rfl (fun ls hl => ?_)
  refine lv_goto (tgt := 16) hx hb dX8_checksum_68 (by decide) ?_
  refine lv_iload hx hb dX8_checksum_16 (lv_at hl 0 rfl) ?_
  refine lv_iload hx hb dX8_checksum_18 (lv_at hl 2 rfl) ?_
  refine lv_icmp_ge (tgt := 71) hx hb dX8_checksum_20 (by decide) (fun h9 => by first | exact absurd h9 (by decide) | exact absurd (by decide) h9) (fun _ => ?_)
  refine lv_aload_n hx hb dX8_checksum_23 rfl (lv_at hl 3 rfl) ?_
  refine lv_iload hx hb dX8_checksum_24 (lv_at hl 0 rfl) ?_
  refine z_aaldE (i := 1) (x := none) hM hI rfl rfl (vp_in_c 2 6 (by decide)) (by first | rfl | decide +kernel | (simp [va_up]; done)) dX8_checksum_26 ?_
  show W p l e9 _ s m _ below meth c _ _ _ _ _ (F0 m 27 ls (.null :: []))
  refine lv_astoreN (lv' := [(6, .null), (5, .int 2), (4, .int 6), (3, .ref yC), (1, .long 7), (0, .ref px)]) hx hb dX8_checksum_27 hl (by decide) rfl (fun ls hl => ?_)
  refine lv_aloadN hx hb dX8_checksum_29 (lv_at hl 0 rfl) ?_
  refine lv_ifnullN (tgt := 65) hx hb dX8_checksum_31 (by decide) ?_
  refine lv_iinc (v := 3) (lv' := [(5, .int 3), (6, .null), (4, .int 6), (3, .ref yC), (1, .long 7), (0, .ref px)]) hx hb dX8_checksum_65 hl (k := 1) rfl (by decide) (by decide) rfl (fun ls hl => ?_)
  refine lv_goto (tgt := 16) hx hb dX8_checksum_68 (by decide) ?_
  refine lv_iload hx hb dX8_checksum_16 (lv_at hl 0 rfl) ?_
  refine lv_iload hx hb dX8_checksum_18 (lv_at hl 2 rfl) ?_
  refine lv_icmp_ge (tgt := 71) hx hb dX8_checksum_20 (by decide) (fun h9 => by first | exact absurd h9 (by decide) | exact absurd (by decide) h9) (fun _ => ?_)
  refine lv_aload_n hx hb dX8_checksum_23 rfl (lv_at hl 3 rfl) ?_
  refine lv_iload hx hb dX8_checksum_24 (lv_at hl 0 rfl) ?_
  refine z_aaldE (i := 1) (x := none) hM hI rfl rfl (vp_in_c 3 6 (by decide)) (by first | rfl | decide +kernel | (simp [va_up]; done)) dX8_checksum_26 ?_
  show W p l e9 _ s m _ below meth c _ _ _ _ _ (F0 m 27 ls (.null :: []))
  refine lv_astoreN (lv' := [(6, .null), (5, .int 3), (4, .int 6), (3, .ref yC), (1, .long 7), (0, .ref px)]) hx hb dX8_checksum_27 hl (by decide) rfl (fun ls hl => ?_)
  refine lv_aloadN hx hb dX8_checksum_29 (lv_at hl 0 rfl) ?_
  refine lv_ifnullN (tgt := 65) hx hb dX8_checksum_31 (by decide) ?_
  refine lv_iinc (v := 4) (lv' := [(5, .int 4), (6, .null), (4, .int 6), (3, .ref yC), (1, .long 7), (0, .ref px)]) hx hb dX8_checksum_65 hl (k := 1) rfl (by decide) (by decide) rfl (fun ls hl => ?_)
  refine lv_goto (tgt := 16) hx hb dX8_checksum_68 (by decide) ?_
  refine lv_iload hx hb dX8_checksum_16 (lv_at hl 0 rfl) ?_
  refine lv_iload hx hb dX8_checksum_18 (lv_at hl 2 rfl) ?_
  refine lv_icmp_ge (tgt := 71) hx hb dX8_checksum_20 (by decide) (fun h9 => by first | exact absurd h9 (by decide) | exact absurd (by decide) h9) (fun _ => ?_)
  refine lv_aload_n hx hb dX8_checksum_23 rfl (lv_at hl 3 rfl) ?_
  refine lv_iload hx hb dX8_checksum_24 (lv_at hl 0 rfl) ?_
  refine z_aaldE (i := 1) (x := none) hM hI rfl rfl (vp_in_c 4 6 (by decide)) (by first | rfl | decide +kernel | (simp [va_up]; done)) dX8_checksum_26 ?_
  show W p l e9 _ s m _ below meth c _ _ _ _ _ (F0 m 27 ls (.null :: []))
  refine lv_astoreN (lv' := [(6, .null), (5, .int 4), (4, .int 6), (3, .ref yC), (1, .long 7), (0, .ref px)]) hx hb dX8_checksum_27 hl (by decide) rfl (fun ls hl => ?_)
  refine lv_aloadN hx hb dX8_checksum_29 (lv_at hl 0 rfl) ?_
  refine lv_ifnullN (tgt := 65) hx hb dX8_checksum_31 (by decide) ?_
  refine lv_iinc (v := 5) (lv' := [(5, .int 5), (6, .null), (4, .int 6), (3, .ref yC), (1, .long 7), (0, .ref px)]) hx hb dX8_checksum_65 hl (k := 1) rfl (by decide) (by decide) rfl (fun ls hl => ?_)
  refine lv_goto (tgt := 16) hx hb dX8_checksum_68 (by decide) ?_
  refine lv_iload hx hb dX8_checksum_16 (lv_at hl 0 rfl) ?_
  refine lv_iload hx hb dX8_checksum_18 (lv_at hl 2 rfl) ?_
  refine lv_icmp_ge (tgt := 71) hx hb dX8_checksum_20 (by decide) (fun h9 => by first | exact absurd h9 (by decide) | exact absurd (by decide) h9) (fun _ => ?_)
  refine lv_aload_n hx hb dX8_checksum_23 rfl (lv_at hl 3 rfl) ?_
  refine lv_iload hx hb dX8_checksum_24 (lv_at hl 0 rfl) ?_
  refine z_aaldE (i := 1) (x := none) hM hI rfl rfl (vp_in_c 5 6 (by decide)) (by first | rfl | decide +kernel | (simp [va_up]; done)) dX8_checksum_26 ?_
  show W p l e9 _ s m _ below meth c _ _ _ _ _ (F0 m 27 ls (.null :: []))
  refine lv_astoreN (lv' := [(6, .null), (5, .int 5), (4, .int 6), (3, .ref yC), (1, .long 7), (0, .ref px)]) hx hb dX8_checksum_27 hl (by decide) rfl (fun ls hl => ?_)
  refine lv_aloadN hx hb dX8_checksum_29 (lv_at hl 0 rfl) ?_
  refine lv_ifnullN (tgt := 65) hx hb dX8_checksum_31 (by decide) ?_
  refine lv_iinc (v := 6) (lv' := [(5, .int 6), (6, .null), (4, .int 6), (3, .ref yC), (1, .long 7), (0, .ref px)]) hx hb dX8_checksum_65 hl (k := 1) rfl (by decide) (by decide) rfl (fun ls hl => ?_)
  refine lv_goto (tgt := 16) hx hb dX8_checksum_68 (by decide) ?_
  refine lv_iload hx hb dX8_checksum_16 (lv_at hl 0 rfl) ?_
  refine lv_iload hx hb dX8_checksum_18 (lv_at hl 2 rfl) ?_
  refine lv_icmp_ge (tgt := 71) hx hb dX8_checksum_20 (by decide) (fun _ => ?_) (fun h9 => by first | exact absurd h9 (by decide) | exact absurd (by decide) h9)
  refine lv_aload_n hx hb dX8_checksum_71 rfl (lv_at hl 5 rfl) ?_
  refine z_getX (i := 0) (j := 2) hM hI rfl hinX8 rfl (by decide) (by decide +kernel) (fun _ h9 => h9) rfl dX8_checksum_72 ?_
  refine lv_astore_n (lv' := [(3, .ref yT), (5, .int 6), (6, .null), (4, .int 6), (1, .long 7), (0, .ref px)]) hx hb dX8_checksum_75 rfl hl (by decide) rfl (fun ls hl => ?_)
  refine lv_aload_n hx hb dX8_checksum_76 rfl (lv_at hl 0 rfl) ?_
  refine z_alenX (i := 2) (v := 8) hM hI rfl rfl (show Int32.ofNat 8 = 8 by decide) dX8_checksum_77 ?_
  refine lv_istore (lv' := [(4, .int 8), (3, .ref yT), (5, .int 6), (6, .null), (1, .long 7), (0, .ref px)]) hx hb dX8_checksum_78 hl (by decide) rfl (fun ls hl => ?_)
  refine lv_iconst (v := 0) hx hb dX8_checksum_80 (by decide) ?_
  refine lv_istore (lv' := [(5, .int 0), (4, .int 8), (3, .ref yT), (6, .null), (1, .long 7), (0, .ref px)]) hx hb dX8_checksum_81 hl (by decide) rfl (fun ls hl => ?_)
  refine lv_iload hx hb dX8_checksum_83 (lv_at hl 0 rfl) ?_
  refine lv_iload hx hb dX8_checksum_85 (lv_at hl 1 rfl) ?_
  refine lv_icmp_ge (tgt := 120) hx hb dX8_checksum_87 (by decide) (fun h9 => by first | exact absurd h9 (by decide) | exact absurd (by decide) h9) (fun _ => ?_)
  refine lv_aload_n hx hb dX8_checksum_90 rfl (lv_at hl 2 rfl) ?_
  refine lv_iload hx hb dX8_checksum_91 (lv_at hl 0 rfl) ?_
  refine z_aaldE (i := 2) (x := none) hM hI rfl rfl (vp_in_c 0 8 (by decide)) (by first | rfl | decide +kernel | (simp [va_up]; done)) dX8_checksum_93 ?_
  show W p l e9 _ s m _ below meth c _ _ _ _ _ (F0 m 94 ls (.null :: []))
  refine lv_astoreN (lv' := [(6, .null), (5, .int 0), (4, .int 8), (3, .ref yT), (1, .long 7), (0, .ref px)]) hx hb dX8_checksum_94 hl (by decide) rfl (fun ls hl => ?_)
  refine lv_aloadN hx hb dX8_checksum_96 (lv_at hl 0 rfl) ?_
  refine lv_ifnullN (tgt := 114) hx hb dX8_checksum_98 (by decide) ?_
  refine lv_iinc (v := 1) (lv' := [(5, .int 1), (6, .null), (4, .int 8), (3, .ref yT), (1, .long 7), (0, .ref px)]) hx hb dX8_checksum_114 hl (k := 1) rfl (by decide) (by decide) rfl (fun ls hl => ?_)
  refine lv_goto (tgt := 83) hx hb dX8_checksum_117 (by decide) ?_
  refine lv_iload hx hb dX8_checksum_83 (lv_at hl 0 rfl) ?_
  refine lv_iload hx hb dX8_checksum_85 (lv_at hl 2 rfl) ?_
  refine lv_icmp_ge (tgt := 120) hx hb dX8_checksum_87 (by decide) (fun h9 => by first | exact absurd h9 (by decide) | exact absurd (by decide) h9) (fun _ => ?_)
  refine lv_aload_n hx hb dX8_checksum_90 rfl (lv_at hl 3 rfl) ?_
  refine lv_iload hx hb dX8_checksum_91 (lv_at hl 0 rfl) ?_
  refine z_aaldE (i := 2) (x := none) hM hI rfl rfl (vp_in_c 1 8 (by decide)) (by first | rfl | decide +kernel | (simp [va_up]; done)) dX8_checksum_93 ?_
  show W p l e9 _ s m _ below meth c _ _ _ _ _ (F0 m 94 ls (.null :: []))
  refine lv_astoreN (lv' := [(6, .null), (5, .int 1), (4, .int 8), (3, .ref yT), (1, .long 7), (0, .ref px)]) hx hb dX8_checksum_94 hl (by decide) rfl (fun ls hl => ?_)
  refine lv_aloadN hx hb dX8_checksum_96 (lv_at hl 0 rfl) ?_
  refine lv_ifnullN (tgt := 114) hx hb dX8_checksum_98 (by decide) ?_
  refine lv_iinc (v := 2) (lv' := [(5, .int 2), (6, .null), (4, .int 8), (3, .ref yT), (1, .long 7), (0, .ref px)]) hx hb dX8_checksum_114 hl (k := 1) rfl (by decide) (by decide) rfl (fun ls hl => ?_)
  refine lv_goto (tgt := 83) hx hb dX8_checksum_117 (by decide) ?_
  refine lv_iload hx hb dX8_checksum_83 (lv_at hl 0 rfl) ?_
  refine lv_iload hx hb dX8_checksum_85 (lv_at hl 2 rfl) ?_
  refine lv_icmp_ge (tgt := 120) hx hb dX8_checksum_87 (by decide) (fun h9 => by first | exact absurd h9 (by decide) | exact absurd (by decide) h9) (fun _ => ?_)
  refine lv_aload_n hx hb dX8_checksum_90 rfl (lv_at hl 3 rfl) ?_
  refine lv_iload hx hb dX8_checksum_91 (lv_at hl 0 rfl) ?_
  refine z_aaldE (i := 2) (x := none) hM hI rfl rfl (vp_in_c 2 8 (by decide)) (by first | rfl | decide +kernel | (simp [va_up]; done)) dX8_checksum_93 ?_
  show W p l e9 _ s m _ below meth c _ _ _ _ _ (F0 m 94 ls (.null :: []))
  refine lv_astoreN (lv' := [(6, .null), (5, .int 2), (4, .int 8), (3, .ref yT), (1, .long 7), (0, .ref px)]) hx hb dX8_checksum_94 hl (by decide) rfl (fun ls hl => ?_)
  refine lv_aloadN hx hb dX8_checksum_96 (lv_at hl 0 rfl) ?_
  refine lv_ifnullN (tgt := 114) hx hb dX8_checksum_98 (by decide) ?_
  refine lv_iinc (v := 3) (lv' := [(5, .int 3), (6, .null), (4, .int 8), (3, .ref yT), (1, .long 7), (0, .ref px)]) hx hb dX8_checksum_114 hl (k := 1) rfl (by decide) (by decide) rfl (fun ls hl => ?_)
  refine lv_goto (tgt := 83) hx hb dX8_checksum_117 (by decide) ?_
  refine lv_iload hx hb dX8_checksum_83 (lv_at hl 0 rfl) ?_
  refine lv_iload hx hb dX8_checksum_85 (lv_at hl 2 rfl) ?_
  refine lv_icmp_ge (tgt := 120) hx hb dX8_checksum_87 (by decide) (fun h9 => by first | exact absurd h9 (by decide) | exact absurd (by decide) h9) (fun _ => ?_)
  refine lv_aload_n hx hb dX8_checksum_90 rfl (lv_at hl 3 rfl) ?_
  refine lv_iload hx hb dX8_checksum_91 (lv_at hl 0 rfl) ?_
  refine z_aaldE (i := 2) (x := none) hM hI rfl rfl (vp_in_c 3 8 (by decide)) (by first | rfl | decide +kernel | (simp [va_up]; done)) dX8_checksum_93 ?_
  show W p l e9 _ s m _ below meth c _ _ _ _ _ (F0 m 94 ls (.null :: []))
  refine lv_astoreN (lv' := [(6, .null), (5, .int 3), (4, .int 8), (3, .ref yT), (1, .long 7), (0, .ref px)]) hx hb dX8_checksum_94 hl (by decide) rfl (fun ls hl => ?_)
  refine lv_aloadN hx hb dX8_checksum_96 (lv_at hl 0 rfl) ?_
  refine lv_ifnullN (tgt := 114) hx hb dX8_checksum_98 (by decide) ?_
  refine lv_iinc (v := 4) (lv' := [(5, .int 4), (6, .null), (4, .int 8), (3, .ref yT), (1, .long 7), (0, .ref px)]) hx hb dX8_checksum_114 hl (k := 1) rfl (by decide) (by decide) rfl (fun ls hl => ?_)
  refine lv_goto (tgt := 83) hx hb dX8_checksum_117 (by decide) ?_
  refine lv_iload hx hb dX8_checksum_83 (lv_at hl 0 rfl) ?_
  refine lv_iload hx hb dX8_checksum_85 (lv_at hl 2 rfl) ?_
  refine lv_icmp_ge (tgt := 120) hx hb dX8_checksum_87 (by decide) (fun h9 => by first | exact absurd h9 (by decide) | exact absurd (by decide) h9) (fun _ => ?_)
  refine lv_aload_n hx hb dX8_checksum_90 rfl (lv_at hl 3 rfl) ?_
  refine lv_iload hx hb dX8_checksum_91 (lv_at hl 0 rfl) ?_
  refine z_aaldE (i := 2) (x := none) hM hI rfl rfl (vp_in_c 4 8 (by decide)) (by first | rfl | decide +kernel | (simp [va_up]; done)) dX8_checksum_93 ?_
  show W p l e9 _ s m _ below meth c _ _ _ _ _ (F0 m 94 ls (.null :: []))
  refine lv_astoreN (lv' := [(6, .null), (5, .int 4), (4, .int 8), (3, .ref yT), (1, .long 7), (0, .ref px)]) hx hb dX8_checksum_94 hl (by decide) rfl (fun ls hl => ?_)
  refine lv_aloadN hx hb dX8_checksum_96 (lv_at hl 0 rfl) ?_
  refine lv_ifnullN (tgt := 114) hx hb dX8_checksum_98 (by decide) ?_
  refine lv_iinc (v := 5) (lv' := [(5, .int 5), (6, .null), (4, .int 8), (3, .ref yT), (1, .long 7), (0, .ref px)]) hx hb dX8_checksum_114 hl (k := 1) rfl (by decide) (by decide) rfl (fun ls hl => ?_)
  refine lv_goto (tgt := 83) hx hb dX8_checksum_117 (by decide) ?_
  refine lv_iload hx hb dX8_checksum_83 (lv_at hl 0 rfl) ?_
  refine lv_iload hx hb dX8_checksum_85 (lv_at hl 2 rfl) ?_
  refine lv_icmp_ge (tgt := 120) hx hb dX8_checksum_87 (by decide) (fun h9 => by first | exact absurd h9 (by decide) | exact absurd (by decide) h9) (fun _ => ?_)
  refine lv_aload_n hx hb dX8_checksum_90 rfl (lv_at hl 3 rfl) ?_
  refine lv_iload hx hb dX8_checksum_91 (lv_at hl 0 rfl) ?_
  refine z_aaldE (i := 2) (x := none) hM hI rfl rfl (vp_in_c 5 8 (by decide)) (by first | rfl | decide +kernel | (simp [va_up]; done)) dX8_checksum_93 ?_
  show W p l e9 _ s m _ below meth c _ _ _ _ _ (F0 m 94 ls (.null :: []))
  refine lv_astoreN (lv' := [(6, .null), (5, .int 5), (4, .int 8), (3, .ref yT), (1, .long 7), (0, .ref px)]) hx hb dX8_checksum_94 hl (by decide) rfl (fun ls hl => ?_)
  refine lv_aloadN hx hb dX8_checksum_96 (lv_at hl 0 rfl) ?_
  refine lv_ifnullN (tgt := 114) hx hb dX8_checksum_98 (by decide) ?_
  refine lv_iinc (v := 6) (lv' := [(5, .int 6), (6, .null), (4, .int 8), (3, .ref yT), (1, .long 7), (0, .ref px)]) hx hb dX8_checksum_114 hl (k := 1) rfl (by decide) (by decide) rfl (fun ls hl => ?_)
  refine lv_goto (tgt := 83) hx hb dX8_checksum_117 (by decide) ?_
  refine lv_iload hx hb dX8_checksum_83 (lv_at hl 0 rfl) ?_
  refine lv_iload hx hb dX8_checksum_85 (lv_at hl 2 rfl) ?_
  refine lv_icmp_ge (tgt := 120) hx hb dX8_checksum_87 (by decide) (fun h9 => by first | exact absurd h9 (by decide) | exact absurd (by decide) h9) (fun _ => ?_)
  refine lv_aload_n hx hb dX8_checksum_90 rfl (lv_at hl 3 rfl) ?_
  refine lv_iload hx hb dX8_checksum_91 (lv_at hl 0 rfl) ?_
  refine z_aaldE (i := 2) (x := none) hM hI rfl rfl (vp_in_c 6 8 (by decide)) (by first | rfl | decide +kernel | (simp [va_up]; done)) dX8_checksum_93 ?_
  show W p l e9 _ s m _ below meth c _ _ _ _ _ (F0 m 94 ls (.null :: []))
  refine lv_astoreN (lv' := [(6, .null), (5, .int 6), (4, .int 8), (3, .ref yT), (1, .long 7), (0, .ref px)]) hx hb dX8_checksum_94 hl (by decide) rfl (fun ls hl => ?_)
  refine lv_aloadN hx hb dX8_checksum_96 (lv_at hl 0 rfl) ?_
  refine lv_ifnullN (tgt := 114) hx hb dX8_checksum_98 (by decide) ?_
  refine lv_iinc (v := 7) (lv' := [(5, .int 7), (6, .null), (4, .int 8), (3, .ref yT), (1, .long 7), (0, .ref px)]) hx hb dX8_checksum_114 hl (k := 1) rfl (by decide) (by decide) rfl (fun ls hl => ?_)
  refine lv_goto (tgt := 83) hx hb dX8_checksum_117 (by decide) ?_
  refine lv_iload hx hb dX8_checksum_83 (lv_at hl 0 rfl) ?_
  refine lv_iload hx hb dX8_checksum_85 (lv_at hl 2 rfl) ?_
  refine lv_icmp_ge (tgt := 120) hx hb dX8_checksum_87 (by decide) (fun h9 => by first | exact absurd h9 (by decide) | exact absurd (by decide) h9) (fun _ => ?_)
  refine lv_aload_n hx hb dX8_checksum_90 rfl (lv_at hl 3 rfl) ?_
  refine lv_iload hx hb dX8_checksum_91 (lv_at hl 0 rfl) ?_
  refine z_aaldE (i := 2) (x := none) hM hI rfl rfl (vp_in_c 7 8 (by decide)) (by first | rfl | decide +kernel | (simp [va_up]; done)) dX8_checksum_93 ?_
  show W p l e9 _ s m _ below meth c _ _ _ _ _ (F0 m 94 ls (.null :: []))
  refine lv_astoreN (lv' := [(6, .null), (5, .int 7), (4, .int 8), (3, .ref yT), (1, .long 7), (0, .ref px)]) hx hb dX8_checksum_94 hl (by decide) rfl (fun ls hl => ?_)
  refine lv_aloadN hx hb dX8_checksum_96 (lv_at hl 0 rfl) ?_
  refine lv_ifnullN (tgt := 114) hx hb dX8_checksum_98 (by decide) ?_
  refine lv_iinc (v := 8) (lv' := [(5, .int 8), (6, .null), (4, .int 8), (3, .ref yT), (1, .long 7), (0, .ref px)]) hx hb dX8_checksum_114 hl (k := 1) rfl (by decide) (by decide) rfl (fun ls hl => ?_)
  refine lv_goto (tgt := 83) hx hb dX8_checksum_117 (by decide) ?_
  refine lv_iload hx hb dX8_checksum_83 (lv_at hl 0 rfl) ?_
  refine lv_iload hx hb dX8_checksum_85 (lv_at hl 2 rfl) ?_
  refine lv_icmp_ge (tgt := 120) hx hb dX8_checksum_87 (by decide) (fun _ => ?_) (fun h9 => by first | exact absurd h9 (by decide) | exact absurd (by decide) h9)
  refine lv_ldc2 (v := 31) hx hb hown (hts (.constantLong RX8 287 (31)) (by decide +kernel)) dX8_checksum_120 ?_
  refine lv_lload_n hx hb dX8_checksum_123 rfl (lv_at hl 4 rfl) ?_
  refine lv_lmul hx hb dX8_checksum_124 ?_
  refine lv_topl (fun v1 e2 => ?_)
  obtain rfl : v1 = 217 := e2.trans (by decide +kernel)
  refine lv_aload_n hx hb dX8_checksum_125 rfl (lv_at hl 5 rfl) ?_
  refine z_getX (i := 0) (j := 3) hM hI rfl hinX8 rfl (by decide) (by decide +kernel) (fun _ h9 => h9) rfl dX8_checksum_126 ?_
  refine z_getX (i := 3) (j := 0) hM hI rfl hinX2 rfl (by decide) (by decide +kernel) (fun _ h9 => h9) rfl dX8_checksum_129 ?_
  refine z_getX (i := 4) (j := 1) hM hI rfl hinX1 rfl (by decide) (by decide +kernel) (fun _ h9 => h9) rfl dX8_checksum_132 ?_
  refine z_clX (Xc := ([(yh, .inr (2, [.ref yha, .int 1])), (yha, .inl (tc 1, 16, .inr (.inl (vp_updL (fun _ => 0) (0 : Int32).toNatClampNeg 4000))))] : va_W)) (wr := ([(px, .inr (10, [.ref yr, .ref yC, .ref yT, .ref yk, .ref ys, .ref yq, .ref yP, .ref yS, .int 0, .long 0])), (yC, .inl (tc 3, 6, .inr (.inr (.inr (.inr (fun _ => none)))))), (yT, .inl (tc 5, 8, .inr (.inr (.inr (.inr (fun _ => none)))))), (yk, .inr (4, [.ref yb, .ref yA, .long 0, .int 0, .int 0])), (yb, .inr (3, [.int 200, .ref yh, .ref yd])), (ys, .inr (8, [.int 200, .int 5000, .int 600, .long 0, .long 0, .int 0, .long 0, .long 0, .long 0, .long 0]))] : va_W)) (rx := ([(yh, .inr (2, [.ref yha, .int 1])), (yha, .inl (tc 1, 16, .inr (.inl (vp_updL (fun _ => 0) (0 : Int32).toNatClampNeg 4000))))] : va_W)) [5, 6] [0, 1, 2, 3, 4, 7] rfl rfl rfl rfl (by decide) hI (va_runV (As := []) (rest := [.long 217]) ⟨hx, hb, hml, hown, hts⟩ (x_X0_lowBits_4000 l D tc z0 _ κ g _ yh yha ) (cwV 0 hts gX8_checksum_X0_lowBits rfl rfl rfl (by decide +kernel) ⟨Nat.le_of_ble_eq_true rfl, Nat.le_of_ble_eq_true rfl⟩) (z_preV (Xc := ([(yh, .inr (2, [.ref yha, .int 1])), (yha, .inl (tc 1, 16, .inr (.inl (vp_updL (fun _ => 0) (0 : Int32).toNatClampNeg 4000))))] : va_W)) hK hE hI [5, 6] rfl rfl (z_recvX hK hI (i := 5) rfl rfl)) rfl rfl hl.1 rfl (lv_room (Nat.le_of_ble_eq_true rfl)) dX8_checksum_135 ⟨Nat.le_of_ble_eq_true rfl, Nat.le_of_ble_eq_true rfl⟩) (fun v3 u H locs hw hI => ?_)
  obtain ⟨rfl, rfl⟩ := hw
  have hI : zI D tc _ s.heap [(px, .inr (10, [.ref yr, .ref yC, .ref yT, .ref yk, .ref ys, .ref yq, .ref yP, .ref yS, .int 0, .long 0])), (yC, .inl (tc 3, 6, .inr (.inr (.inr (.inr (fun _ => none)))))), (yT, .inl (tc 5, 8, .inr (.inr (.inr (.inr (fun _ => none)))))), (yk, .inr (4, [.ref yb, .ref yA, .long 0, .int 0, .int 0])), (yb, .inr (3, [.int 200, .ref yh, .ref yd])), (ys, .inr (8, [.int 200, .int 5000, .int 600, .long 0, .long 0, .int 0, .long 0, .long 0, .long 0, .long 0])), (yh, .inr (2, [.ref yha, .int 1])), (yha, .inl (tc 1, 16, .inr (.inl (vp_updL (fun _ => 0) (0 : Int32).toNatClampNeg 4000))))] L κ g _ _ := hI
  refine lv_ladd hx hb dX8_checksum_138 ?_
  refine lv_topl (fun v4 e5 => ?_)
  obtain rfl : v4 = 4217 := e5.trans (by decide +kernel)
  refine lv_lstore_n (lv' := [(1, .long 4217), (5, .int 8), (6, .null), (4, .int 8), (3, .ref yT), (0, .ref px)]) hx hb dX8_checksum_139 rfl hl (by decide) rfl (fun ls hl => ?_)
  refine lv_ldc2 (v := 31) hx hb hown (hts (.constantLong RX8 287 (31)) (by decide +kernel)) dX8_checksum_140 ?_
  refine lv_lload_n hx hb dX8_checksum_143 rfl (lv_at hl 0 rfl) ?_
  refine lv_lmul hx hb dX8_checksum_144 ?_
  refine lv_topl (fun v6 e7 => ?_)
  obtain rfl : v6 = 130727 := e7.trans (by decide +kernel)
  refine lv_aload_n hx hb dX8_checksum_145 rfl (lv_at hl 5 rfl) ?_
  refine z_getX (i := 0) (j := 4) hM hI rfl hinX8 rfl (by decide) (by decide +kernel) (fun _ h9 => h9) rfl dX8_checksum_146 ?_
  refine z_getX (i := 5) (j := 1) hM hI rfl hinX6 rfl (by decide) (by decide +kernel) (fun _ h9 => h9) rfl dX8_checksum_149 ?_
  refine lv_i2l hx hb dX8_checksum_152 rfl ?_
  refine lv_topl (fun v8 e9 => ?_)
  obtain rfl : v8 = 5000 := e9.trans (by decide +kernel)
  refine lv_ladd hx hb dX8_checksum_153 ?_
  refine lv_topl (fun v10 e11 => ?_)
  obtain rfl : v10 = 135727 := e11.trans (by decide +kernel)
  have hI := z_part (X' := ([(px, .inr (10, [.ref yr, .ref yC, .ref yT, .ref yk, .ref ys, .ref yq, .ref yP, .ref yS, .int 0, .long 0])), (yC, .inl (tc 3, 6, .inr (.inr (.inr (.inr (fun _ => none)))))), (yT, .inl (tc 5, 8, .inr (.inr (.inr (.inr (fun _ => none)))))), (yk, .inr (4, [.ref yb, .ref yA, .long 0, .int 0, .int 0])), (yb, .inr (3, [.int 200, .ref yh, .ref yd])), (yh, .inr (2, [.ref yha, .int 1])), (yha, .inl (tc 1, 16, .inr (.inl (vp_updL (fun _ => 0) (0 : Int32).toNatClampNeg 4000)))), (ys, .inr (8, [.int 200, .int 5000, .int 600, .long 0, .long 0, .int 0, .long 0, .long 0, .long 0, .long 0]))] : va_W)) [0, 1, 2, 3, 4, 6, 7, 5] rfl rfl hI
  exact W.lret (v := 135727) hx hb hr (fun t ht hW => ⟨⟨_, (L, κ, g), rfl, ⟨rfl, rfl⟩, z_end hK hI ht hW⟩, z_F hI ht⟩) (z_locs hI) dX8_checksum_154

set_option maxHeartbeats 4000000 in
set_option maxRecDepth 100000 in
theorem x_X8_isSound (l : Launch) (D : va_G) (tc : Nat → ClassId) (z0 : Nat) (L : List Nat) (κ : Nat → Nat) (g : Nat → Nat → Value) (sz : Nat) (yr : Nat) (yC : Nat) (yT : Nat) (yk : Nat) (ys : Nat) (yb : Nat) (yq : Nat) (yA : Nat) (yP : Nat) (yh : Nat) (yS : Nat) (yd : Nat) (yha : Nat) (px : Nat)  : Met l yX8_isSound wsX8_isSound ({ frames := 1, cells := 0, slots := 0, locals := 20 }) (zPc D tc z0 [.ref px] ([(px, .inr (10, [.ref yr, .ref yC, .ref yT, .ref yk, .ref ys, .ref yq, .ref yP, .ref yS, .int 0, .long 0])), (yC, .inl (tc 3, 6, .inr (.inr (.inr (.inr (fun _ => none)))))), (yk, .inr (4, [.ref yb, .ref yA, .long 0, .int 0, .int 0])), (yb, .inr (3, [.int 200, .ref yh, .ref yd])), (yh, .inr (2, [.ref yha, .int 1])), (yha, .inl (tc 1, 16, .inr (.inl (vp_updL (fun _ => 0) (0 : Int32).toNatClampNeg 4000)))), (ys, .inr (8, [.int 200, .int 5000, .int 600, .long 0, .long 0, .int 0, .long 0, .long 0, .long 0, .long 0]))] : va_W) (L, κ, g) sz) (va_Qi (fun (r : Int32) (u : (zS)) => r = 1 ∧ u = (L, κ, g)) (fun (u : (zS)) (t : State) => zB D tc (zA ([(px, .inr (10, [.ref yr, .ref yC, .ref yT, .ref yk, .ref ys, .ref yq, .ref yP, .ref yS, .int 0, .long 0])), (yC, .inl (tc 3, 6, .inr (.inr (.inr (.inr (fun _ => none)))))), (yk, .inr (4, [.ref yb, .ref yA, .long 0, .int 0, .int 0])), (yb, .inr (3, [.int 200, .ref yh, .ref yd])), (yh, .inr (2, [.ref yha, .int 1])), (yha, .inl (tc 1, 16, .inr (.inl (vp_updL (fun _ => 0) (0 : Int32).toNatClampNeg 4000)))), (ys, .inr (8, [.int 200, .int 5000, .int 600, .long 0, .long 0, .int 0, .long 0, .long 0, .long 0, .long 0]))] : va_W) L sz) ([(px, .inr (10, [.ref yr, .ref yC, .ref yT, .ref yk, .ref ys, .ref yq, .ref yP, .ref yS, .int 0, .long 0])), (yC, .inl (tc 3, 6, .inr (.inr (.inr (.inr (fun _ => none)))))), (yk, .inr (4, [.ref yb, .ref yA, .long 0, .int 0, .int 0])), (yb, .inr (3, [.int 200, .ref yh, .ref yd])), (yh, .inr (2, [.ref yha, .int 1])), (yha, .inl (tc 1, 16, .inr (.inl (vp_updL (fun _ => 0) (0 : Int32).toNatClampNeg 4000)))), (ys, .inr (8, [.int 200, .int 5000, .int 600, .long 0, .long 0, .int 0, .long 0, .long 0, .long 0, .long 0]))] : va_W) u t) (zA ([(px, .inr (10, [.ref yr, .ref yC, .ref yT, .ref yk, .ref ys, .ref yq, .ref yP, .ref yS, .int 0, .long 0])), (yC, .inl (tc 3, 6, .inr (.inr (.inr (.inr (fun _ => none)))))), (yk, .inr (4, [.ref yb, .ref yA, .long 0, .int 0, .int 0])), (yb, .inr (3, [.int 200, .ref yh, .ref yd])), (yh, .inr (2, [.ref yha, .int 1])), (yha, .inl (tc 1, 16, .inr (.inl (vp_updL (fun _ => 0) (0 : Int32).toNatClampNeg 4000)))), (ys, .inr (8, [.int 200, .int 5000, .int 600, .long 0, .long 0, .int 0, .long 0, .long 0, .long 0, .long 0]))] : va_W) L sz)) 0 0 (zA ([(px, .inr (10, [.ref yr, .ref yC, .ref yT, .ref yk, .ref ys, .ref yq, .ref yP, .ref yS, .int 0, .long 0])), (yC, .inl (tc 3, 6, .inr (.inr (.inr (.inr (fun _ => none)))))), (yk, .inr (4, [.ref yb, .ref yA, .long 0, .int 0, .int 0])), (yb, .inr (3, [.int 200, .ref yh, .ref yd])), (yh, .inr (2, [.ref yha, .int 1])), (yha, .inl (tc 1, 16, .inr (.inl (vp_updL (fun _ => 0) (0 : Int32).toNatClampNeg 4000)))), (ys, .inr (8, [.int 200, .int 5000, .int 600, .long 0, .long 0, .int 0, .long 0, .long 0, .long 0, .long 0]))] : va_W) L sz) := by
  refine Met.ofW (cc := cX8_isSound) (maxL := 9) (ret := (some .boolean)) (by decide) rfl ?_
  intro p e9 s m args below meth c s₁ B hml hv
  obtain ⟨rfl, rfl, hK, hE, hI⟩ := hv.opn
  have hx := B.exec
  have hb := B.bytes
  have hr := B.returns
  have hts := atoms_spec (ws := wsX8_isSound) B.pre
  have hown : s.vm.findClass RX8 = some m.cls := findClass_of_methodNamed B.named
  have hlocks := B.notSynchronized
  have hM : zM p s m c cX8_isSound _ wsX8_isSound RX8 D tc := ⟨hx, hb, hts, hown, hK⟩
  have hinX8 : ∀ w ∈ wsX80, w ∈ wsX8_isSound := by decide +kernel
  have hinX2 : ∀ w ∈ wsX20, w ∈ wsX8_isSound := by decide +kernel
  have hinX1 : ∀ w ∈ wsX10, w ∈ wsX8_isSound := by decide +kernel
  have hinX6 : ∀ w ∈ wsX60, w ∈ wsX8_isSound := by decide +kernel
  have hl := lv_entry ([.ref px]) (n := 9) (Nat.le_of_ble_eq_true rfl)
  rw [lg_entry_eq]
  generalize (lg_sl ([.ref px]) ++ List.replicate (9 - (lg_sl ([.ref px])).length) Slot.unset).toArray = ls at hl ⊢
  have hl : lv_has ls 9 [(0, .ref px)] := hl
  refine lv_aload_n hx hb dX8_isSound_0 rfl (lv_at hl 0 rfl) ?_
  refine z_getX (i := 0) (j := 3) hM hI rfl hinX8 rfl (by decide) (by decide +kernel) (fun _ h9 => h9) rfl dX8_isSound_1 ?_
  refine z_getX (i := 2) (j := 0) hM hI rfl hinX2 rfl (by decide) (by decide +kernel) (fun _ h9 => h9) rfl dX8_isSound_4 ?_
  refine z_getX (i := 3) (j := 1) hM hI rfl hinX1 rfl (by decide) (by decide +kernel) (fun _ h9 => h9) rfl dX8_isSound_7 ?_
  refine z_clX (Xc := ([(yh, .inr (2, [.ref yha, .int 1])), (yha, .inl (tc 1, 16, .inr (.inl (vp_updL (fun _ => 0) (0 : Int32).toNatClampNeg 4000))))] : va_W)) (wr := ([(px, .inr (10, [.ref yr, .ref yC, .ref yT, .ref yk, .ref ys, .ref yq, .ref yP, .ref yS, .int 0, .long 0])), (yC, .inl (tc 3, 6, .inr (.inr (.inr (.inr (fun _ => none)))))), (yk, .inr (4, [.ref yb, .ref yA, .long 0, .int 0, .int 0])), (yb, .inr (3, [.int 200, .ref yh, .ref yd])), (ys, .inr (8, [.int 200, .int 5000, .int 600, .long 0, .long 0, .int 0, .long 0, .long 0, .long 0, .long 0]))] : va_W)) (rx := ([(yh, .inr (2, [.ref yha, .int 1])), (yha, .inl (tc 1, 16, .inr (.inl (vp_updL (fun _ => 0) (0 : Int32).toNatClampNeg 4000))))] : va_W)) [4, 5] [0, 1, 2, 3, 6] rfl rfl rfl rfl (by decide) hI (va_runV (As := []) (rest := []) ⟨hx, hb, hml, hown, hts⟩ (x_X0_lowBits_4000 l D tc z0 _ κ g _ yh yha ) (cwV 0 hts gX8_isSound_X0_lowBits rfl rfl rfl (by decide +kernel) ⟨Nat.le_of_ble_eq_true rfl, Nat.le_of_ble_eq_true rfl⟩) (z_preV (Xc := ([(yh, .inr (2, [.ref yha, .int 1])), (yha, .inl (tc 1, 16, .inr (.inl (vp_updL (fun _ => 0) (0 : Int32).toNatClampNeg 4000))))] : va_W)) hK hE hI [4, 5] rfl rfl (z_recvX hK hI (i := 4) rfl rfl)) rfl rfl hl.1 rfl (lv_room (Nat.le_of_ble_eq_true rfl)) dX8_isSound_10 ⟨Nat.le_of_ble_eq_true rfl, Nat.le_of_ble_eq_true rfl⟩) (fun v1 u H locs hw hI => ?_)
  obtain ⟨rfl, rfl⟩ := hw
  have hI : zI D tc _ s.heap [(px, .inr (10, [.ref yr, .ref yC, .ref yT, .ref yk, .ref ys, .ref yq, .ref yP, .ref yS, .int 0, .long 0])), (yC, .inl (tc 3, 6, .inr (.inr (.inr (.inr (fun _ => none)))))), (yk, .inr (4, [.ref yb, .ref yA, .long 0, .int 0, .int 0])), (yb, .inr (3, [.int 200, .ref yh, .ref yd])), (ys, .inr (8, [.int 200, .int 5000, .int 600, .long 0, .long 0, .int 0, .long 0, .long 0, .long 0, .long 0])), (yh, .inr (2, [.ref yha, .int 1])), (yha, .inl (tc 1, 16, .inr (.inl (vp_updL (fun _ => 0) (0 : Int32).toNatClampNeg 4000))))] L κ g _ _ := hI
  refine lv_lstore_n (lv' := [(1, .long 4000), (0, .ref px)]) hx hb dX8_isSound_13 rfl hl (by decide) rfl (fun ls hl => ?_)
  refine lv_ldc2 (v := 4000) hx hb hown (hts (.constantLong RX8 301 (4000)) (by decide +kernel)) dX8_isSound_14 ?_
  refine lv_lstore_n (lv' := [(3, .long 4000), (1, .long 4000), (0, .ref px)]) hx hb dX8_isSound_17 rfl hl (by decide) rfl (fun ls hl => ?_)
  refine lv_aload_n hx hb dX8_isSound_18 rfl (lv_at hl 2 rfl) ?_
  refine z_getX (i := 0) (j := 1) hM hI rfl hinX8 rfl (by decide) (by decide +kernel) (fun _ h9 => h9) rfl dX8_isSound_19 ?_
  refine lv_astore (lv' := [(5, .ref yC), (3, .long 4000), (1, .long 4000), (0, .ref px)]) hx hb dX8_isSound_22 hl (by decide) rfl (fun ls hl => ?_)
  refine lv_aload hx hb dX8_isSound_24 (lv_at hl 0 rfl) ?_
  refine z_alenX (i := 1) (v := 6) hM hI rfl rfl (show Int32.ofNat 6 = 6 by decide) dX8_isSound_26 ?_
  refine lv_istore (lv' := [(6, .int 6), (5, .ref yC), (3, .long 4000), (1, .long 4000), (0, .ref px)]) hx hb dX8_isSound_27 hl (by decide) rfl (fun ls hl => ?_)
  refine lv_iconst (v := 0) hx hb dX8_isSound_29 (by decide) ?_
  refine lv_istore (lv' := [(7, .int 0), (6, .int 6), (5, .ref yC), (3, .long 4000), (1, .long 4000), (0, .ref px)]) hx hb dX8_isSound_30 hl (by decide) rfl (fun ls hl => ?_)
  refine lv_iload hx hb dX8_isSound_32 (lv_at hl 0 rfl) ?_
  refine lv_iload hx hb dX8_isSound_34 (lv_at hl 1 rfl) ?_
  refine lv_icmp_ge (tgt := 77) hx hb dX8_isSound_36 (by decide) (fun h9 => by first | exact absurd h9 (by decide) | exact absurd (by decide) h9) (fun _ => ?_)
  refine lv_aload hx hb dX8_isSound_39 (lv_at hl 2 rfl) ?_
  refine lv_iload hx hb dX8_isSound_41 (lv_at hl 0 rfl) ?_
  refine z_aaldE (i := 1) (x := none) hM hI rfl rfl (vp_in_c 0 6 (by decide)) (by first | rfl | decide +kernel | (simp [va_up]; done)) dX8_isSound_43 ?_
  show W p l e9 _ s m _ below meth c _ _ _ _ _ (F0 m 44 ls (.null :: []))
  refine lv_astoreN (lv' := [(8, .null), (7, .int 0), (6, .int 6), (5, .ref yC), (3, .long 4000), (1, .long 4000), (0, .ref px)]) hx hb dX8_isSound_44 hl (by decide) rfl (fun ls hl => ?_)
  refine lv_aloadN hx hb dX8_isSound_46 (lv_at hl 0 rfl) ?_
  refine lv_ifnullN (tgt := 71) hx hb dX8_isSound_48 (by decide) ?_
  refine lv_iinc (v := 1) (lv' := [(7, .int 1), (8, .null), (6, .int 6), (5, .ref yC), (3, .long 4000), (1, .long 4000), (0, .ref px)]) hx hb dX8_isSound_71 hl (k := 1) rfl (by decide) (by decide) rfl (fun ls hl => ?_)
  refine lv_goto (tgt := 32) hx hb dX8_isSound_74 (by decide) ?_
  refine lv_iload hx hb dX8_isSound_32 (lv_at hl 0 rfl) ?_
  refine lv_iload hx hb dX8_isSound_34 (lv_at hl 2 rfl) ?_
  refine lv_icmp_ge (tgt := 77) hx hb dX8_isSound_36 (by decide) (fun h9 => by first | exact absurd h9 (by decide) | exact absurd (by decide) h9) (fun _ => ?_)
  refine lv_aload hx hb dX8_isSound_39 (lv_at hl 3 rfl) ?_
  refine lv_iload hx hb dX8_isSound_41 (lv_at hl 0 rfl) ?_
  refine z_aaldE (i := 1) (x := none) hM hI rfl rfl (vp_in_c 1 6 (by decide)) (by first | rfl | decide +kernel | (simp [va_up]; done)) dX8_isSound_43 ?_
  show W p l e9 _ s m _ below meth c _ _ _ _ _ (F0 m 44 ls (.null :: []))
  refine lv_astoreN (lv' := [(8, .null), (7, .int 1), (6, .int 6), (5, .ref yC), (3, .long 4000), (1, .long 4000), (0, .ref px)]) hx hb dX8_isSound_44 hl (by decide) rfl (fun ls hl => ?_)
  refine lv_aloadN hx hb dX8_isSound_46 (lv_at hl 0 rfl) ?_
  refine lv_ifnullN (tgt := 71) hx hb dX8_isSound_48 (by decide) ?_
  refine lv_iinc (v := 2) (lv' := [(7, .int 2), (8, .null), (6, .int 6), (5, .ref yC), (3, .long 4000), (1, .long 4000), (0, .ref px)]) hx hb dX8_isSound_71 hl (k := 1) rfl (by decide) (by decide) rfl (fun ls hl => ?_)
  refine lv_goto (tgt := 32) hx hb dX8_isSound_74 (by decide) ?_
  refine lv_iload hx hb dX8_isSound_32 (lv_at hl 0 rfl) ?_
  refine lv_iload hx hb dX8_isSound_34 (lv_at hl 2 rfl) ?_
  refine lv_icmp_ge (tgt := 77) hx hb dX8_isSound_36 (by decide) (fun h9 => by first | exact absurd h9 (by decide) | exact absurd (by decide) h9) (fun _ => ?_)
  refine lv_aload hx hb dX8_isSound_39 (lv_at hl 3 rfl) ?_
  refine lv_iload hx hb dX8_isSound_41 (lv_at hl 0 rfl) ?_
  refine z_aaldE (i := 1) (x := none) hM hI rfl rfl (vp_in_c 2 6 (by decide)) (by first | rfl | decide +kernel | (simp [va_up]; done)) dX8_isSound_43 ?_
  show W p l e9 _ s m _ below meth c _ _ _ _ _ (F0 m 44 ls (.null :: []))
  refine lv_astoreN (lv' := [(8, .null), (7, .int 2), (6, .int 6), (5, .ref yC), (3, .long 4000), (1, .long 4000), (0, .ref px)]) hx hb dX8_isSound_44 hl (by decide) rfl (fun ls hl => ?_)
  refine lv_aloadN hx hb dX8_isSound_46 (lv_at hl 0 rfl) ?_
  refine lv_ifnullN (tgt := 71) hx hb dX8_isSound_48 (by decide) ?_
  refine lv_iinc (v := 3) (lv' := [(7, .int 3), (8, .null), (6, .int 6), (5, .ref yC), (3, .long 4000), (1, .long 4000), (0, .ref px)]) hx hb dX8_isSound_71 hl (k := 1) rfl (by decide) (by decide) rfl (fun ls hl => ?_)
  refine lv_goto (tgt := 32) hx hb dX8_isSound_74 (by decide) ?_
  refine lv_iload hx hb dX8_isSound_32 (lv_at hl 0 rfl) ?_
  refine lv_iload hx hb dX8_isSound_34 (lv_at hl 2 rfl) ?_
  refine lv_icmp_ge (tgt := 77) hx hb dX8_isSound_36 (by decide) (fun h9 => by first | exact absurd h9 (by decide) | exact absurd (by decide) h9) (fun _ => ?_)
  refine lv_aload hx hb dX8_isSound_39 (lv_at hl 3 rfl) ?_
  refine lv_iload hx hb dX8_isSound_41 (lv_at hl 0 rfl) ?_
  refine z_aaldE (i := 1) (x := none) hM hI rfl rfl (vp_in_c 3 6 (by decide)) (by first | rfl | decide +kernel | (simp [va_up]; done)) dX8_isSound_43 ?_
  show W p l e9 _ s m _ below meth c _ _ _ _ _ (F0 m 44 ls (.null :: []))
  refine lv_astoreN (lv' := [(8, .null), (7, .int 3), (6, .int 6), (5, .ref yC), (3, .long 4000), (1, .long 4000), (0, .ref px)]) hx hb dX8_isSound_44 hl (by decide) rfl (fun ls hl => ?_)
  refine lv_aloadN hx hb dX8_isSound_46 (lv_at hl 0 rfl) ?_
  refine lv_ifnullN (tgt := 71) hx hb dX8_isSound_48 (by decide) ?_
  refine lv_iinc (v := 4) (lv' := [(7, .int 4), (8, .null), (6, .int 6), (5, .ref yC), (3, .long 4000), (1, .long 4000), (0, .ref px)]) hx hb dX8_isSound_71 hl (k := 1) rfl (by decide) (by decide) rfl (fun ls hl => ?_)
  refine lv_goto (tgt := 32) hx hb dX8_isSound_74 (by decide) ?_
  refine lv_iload hx hb dX8_isSound_32 (lv_at hl 0 rfl) ?_
  refine lv_iload hx hb dX8_isSound_34 (lv_at hl 2 rfl) ?_
  refine lv_icmp_ge (tgt := 77) hx hb dX8_isSound_36 (by decide) (fun h9 => by first | exact absurd h9 (by decide) | exact absurd (by decide) h9) (fun _ => ?_)
  refine lv_aload hx hb dX8_isSound_39 (lv_at hl 3 rfl) ?_
  refine lv_iload hx hb dX8_isSound_41 (lv_at hl 0 rfl) ?_
  refine z_aaldE (i := 1) (x := none) hM hI rfl rfl (vp_in_c 4 6 (by decide)) (by first | rfl | decide +kernel | (simp [va_up]; done)) dX8_isSound_43 ?_
  show W p l e9 _ s m _ below meth c _ _ _ _ _ (F0 m 44 ls (.null :: []))
  refine lv_astoreN (lv' := [(8, .null), (7, .int 4), (6, .int 6), (5, .ref yC), (3, .long 4000), (1, .long 4000), (0, .ref px)]) hx hb dX8_isSound_44 hl (by decide) rfl (fun ls hl => ?_)
  refine lv_aloadN hx hb dX8_isSound_46 (lv_at hl 0 rfl) ?_
  refine lv_ifnullN (tgt := 71) hx hb dX8_isSound_48 (by decide) ?_
  refine lv_iinc (v := 5) (lv' := [(7, .int 5), (8, .null), (6, .int 6), (5, .ref yC), (3, .long 4000), (1, .long 4000), (0, .ref px)]) hx hb dX8_isSound_71 hl (k := 1) rfl (by decide) (by decide) rfl (fun ls hl => ?_)
  refine lv_goto (tgt := 32) hx hb dX8_isSound_74 (by decide) ?_
  refine lv_iload hx hb dX8_isSound_32 (lv_at hl 0 rfl) ?_
  refine lv_iload hx hb dX8_isSound_34 (lv_at hl 2 rfl) ?_
  refine lv_icmp_ge (tgt := 77) hx hb dX8_isSound_36 (by decide) (fun h9 => by first | exact absurd h9 (by decide) | exact absurd (by decide) h9) (fun _ => ?_)
  refine lv_aload hx hb dX8_isSound_39 (lv_at hl 3 rfl) ?_
  refine lv_iload hx hb dX8_isSound_41 (lv_at hl 0 rfl) ?_
  refine z_aaldE (i := 1) (x := none) hM hI rfl rfl (vp_in_c 5 6 (by decide)) (by first | rfl | decide +kernel | (simp [va_up]; done)) dX8_isSound_43 ?_
  show W p l e9 _ s m _ below meth c _ _ _ _ _ (F0 m 44 ls (.null :: []))
  refine lv_astoreN (lv' := [(8, .null), (7, .int 5), (6, .int 6), (5, .ref yC), (3, .long 4000), (1, .long 4000), (0, .ref px)]) hx hb dX8_isSound_44 hl (by decide) rfl (fun ls hl => ?_)
  refine lv_aloadN hx hb dX8_isSound_46 (lv_at hl 0 rfl) ?_
  refine lv_ifnullN (tgt := 71) hx hb dX8_isSound_48 (by decide) ?_
  refine lv_iinc (v := 6) (lv' := [(7, .int 6), (8, .null), (6, .int 6), (5, .ref yC), (3, .long 4000), (1, .long 4000), (0, .ref px)]) hx hb dX8_isSound_71 hl (k := 1) rfl (by decide) (by decide) rfl (fun ls hl => ?_)
  refine lv_goto (tgt := 32) hx hb dX8_isSound_74 (by decide) ?_
  refine lv_iload hx hb dX8_isSound_32 (lv_at hl 0 rfl) ?_
  refine lv_iload hx hb dX8_isSound_34 (lv_at hl 2 rfl) ?_
  refine lv_icmp_ge (tgt := 77) hx hb dX8_isSound_36 (by decide) (fun _ => ?_) (fun h9 => by first | exact absurd h9 (by decide) | exact absurd (by decide) h9)
  refine lv_lload_n hx hb dX8_isSound_77 rfl (lv_at hl 5 rfl) ?_
  refine lv_aload_n hx hb dX8_isSound_78 rfl (lv_at hl 6 rfl) ?_
  refine z_getX (i := 0) (j := 3) hM hI rfl hinX8 rfl (by decide) (by decide +kernel) (fun _ h9 => h9) rfl dX8_isSound_79 ?_
  refine z_getX (i := 2) (j := 2) hM hI rfl hinX2 rfl (by decide) (by decide +kernel) (fun _ h9 => h9) rfl dX8_isSound_82 ?_
  refine lv_ladd hx hb dX8_isSound_85 ?_
  refine lv_topl (fun v2 e3 => ?_)
  obtain rfl : v2 = 4000 := e3.trans (by decide +kernel)
  refine lv_lload_n hx hb dX8_isSound_86 rfl (lv_at hl 4 rfl) ?_
  refine lv_aload_n hx hb dX8_isSound_87 rfl (lv_at hl 6 rfl) ?_
  refine z_getX (i := 0) (j := 4) hM hI rfl hinX8 rfl (by decide) (by decide +kernel) (fun _ h9 => h9) rfl dX8_isSound_88 ?_
  refine z_getX (i := 4) (j := 9) hM hI rfl hinX6 rfl (by decide) (by decide +kernel) (fun _ h9 => h9) rfl dX8_isSound_91 ?_
  refine lv_ladd hx hb dX8_isSound_94 ?_
  refine lv_topl (fun v4 e5 => ?_)
  obtain rfl : v4 = 4000 := e5.trans (by decide +kernel)
  refine lv_aload_n hx hb dX8_isSound_95 rfl (lv_at hl 6 rfl) ?_
  refine z_getX (i := 0) (j := 9) hM hI rfl hinX8 rfl (by decide) (by decide +kernel) (fun _ h9 => h9) rfl dX8_isSound_96 ?_
  refine lv_ladd hx hb dX8_isSound_99 ?_
  refine lv_topl (fun v6 e7 => ?_)
  obtain rfl : v6 = 4000 := e7.trans (by decide +kernel)
  refine W.lcmp hx hb dX8_isSound_100 ?_
  refine lv_topi (fun v8 e9 => ?_)
  obtain rfl : v8 = 0 := e9.trans (by decide +kernel)
  refine lv_if_ne (tgt := 108) hx hb dX8_isSound_101 (by decide) (fun h9 => by first | exact absurd h9 (by decide) | exact absurd (by decide) h9) (fun _ => ?_)
  refine lv_iconst (v := 1) hx hb dX8_isSound_104 (by decide) ?_
  refine lv_goto (tgt := 109) hx hb dX8_isSound_105 (by decide) ?_
  refine lv_istore (lv' := [(5, .int 1), (7, .int 6), (8, .null), (6, .int 6), (3, .long 4000), (1, .long 4000), (0, .ref px)]) hx hb dX8_isSound_109 hl (by decide) rfl (fun ls hl => ?_)
  refine lv_aload_n hx hb dX8_isSound_111 rfl (lv_at hl 6 rfl) ?_
  refine z_getX (i := 0) (j := 4) hM hI rfl hinX8 rfl (by decide) (by decide +kernel) (fun _ h9 => h9) rfl dX8_isSound_112 ?_
  refine z_getX (i := 4) (j := 9) hM hI rfl hinX6 rfl (by decide) (by decide +kernel) (fun _ h9 => h9) rfl dX8_isSound_115 ?_
  refine lv_aload_n hx hb dX8_isSound_118 rfl (lv_at hl 6 rfl) ?_
  refine z_getX (i := 0) (j := 4) hM hI rfl hinX8 rfl (by decide) (by decide +kernel) (fun _ h9 => h9) rfl dX8_isSound_119 ?_
  refine z_getX (i := 4) (j := 6) hM hI rfl hinX6 rfl (by decide) (by decide +kernel) (fun _ h9 => h9) rfl dX8_isSound_122 ?_
  refine lv_aload_n hx hb dX8_isSound_125 rfl (lv_at hl 6 rfl) ?_
  refine z_getX (i := 0) (j := 4) hM hI rfl hinX8 rfl (by decide) (by decide +kernel) (fun _ h9 => h9) rfl dX8_isSound_126 ?_
  refine z_getX (i := 4) (j := 7) hM hI rfl hinX6 rfl (by decide) (by decide +kernel) (fun _ h9 => h9) rfl dX8_isSound_129 ?_
  refine lv_ladd hx hb dX8_isSound_132 ?_
  refine lv_topl (fun v10 e11 => ?_)
  obtain rfl : v10 = 0 := e11.trans (by decide +kernel)
  refine lv_aload_n hx hb dX8_isSound_133 rfl (lv_at hl 6 rfl) ?_
  refine z_getX (i := 0) (j := 4) hM hI rfl hinX8 rfl (by decide) (by decide +kernel) (fun _ h9 => h9) rfl dX8_isSound_134 ?_
  refine z_getX (i := 4) (j := 8) hM hI rfl hinX6 rfl (by decide) (by decide +kernel) (fun _ h9 => h9) rfl dX8_isSound_137 ?_
  refine lv_ladd hx hb dX8_isSound_140 ?_
  refine lv_topl (fun v12 e13 => ?_)
  obtain rfl : v12 = 0 := e13.trans (by decide +kernel)
  refine W.lcmp hx hb dX8_isSound_141 ?_
  refine lv_topi (fun v14 e15 => ?_)
  obtain rfl : v14 = 0 := e15.trans (by decide +kernel)
  refine lv_if_ne (tgt := 149) hx hb dX8_isSound_142 (by decide) (fun h9 => by first | exact absurd h9 (by decide) | exact absurd (by decide) h9) (fun _ => ?_)
  refine lv_iconst (v := 1) hx hb dX8_isSound_145 (by decide) ?_
  refine lv_goto (tgt := 150) hx hb dX8_isSound_146 (by decide) ?_
  refine lv_istore (lv' := [(6, .int 1), (5, .int 1), (7, .int 6), (8, .null), (3, .long 4000), (1, .long 4000), (0, .ref px)]) hx hb dX8_isSound_150 hl (by decide) rfl (fun ls hl => ?_)
  refine lv_iload hx hb dX8_isSound_152 (lv_at hl 1 rfl) ?_
  refine lv_if_eq (tgt := 189) hx hb dX8_isSound_154 (by decide) (fun h9 => by first | exact absurd h9 (by decide) | exact absurd (by decide) h9) (fun _ => ?_)
  refine lv_iload hx hb dX8_isSound_157 (lv_at hl 0 rfl) ?_
  refine lv_if_eq (tgt := 189) hx hb dX8_isSound_159 (by decide) (fun h9 => by first | exact absurd h9 (by decide) | exact absurd (by decide) h9) (fun _ => ?_)
  refine lv_aload_n hx hb dX8_isSound_162 rfl (lv_at hl 6 rfl) ?_
  refine z_getX (i := 0) (j := 4) hM hI rfl hinX8 rfl (by decide) (by decide +kernel) (fun _ h9 => h9) rfl dX8_isSound_163 ?_
  refine z_getX (i := 4) (j := 1) hM hI rfl hinX6 rfl (by decide) (by decide +kernel) (fun _ h9 => h9) rfl dX8_isSound_166 ?_
  refine lv_if_lt (tgt := 189) hx hb dX8_isSound_169 (by decide) (fun h9 => by first | exact absurd h9 (by decide) | exact absurd (by decide) h9) (fun _ => ?_)
  refine lv_aload_n hx hb dX8_isSound_172 rfl (lv_at hl 6 rfl) ?_
  refine z_getX (i := 0) (j := 4) hM hI rfl hinX8 rfl (by decide) (by decide +kernel) (fun _ h9 => h9) rfl dX8_isSound_173 ?_
  refine z_getX (i := 4) (j := 1) hM hI rfl hinX6 rfl (by decide) (by decide +kernel) (fun _ h9 => h9) rfl dX8_isSound_176 ?_
  refine lv_sipush (v := 5000) hx hb dX8_isSound_179 (by decide) ?_
  refine lv_icmp_gt (tgt := 189) hx hb dX8_isSound_182 (by decide) (fun h9 => by first | exact absurd h9 (by decide) | exact absurd (by decide) h9) (fun _ => ?_)
  refine lv_iconst (v := 1) hx hb dX8_isSound_185 (by decide) ?_
  refine lv_goto (tgt := 190) hx hb dX8_isSound_186 (by decide) ?_
  have hI := z_part (X' := ([(px, .inr (10, [.ref yr, .ref yC, .ref yT, .ref yk, .ref ys, .ref yq, .ref yP, .ref yS, .int 0, .long 0])), (yC, .inl (tc 3, 6, .inr (.inr (.inr (.inr (fun _ => none)))))), (yk, .inr (4, [.ref yb, .ref yA, .long 0, .int 0, .int 0])), (yb, .inr (3, [.int 200, .ref yh, .ref yd])), (yh, .inr (2, [.ref yha, .int 1])), (yha, .inl (tc 1, 16, .inr (.inl (vp_updL (fun _ => 0) (0 : Int32).toNatClampNeg 4000)))), (ys, .inr (8, [.int 200, .int 5000, .int 600, .long 0, .long 0, .int 0, .long 0, .long 0, .long 0, .long 0]))] : va_W)) [0, 1, 2, 3, 5, 6, 4] rfl rfl hI
  exact W.zret (v := 1) hx hb hr (by decide) (fun t ht hW => ⟨⟨_, (L, κ, g), rfl, ⟨rfl, rfl⟩, z_end hK hI ht hW⟩, z_F hI ht⟩) (z_locs hI) dX8_isSound_190

set_option maxHeartbeats 4000000 in
set_option maxRecDepth 100000 in
theorem x_X8_railAt_0 (l : Launch) (D : va_G) (tc : Nat → ClassId) (z0 : Nat) (L : List Nat) (κ : Nat → Nat) (g : Nat → Nat → Value) (sz : Nat) (yr : Nat) (yC : Nat) (yT : Nat) (yk : Nat) (ys : Nat) (yq : Nat) (yP : Nat) (yS : Nat) (y0 : Nat) (y1 : Nat) (y2 : Nat) (px : Nat)  : Met l yX8_railAt wsX8_railAt ({ frames := 0, cells := 0, slots := 0, locals := 0 }) (zPc D tc z0 [.ref px, .int 0] ([(px, .inr (10, [.ref yr, .ref yC, .ref yT, .ref yk, .ref ys, .ref yq, .ref yP, .ref yS, .int 0, .long 0])), (yr, .inl (tc 4, 3, .inr (.inr (.inr (.inr (va_up (va_up (va_up (fun _ => none) (0 : Int32).toNatClampNeg (some y0)) (1 : Int32).toNatClampNeg (some y1)) (2 : Int32).toNatClampNeg (some y2))))))), (y0, .inr (6, [.int 500, .int 500]))] : va_W) (L, κ, g) sz) (va_Qq (fun (r : Option Nat) (u : (zS)) => r = some y0 ∧ u = (L, κ, g)) (fun (u : (zS)) (t : State) => zB D tc (zA ([(px, .inr (10, [.ref yr, .ref yC, .ref yT, .ref yk, .ref ys, .ref yq, .ref yP, .ref yS, .int 0, .long 0])), (yr, .inl (tc 4, 3, .inr (.inr (.inr (.inr (va_up (va_up (va_up (fun _ => none) (0 : Int32).toNatClampNeg (some y0)) (1 : Int32).toNatClampNeg (some y1)) (2 : Int32).toNatClampNeg (some y2))))))), (y0, .inr (6, [.int 500, .int 500]))] : va_W) L sz) ([(px, .inr (10, [.ref yr, .ref yC, .ref yT, .ref yk, .ref ys, .ref yq, .ref yP, .ref yS, .int 0, .long 0])), (yr, .inl (tc 4, 3, .inr (.inr (.inr (.inr (va_up (va_up (va_up (fun _ => none) (0 : Int32).toNatClampNeg (some y0)) (1 : Int32).toNatClampNeg (some y1)) (2 : Int32).toNatClampNeg (some y2))))))), (y0, .inr (6, [.int 500, .int 500]))] : va_W) u t) (zA ([(px, .inr (10, [.ref yr, .ref yC, .ref yT, .ref yk, .ref ys, .ref yq, .ref yP, .ref yS, .int 0, .long 0])), (yr, .inl (tc 4, 3, .inr (.inr (.inr (.inr (va_up (va_up (va_up (fun _ => none) (0 : Int32).toNatClampNeg (some y0)) (1 : Int32).toNatClampNeg (some y1)) (2 : Int32).toNatClampNeg (some y2))))))), (y0, .inr (6, [.int 500, .int 500]))] : va_W) L sz)) 0 0 (zA ([(px, .inr (10, [.ref yr, .ref yC, .ref yT, .ref yk, .ref ys, .ref yq, .ref yP, .ref yS, .int 0, .long 0])), (yr, .inl (tc 4, 3, .inr (.inr (.inr (.inr (va_up (va_up (va_up (fun _ => none) (0 : Int32).toNatClampNeg (some y0)) (1 : Int32).toNatClampNeg (some y1)) (2 : Int32).toNatClampNeg (some y2))))))), (y0, .inr (6, [.int 500, .int 500]))] : va_W) L sz) := by
  refine Met.ofW (cc := cX8_railAt) (maxL := 3) (ret := (some (.object "Wattgovern$Rail"))) (by decide) rfl ?_
  intro p e9 s m args below meth c s₁ B hml hv
  obtain ⟨rfl, rfl, hK, hE, hI⟩ := hv.opn
  have hx := B.exec
  have hb := B.bytes
  have hr := B.returns
  have hts := atoms_spec (ws := wsX8_railAt) B.pre
  have hown : s.vm.findClass RX8 = some m.cls := findClass_of_methodNamed B.named
  have hlocks := B.notSynchronized
  have hM : zM p s m c cX8_railAt _ wsX8_railAt RX8 D tc := ⟨hx, hb, hts, hown, hK⟩
  have hinX8 : ∀ w ∈ wsX80, w ∈ wsX8_railAt := by decide +kernel
  have hl := lv_entry ([.ref px, .int 0]) (n := 3) (Nat.le_of_ble_eq_true rfl)
  rw [lg_entry_eq]
  generalize (lg_sl ([.ref px, .int 0]) ++ List.replicate (3 - (lg_sl ([.ref px, .int 0])).length) Slot.unset).toArray = ls at hl ⊢
  have hl : lv_has ls 3 [(0, .ref px), (1, .int 0)] := hl
  refine lv_iload_n hx hb dX8_railAt_0 rfl (lv_at hl 1 rfl) ?_
  refine lv_if_lt (tgt := 13) hx hb dX8_railAt_1 (by decide) (fun h9 => by first | exact absurd h9 (by decide) | exact absurd (by decide) h9) (fun _ => ?_)
  refine lv_iload_n hx hb dX8_railAt_4 rfl (lv_at hl 1 rfl) ?_
  refine lv_aload_n hx hb dX8_railAt_5 rfl (lv_at hl 0 rfl) ?_
  refine z_getX (i := 0) (j := 0) hM hI rfl hinX8 rfl (by decide) (by decide +kernel) (fun _ h9 => h9) rfl dX8_railAt_6 ?_
  refine z_alenX (i := 1) (v := 3) hM hI rfl rfl (show Int32.ofNat 3 = 3 by decide) dX8_railAt_9 ?_
  refine lv_icmp_lt (tgt := 17) hx hb dX8_railAt_10 (by decide) (fun _ => ?_) (fun h9 => by first | exact absurd h9 (by decide) | exact absurd (by decide) h9)
  refine lv_aload_n hx hb dX8_railAt_17 rfl (lv_at hl 0 rfl) ?_
  refine z_getX (i := 0) (j := 0) hM hI rfl hinX8 rfl (by decide) (by decide +kernel) (fun _ h9 => h9) rfl dX8_railAt_18 ?_
  refine lv_iload_n hx hb dX8_railAt_21 rfl (lv_at hl 1 rfl) ?_
  refine z_aaldE (i := 1) (x := some y0) hM hI rfl rfl (vp_in_c 0 3 (by decide)) (by first | rfl | decide +kernel | (simp [va_up]; done)) dX8_railAt_22 ?_
  show W p l e9 _ s m _ below meth c _ _ _ _ _ (F0 m 23 ls (.ref y0 :: []))
  refine lv_astore_n (lv' := [(2, .ref y0), (0, .ref px), (1, .int 0)]) hx hb dX8_railAt_23 rfl hl (by decide) rfl (fun ls hl => ?_)
  refine lv_aload_n hx hb dX8_railAt_24 rfl (lv_at hl 0 rfl) ?_
  refine lv_ifnonnull (tgt := 39) hx hb dX8_railAt_25 (by decide) ?_
  refine lv_aload_n hx hb dX8_railAt_39 rfl (lv_at hl 0 rfl) ?_
  exact W.aret (v := .ref y0) hx hb hr (Or.inl ⟨_, rfl⟩) (Or.inr ⟨_, rfl⟩) (fun t ht hW => ⟨⟨some y0, (L, κ, g), rfl, ⟨rfl, rfl⟩, z_end hK hI ht hW⟩, z_F hI ht⟩) (z_locs hI) dX8_railAt_40

set_option maxHeartbeats 4000000 in
set_option maxRecDepth 100000 in
theorem x_X8_volts_0 (l : Launch) (D : va_G) (tc : Nat → ClassId) (z0 : Nat) (L : List Nat) (κ : Nat → Nat) (g : Nat → Nat → Value) (sz : Nat) (yr : Nat) (yC : Nat) (yT : Nat) (yk : Nat) (ys : Nat) (yq : Nat) (yP : Nat) (yS : Nat) (y0 : Nat) (y1 : Nat) (y2 : Nat) (px : Nat)  : Met l yX8_volts wsX8_volts ({ frames := 1, cells := 0, slots := 0, locals := 22 }) (zPc D tc z0 [.ref px, .int 0] ([(px, .inr (10, [.ref yr, .ref yC, .ref yT, .ref yk, .ref ys, .ref yq, .ref yP, .ref yS, .int 0, .long 0])), (yr, .inl (tc 4, 3, .inr (.inr (.inr (.inr (va_up (va_up (va_up (fun _ => none) (0 : Int32).toNatClampNeg (some y0)) (1 : Int32).toNatClampNeg (some y1)) (2 : Int32).toNatClampNeg (some y2))))))), (y0, .inr (6, [.int 500, .int 500]))] : va_W) (L, κ, g) sz) (va_Qi (fun (r : Int32) (u : (zS)) => r = 500 ∧ u = (L, κ, g)) (fun (u : (zS)) (t : State) => zB D tc (zA ([(px, .inr (10, [.ref yr, .ref yC, .ref yT, .ref yk, .ref ys, .ref yq, .ref yP, .ref yS, .int 0, .long 0])), (yr, .inl (tc 4, 3, .inr (.inr (.inr (.inr (va_up (va_up (va_up (fun _ => none) (0 : Int32).toNatClampNeg (some y0)) (1 : Int32).toNatClampNeg (some y1)) (2 : Int32).toNatClampNeg (some y2))))))), (y0, .inr (6, [.int 500, .int 500]))] : va_W) L sz) ([(px, .inr (10, [.ref yr, .ref yC, .ref yT, .ref yk, .ref ys, .ref yq, .ref yP, .ref yS, .int 0, .long 0])), (yr, .inl (tc 4, 3, .inr (.inr (.inr (.inr (va_up (va_up (va_up (fun _ => none) (0 : Int32).toNatClampNeg (some y0)) (1 : Int32).toNatClampNeg (some y1)) (2 : Int32).toNatClampNeg (some y2))))))), (y0, .inr (6, [.int 500, .int 500]))] : va_W) u t) (zA ([(px, .inr (10, [.ref yr, .ref yC, .ref yT, .ref yk, .ref ys, .ref yq, .ref yP, .ref yS, .int 0, .long 0])), (yr, .inl (tc 4, 3, .inr (.inr (.inr (.inr (va_up (va_up (va_up (fun _ => none) (0 : Int32).toNatClampNeg (some y0)) (1 : Int32).toNatClampNeg (some y1)) (2 : Int32).toNatClampNeg (some y2))))))), (y0, .inr (6, [.int 500, .int 500]))] : va_W) L sz)) 0 0 (zA ([(px, .inr (10, [.ref yr, .ref yC, .ref yT, .ref yk, .ref ys, .ref yq, .ref yP, .ref yS, .int 0, .long 0])), (yr, .inl (tc 4, 3, .inr (.inr (.inr (.inr (va_up (va_up (va_up (fun _ => none) (0 : Int32).toNatClampNeg (some y0)) (1 : Int32).toNatClampNeg (some y1)) (2 : Int32).toNatClampNeg (some y2))))))), (y0, .inr (6, [.int 500, .int 500]))] : va_W) L sz) := by
  refine Met.ofW (cc := cX8_volts) (maxL := 2) (ret := (some .int)) (by decide) rfl ?_
  intro p e9 s m args below meth c s₁ B hml hv
  obtain ⟨rfl, rfl, hK, hE, hI⟩ := hv.opn
  have hx := B.exec
  have hb := B.bytes
  have hr := B.returns
  have hts := atoms_spec (ws := wsX8_volts) B.pre
  have hown : s.vm.findClass RX8 = some m.cls := findClass_of_methodNamed B.named
  have hlocks := B.notSynchronized
  have hM : zM p s m c cX8_volts _ wsX8_volts RX8 D tc := ⟨hx, hb, hts, hown, hK⟩
  have hinX4 : ∀ w ∈ wsX40, w ∈ wsX8_volts := by decide +kernel
  have hl := lv_entry ([.ref px, .int 0]) (n := 2) (Nat.le_of_ble_eq_true rfl)
  rw [lg_entry_eq]
  generalize (lg_sl ([.ref px, .int 0]) ++ List.replicate (2 - (lg_sl ([.ref px, .int 0])).length) Slot.unset).toArray = ls at hl ⊢
  have hl : lv_has ls 2 [(0, .ref px), (1, .int 0)] := hl
  refine lv_aload_n hx hb dX8_volts_0 rfl (lv_at hl 0 rfl) ?_
  refine lv_iload_n hx hb dX8_volts_1 rfl (lv_at hl 1 rfl) ?_
  refine z_cqX (sel := fun u : zS => u) (rxf := fun _ => ([(px, .inr (10, [.ref yr, .ref yC, .ref yT, .ref yk, .ref ys, .ref yq, .ref yP, .ref yS, .int 0, .long 0])), (yr, .inl (tc 4, 3, .inr (.inr (.inr (.inr (va_up (va_up (va_up (fun _ => none) (0 : Int32).toNatClampNeg (some y0)) (1 : Int32).toNatClampNeg (some y1)) (2 : Int32).toNatClampNeg (some y2))))))), (y0, .inr (6, [.int 500, .int 500]))] : va_W)) (Xc := ([(px, .inr (10, [.ref yr, .ref yC, .ref yT, .ref yk, .ref ys, .ref yq, .ref yP, .ref yS, .int 0, .long 0])), (yr, .inl (tc 4, 3, .inr (.inr (.inr (.inr (va_up (va_up (va_up (fun _ => none) (0 : Int32).toNatClampNeg (some y0)) (1 : Int32).toNatClampNeg (some y1)) (2 : Int32).toNatClampNeg (some y2))))))), (y0, .inr (6, [.int 500, .int 500]))] : va_W)) (wr := ([] : va_W)) [0, 1, 2] [] rfl rfl rfl rfl (by decide) hI (va_runV (As := [.int 0]) (rest := []) ⟨hx, hb, hml, hown, hts⟩ (x_X8_railAt_0 l D tc z0 _ κ g _ yr yC yT yk ys yq yP yS y0 y1 y2 px ) (cwV 1 hts gX8_volts_X8_railAt rfl rfl rfl (by decide +kernel) ⟨Nat.le_of_ble_eq_true rfl, Nat.le_of_ble_eq_true rfl⟩) (z_preV (Xc := ([(px, .inr (10, [.ref yr, .ref yC, .ref yT, .ref yk, .ref ys, .ref yq, .ref yP, .ref yS, .int 0, .long 0])), (yr, .inl (tc 4, 3, .inr (.inr (.inr (.inr (va_up (va_up (va_up (fun _ => none) (0 : Int32).toNatClampNeg (some y0)) (1 : Int32).toNatClampNeg (some y1)) (2 : Int32).toNatClampNeg (some y2))))))), (y0, .inr (6, [.int 500, .int 500]))] : va_W)) hK hE hI [0, 1, 2] rfl rfl (z_recvX hK hI (i := 0) rfl rfl)) rfl rfl hl.1 rfl (lv_room (Nat.le_of_ble_eq_true rfl)) dX8_volts_2 ⟨Nat.le_of_ble_eq_true rfl, Nat.le_of_ble_eq_true rfl⟩) (fun v1 u H locs hw hI => ?_)
  obtain ⟨rfl, rfl⟩ := hw
  show W p l e9 _ s m _ below meth c _ _ _ _ _ (F0 m 5 ls (.ref y0 :: []))
  have hI : zI D tc _ s.heap [(px, .inr (10, [.ref yr, .ref yC, .ref yT, .ref yk, .ref ys, .ref yq, .ref yP, .ref yS, .int 0, .long 0])), (yr, .inl (tc 4, 3, .inr (.inr (.inr (.inr (va_up (va_up (va_up (fun _ => none) (0 : Int32).toNatClampNeg (some y0)) (1 : Int32).toNatClampNeg (some y1)) (2 : Int32).toNatClampNeg (some y2))))))), (y0, .inr (6, [.int 500, .int 500]))] L κ g _ _ := hI
  refine z_getX (i := 2) (j := 0) hM hI rfl hinX4 rfl (by decide) (by decide +kernel) (fun _ h9 => h9) rfl dX8_volts_5 ?_
  exact W.iret (v := 500) hx hb hr (fun t ht hW => ⟨⟨_, (L, κ, g), rfl, ⟨rfl, rfl⟩, z_end hK hI ht hW⟩, z_F hI ht⟩) (z_locs hI) dX8_volts_8

set_option maxHeartbeats 4000000 in
set_option maxRecDepth 100000 in
theorem x_X8_railAt_1 (l : Launch) (D : va_G) (tc : Nat → ClassId) (z0 : Nat) (L : List Nat) (κ : Nat → Nat) (g : Nat → Nat → Value) (sz : Nat) (yr : Nat) (yC : Nat) (yT : Nat) (yk : Nat) (ys : Nat) (yq : Nat) (yP : Nat) (yS : Nat) (y0 : Nat) (y1 : Nat) (y2 : Nat) (px : Nat)  : Met l yX8_railAt wsX8_railAt ({ frames := 0, cells := 0, slots := 0, locals := 0 }) (zPc D tc z0 [.ref px, .int 1] ([(px, .inr (10, [.ref yr, .ref yC, .ref yT, .ref yk, .ref ys, .ref yq, .ref yP, .ref yS, .int 0, .long 0])), (yr, .inl (tc 4, 3, .inr (.inr (.inr (.inr (va_up (va_up (va_up (fun _ => none) (0 : Int32).toNatClampNeg (some y0)) (1 : Int32).toNatClampNeg (some y1)) (2 : Int32).toNatClampNeg (some y2))))))), (y1, .inr (6, [.int 500, .int 500]))] : va_W) (L, κ, g) sz) (va_Qq (fun (r : Option Nat) (u : (zS)) => r = some y1 ∧ u = (L, κ, g)) (fun (u : (zS)) (t : State) => zB D tc (zA ([(px, .inr (10, [.ref yr, .ref yC, .ref yT, .ref yk, .ref ys, .ref yq, .ref yP, .ref yS, .int 0, .long 0])), (yr, .inl (tc 4, 3, .inr (.inr (.inr (.inr (va_up (va_up (va_up (fun _ => none) (0 : Int32).toNatClampNeg (some y0)) (1 : Int32).toNatClampNeg (some y1)) (2 : Int32).toNatClampNeg (some y2))))))), (y1, .inr (6, [.int 500, .int 500]))] : va_W) L sz) ([(px, .inr (10, [.ref yr, .ref yC, .ref yT, .ref yk, .ref ys, .ref yq, .ref yP, .ref yS, .int 0, .long 0])), (yr, .inl (tc 4, 3, .inr (.inr (.inr (.inr (va_up (va_up (va_up (fun _ => none) (0 : Int32).toNatClampNeg (some y0)) (1 : Int32).toNatClampNeg (some y1)) (2 : Int32).toNatClampNeg (some y2))))))), (y1, .inr (6, [.int 500, .int 500]))] : va_W) u t) (zA ([(px, .inr (10, [.ref yr, .ref yC, .ref yT, .ref yk, .ref ys, .ref yq, .ref yP, .ref yS, .int 0, .long 0])), (yr, .inl (tc 4, 3, .inr (.inr (.inr (.inr (va_up (va_up (va_up (fun _ => none) (0 : Int32).toNatClampNeg (some y0)) (1 : Int32).toNatClampNeg (some y1)) (2 : Int32).toNatClampNeg (some y2))))))), (y1, .inr (6, [.int 500, .int 500]))] : va_W) L sz)) 0 0 (zA ([(px, .inr (10, [.ref yr, .ref yC, .ref yT, .ref yk, .ref ys, .ref yq, .ref yP, .ref yS, .int 0, .long 0])), (yr, .inl (tc 4, 3, .inr (.inr (.inr (.inr (va_up (va_up (va_up (fun _ => none) (0 : Int32).toNatClampNeg (some y0)) (1 : Int32).toNatClampNeg (some y1)) (2 : Int32).toNatClampNeg (some y2))))))), (y1, .inr (6, [.int 500, .int 500]))] : va_W) L sz) := by
  refine Met.ofW (cc := cX8_railAt) (maxL := 3) (ret := (some (.object "Wattgovern$Rail"))) (by decide) rfl ?_
  intro p e9 s m args below meth c s₁ B hml hv
  obtain ⟨rfl, rfl, hK, hE, hI⟩ := hv.opn
  have hx := B.exec
  have hb := B.bytes
  have hr := B.returns
  have hts := atoms_spec (ws := wsX8_railAt) B.pre
  have hown : s.vm.findClass RX8 = some m.cls := findClass_of_methodNamed B.named
  have hlocks := B.notSynchronized
  have hM : zM p s m c cX8_railAt _ wsX8_railAt RX8 D tc := ⟨hx, hb, hts, hown, hK⟩
  have hinX8 : ∀ w ∈ wsX80, w ∈ wsX8_railAt := by decide +kernel
  have hl := lv_entry ([.ref px, .int 1]) (n := 3) (Nat.le_of_ble_eq_true rfl)
  rw [lg_entry_eq]
  generalize (lg_sl ([.ref px, .int 1]) ++ List.replicate (3 - (lg_sl ([.ref px, .int 1])).length) Slot.unset).toArray = ls at hl ⊢
  have hl : lv_has ls 3 [(0, .ref px), (1, .int 1)] := hl
  refine lv_iload_n hx hb dX8_railAt_0 rfl (lv_at hl 1 rfl) ?_
  refine lv_if_lt (tgt := 13) hx hb dX8_railAt_1 (by decide) (fun h9 => by first | exact absurd h9 (by decide) | exact absurd (by decide) h9) (fun _ => ?_)
  refine lv_iload_n hx hb dX8_railAt_4 rfl (lv_at hl 1 rfl) ?_
  refine lv_aload_n hx hb dX8_railAt_5 rfl (lv_at hl 0 rfl) ?_
  refine z_getX (i := 0) (j := 0) hM hI rfl hinX8 rfl (by decide) (by decide +kernel) (fun _ h9 => h9) rfl dX8_railAt_6 ?_
  refine z_alenX (i := 1) (v := 3) hM hI rfl rfl (show Int32.ofNat 3 = 3 by decide) dX8_railAt_9 ?_
  refine lv_icmp_lt (tgt := 17) hx hb dX8_railAt_10 (by decide) (fun _ => ?_) (fun h9 => by first | exact absurd h9 (by decide) | exact absurd (by decide) h9)
  refine lv_aload_n hx hb dX8_railAt_17 rfl (lv_at hl 0 rfl) ?_
  refine z_getX (i := 0) (j := 0) hM hI rfl hinX8 rfl (by decide) (by decide +kernel) (fun _ h9 => h9) rfl dX8_railAt_18 ?_
  refine lv_iload_n hx hb dX8_railAt_21 rfl (lv_at hl 1 rfl) ?_
  refine z_aaldE (i := 1) (x := some y1) hM hI rfl rfl (vp_in_c 1 3 (by decide)) (by first | rfl | decide +kernel | (simp [va_up]; done)) dX8_railAt_22 ?_
  show W p l e9 _ s m _ below meth c _ _ _ _ _ (F0 m 23 ls (.ref y1 :: []))
  refine lv_astore_n (lv' := [(2, .ref y1), (0, .ref px), (1, .int 1)]) hx hb dX8_railAt_23 rfl hl (by decide) rfl (fun ls hl => ?_)
  refine lv_aload_n hx hb dX8_railAt_24 rfl (lv_at hl 0 rfl) ?_
  refine lv_ifnonnull (tgt := 39) hx hb dX8_railAt_25 (by decide) ?_
  refine lv_aload_n hx hb dX8_railAt_39 rfl (lv_at hl 0 rfl) ?_
  exact W.aret (v := .ref y1) hx hb hr (Or.inl ⟨_, rfl⟩) (Or.inr ⟨_, rfl⟩) (fun t ht hW => ⟨⟨some y1, (L, κ, g), rfl, ⟨rfl, rfl⟩, z_end hK hI ht hW⟩, z_F hI ht⟩) (z_locs hI) dX8_railAt_40

set_option maxHeartbeats 4000000 in
set_option maxRecDepth 100000 in
theorem x_X8_volts_1 (l : Launch) (D : va_G) (tc : Nat → ClassId) (z0 : Nat) (L : List Nat) (κ : Nat → Nat) (g : Nat → Nat → Value) (sz : Nat) (yr : Nat) (yC : Nat) (yT : Nat) (yk : Nat) (ys : Nat) (yq : Nat) (yP : Nat) (yS : Nat) (y0 : Nat) (y1 : Nat) (y2 : Nat) (px : Nat)  : Met l yX8_volts wsX8_volts ({ frames := 1, cells := 0, slots := 0, locals := 22 }) (zPc D tc z0 [.ref px, .int 1] ([(px, .inr (10, [.ref yr, .ref yC, .ref yT, .ref yk, .ref ys, .ref yq, .ref yP, .ref yS, .int 0, .long 0])), (yr, .inl (tc 4, 3, .inr (.inr (.inr (.inr (va_up (va_up (va_up (fun _ => none) (0 : Int32).toNatClampNeg (some y0)) (1 : Int32).toNatClampNeg (some y1)) (2 : Int32).toNatClampNeg (some y2))))))), (y1, .inr (6, [.int 500, .int 500]))] : va_W) (L, κ, g) sz) (va_Qi (fun (r : Int32) (u : (zS)) => r = 500 ∧ u = (L, κ, g)) (fun (u : (zS)) (t : State) => zB D tc (zA ([(px, .inr (10, [.ref yr, .ref yC, .ref yT, .ref yk, .ref ys, .ref yq, .ref yP, .ref yS, .int 0, .long 0])), (yr, .inl (tc 4, 3, .inr (.inr (.inr (.inr (va_up (va_up (va_up (fun _ => none) (0 : Int32).toNatClampNeg (some y0)) (1 : Int32).toNatClampNeg (some y1)) (2 : Int32).toNatClampNeg (some y2))))))), (y1, .inr (6, [.int 500, .int 500]))] : va_W) L sz) ([(px, .inr (10, [.ref yr, .ref yC, .ref yT, .ref yk, .ref ys, .ref yq, .ref yP, .ref yS, .int 0, .long 0])), (yr, .inl (tc 4, 3, .inr (.inr (.inr (.inr (va_up (va_up (va_up (fun _ => none) (0 : Int32).toNatClampNeg (some y0)) (1 : Int32).toNatClampNeg (some y1)) (2 : Int32).toNatClampNeg (some y2))))))), (y1, .inr (6, [.int 500, .int 500]))] : va_W) u t) (zA ([(px, .inr (10, [.ref yr, .ref yC, .ref yT, .ref yk, .ref ys, .ref yq, .ref yP, .ref yS, .int 0, .long 0])), (yr, .inl (tc 4, 3, .inr (.inr (.inr (.inr (va_up (va_up (va_up (fun _ => none) (0 : Int32).toNatClampNeg (some y0)) (1 : Int32).toNatClampNeg (some y1)) (2 : Int32).toNatClampNeg (some y2))))))), (y1, .inr (6, [.int 500, .int 500]))] : va_W) L sz)) 0 0 (zA ([(px, .inr (10, [.ref yr, .ref yC, .ref yT, .ref yk, .ref ys, .ref yq, .ref yP, .ref yS, .int 0, .long 0])), (yr, .inl (tc 4, 3, .inr (.inr (.inr (.inr (va_up (va_up (va_up (fun _ => none) (0 : Int32).toNatClampNeg (some y0)) (1 : Int32).toNatClampNeg (some y1)) (2 : Int32).toNatClampNeg (some y2))))))), (y1, .inr (6, [.int 500, .int 500]))] : va_W) L sz) := by
  refine Met.ofW (cc := cX8_volts) (maxL := 2) (ret := (some .int)) (by decide) rfl ?_
  intro p e9 s m args below meth c s₁ B hml hv
  obtain ⟨rfl, rfl, hK, hE, hI⟩ := hv.opn
  have hx := B.exec
  have hb := B.bytes
  have hr := B.returns
  have hts := atoms_spec (ws := wsX8_volts) B.pre
  have hown : s.vm.findClass RX8 = some m.cls := findClass_of_methodNamed B.named
  have hlocks := B.notSynchronized
  have hM : zM p s m c cX8_volts _ wsX8_volts RX8 D tc := ⟨hx, hb, hts, hown, hK⟩
  have hinX4 : ∀ w ∈ wsX40, w ∈ wsX8_volts := by decide +kernel
  have hl := lv_entry ([.ref px, .int 1]) (n := 2) (Nat.le_of_ble_eq_true rfl)
  rw [lg_entry_eq]
  generalize (lg_sl ([.ref px, .int 1]) ++ List.replicate (2 - (lg_sl ([.ref px, .int 1])).length) Slot.unset).toArray = ls at hl ⊢
  have hl : lv_has ls 2 [(0, .ref px), (1, .int 1)] := hl
  refine lv_aload_n hx hb dX8_volts_0 rfl (lv_at hl 0 rfl) ?_
  refine lv_iload_n hx hb dX8_volts_1 rfl (lv_at hl 1 rfl) ?_
  refine z_cqX (sel := fun u : zS => u) (rxf := fun _ => ([(px, .inr (10, [.ref yr, .ref yC, .ref yT, .ref yk, .ref ys, .ref yq, .ref yP, .ref yS, .int 0, .long 0])), (yr, .inl (tc 4, 3, .inr (.inr (.inr (.inr (va_up (va_up (va_up (fun _ => none) (0 : Int32).toNatClampNeg (some y0)) (1 : Int32).toNatClampNeg (some y1)) (2 : Int32).toNatClampNeg (some y2))))))), (y1, .inr (6, [.int 500, .int 500]))] : va_W)) (Xc := ([(px, .inr (10, [.ref yr, .ref yC, .ref yT, .ref yk, .ref ys, .ref yq, .ref yP, .ref yS, .int 0, .long 0])), (yr, .inl (tc 4, 3, .inr (.inr (.inr (.inr (va_up (va_up (va_up (fun _ => none) (0 : Int32).toNatClampNeg (some y0)) (1 : Int32).toNatClampNeg (some y1)) (2 : Int32).toNatClampNeg (some y2))))))), (y1, .inr (6, [.int 500, .int 500]))] : va_W)) (wr := ([] : va_W)) [0, 1, 2] [] rfl rfl rfl rfl (by decide) hI (va_runV (As := [.int 1]) (rest := []) ⟨hx, hb, hml, hown, hts⟩ (x_X8_railAt_1 l D tc z0 _ κ g _ yr yC yT yk ys yq yP yS y0 y1 y2 px ) (cwV 1 hts gX8_volts_X8_railAt rfl rfl rfl (by decide +kernel) ⟨Nat.le_of_ble_eq_true rfl, Nat.le_of_ble_eq_true rfl⟩) (z_preV (Xc := ([(px, .inr (10, [.ref yr, .ref yC, .ref yT, .ref yk, .ref ys, .ref yq, .ref yP, .ref yS, .int 0, .long 0])), (yr, .inl (tc 4, 3, .inr (.inr (.inr (.inr (va_up (va_up (va_up (fun _ => none) (0 : Int32).toNatClampNeg (some y0)) (1 : Int32).toNatClampNeg (some y1)) (2 : Int32).toNatClampNeg (some y2))))))), (y1, .inr (6, [.int 500, .int 500]))] : va_W)) hK hE hI [0, 1, 2] rfl rfl (z_recvX hK hI (i := 0) rfl rfl)) rfl rfl hl.1 rfl (lv_room (Nat.le_of_ble_eq_true rfl)) dX8_volts_2 ⟨Nat.le_of_ble_eq_true rfl, Nat.le_of_ble_eq_true rfl⟩) (fun v1 u H locs hw hI => ?_)
  obtain ⟨rfl, rfl⟩ := hw
  show W p l e9 _ s m _ below meth c _ _ _ _ _ (F0 m 5 ls (.ref y1 :: []))
  have hI : zI D tc _ s.heap [(px, .inr (10, [.ref yr, .ref yC, .ref yT, .ref yk, .ref ys, .ref yq, .ref yP, .ref yS, .int 0, .long 0])), (yr, .inl (tc 4, 3, .inr (.inr (.inr (.inr (va_up (va_up (va_up (fun _ => none) (0 : Int32).toNatClampNeg (some y0)) (1 : Int32).toNatClampNeg (some y1)) (2 : Int32).toNatClampNeg (some y2))))))), (y1, .inr (6, [.int 500, .int 500]))] L κ g _ _ := hI
  refine z_getX (i := 2) (j := 0) hM hI rfl hinX4 rfl (by decide) (by decide +kernel) (fun _ h9 => h9) rfl dX8_volts_5 ?_
  exact W.iret (v := 500) hx hb hr (fun t ht hW => ⟨⟨_, (L, κ, g), rfl, ⟨rfl, rfl⟩, z_end hK hI ht hW⟩, z_F hI ht⟩) (z_locs hI) dX8_volts_8

set_option maxHeartbeats 4000000 in
set_option maxRecDepth 100000 in
theorem x_X8_railAt_2 (l : Launch) (D : va_G) (tc : Nat → ClassId) (z0 : Nat) (L : List Nat) (κ : Nat → Nat) (g : Nat → Nat → Value) (sz : Nat) (yr : Nat) (yC : Nat) (yT : Nat) (yk : Nat) (ys : Nat) (yq : Nat) (yP : Nat) (yS : Nat) (y0 : Nat) (y1 : Nat) (y2 : Nat) (px : Nat)  : Met l yX8_railAt wsX8_railAt ({ frames := 0, cells := 0, slots := 0, locals := 0 }) (zPc D tc z0 [.ref px, .int 2] ([(px, .inr (10, [.ref yr, .ref yC, .ref yT, .ref yk, .ref ys, .ref yq, .ref yP, .ref yS, .int 0, .long 0])), (yr, .inl (tc 4, 3, .inr (.inr (.inr (.inr (va_up (va_up (va_up (fun _ => none) (0 : Int32).toNatClampNeg (some y0)) (1 : Int32).toNatClampNeg (some y1)) (2 : Int32).toNatClampNeg (some y2))))))), (y2, .inr (6, [.int 500, .int 500]))] : va_W) (L, κ, g) sz) (va_Qq (fun (r : Option Nat) (u : (zS)) => r = some y2 ∧ u = (L, κ, g)) (fun (u : (zS)) (t : State) => zB D tc (zA ([(px, .inr (10, [.ref yr, .ref yC, .ref yT, .ref yk, .ref ys, .ref yq, .ref yP, .ref yS, .int 0, .long 0])), (yr, .inl (tc 4, 3, .inr (.inr (.inr (.inr (va_up (va_up (va_up (fun _ => none) (0 : Int32).toNatClampNeg (some y0)) (1 : Int32).toNatClampNeg (some y1)) (2 : Int32).toNatClampNeg (some y2))))))), (y2, .inr (6, [.int 500, .int 500]))] : va_W) L sz) ([(px, .inr (10, [.ref yr, .ref yC, .ref yT, .ref yk, .ref ys, .ref yq, .ref yP, .ref yS, .int 0, .long 0])), (yr, .inl (tc 4, 3, .inr (.inr (.inr (.inr (va_up (va_up (va_up (fun _ => none) (0 : Int32).toNatClampNeg (some y0)) (1 : Int32).toNatClampNeg (some y1)) (2 : Int32).toNatClampNeg (some y2))))))), (y2, .inr (6, [.int 500, .int 500]))] : va_W) u t) (zA ([(px, .inr (10, [.ref yr, .ref yC, .ref yT, .ref yk, .ref ys, .ref yq, .ref yP, .ref yS, .int 0, .long 0])), (yr, .inl (tc 4, 3, .inr (.inr (.inr (.inr (va_up (va_up (va_up (fun _ => none) (0 : Int32).toNatClampNeg (some y0)) (1 : Int32).toNatClampNeg (some y1)) (2 : Int32).toNatClampNeg (some y2))))))), (y2, .inr (6, [.int 500, .int 500]))] : va_W) L sz)) 0 0 (zA ([(px, .inr (10, [.ref yr, .ref yC, .ref yT, .ref yk, .ref ys, .ref yq, .ref yP, .ref yS, .int 0, .long 0])), (yr, .inl (tc 4, 3, .inr (.inr (.inr (.inr (va_up (va_up (va_up (fun _ => none) (0 : Int32).toNatClampNeg (some y0)) (1 : Int32).toNatClampNeg (some y1)) (2 : Int32).toNatClampNeg (some y2))))))), (y2, .inr (6, [.int 500, .int 500]))] : va_W) L sz) := by
  refine Met.ofW (cc := cX8_railAt) (maxL := 3) (ret := (some (.object "Wattgovern$Rail"))) (by decide) rfl ?_
  intro p e9 s m args below meth c s₁ B hml hv
  obtain ⟨rfl, rfl, hK, hE, hI⟩ := hv.opn
  have hx := B.exec
  have hb := B.bytes
  have hr := B.returns
  have hts := atoms_spec (ws := wsX8_railAt) B.pre
  have hown : s.vm.findClass RX8 = some m.cls := findClass_of_methodNamed B.named
  have hlocks := B.notSynchronized
  have hM : zM p s m c cX8_railAt _ wsX8_railAt RX8 D tc := ⟨hx, hb, hts, hown, hK⟩
  have hinX8 : ∀ w ∈ wsX80, w ∈ wsX8_railAt := by decide +kernel
  have hl := lv_entry ([.ref px, .int 2]) (n := 3) (Nat.le_of_ble_eq_true rfl)
  rw [lg_entry_eq]
  generalize (lg_sl ([.ref px, .int 2]) ++ List.replicate (3 - (lg_sl ([.ref px, .int 2])).length) Slot.unset).toArray = ls at hl ⊢
  have hl : lv_has ls 3 [(0, .ref px), (1, .int 2)] := hl
  refine lv_iload_n hx hb dX8_railAt_0 rfl (lv_at hl 1 rfl) ?_
  refine lv_if_lt (tgt := 13) hx hb dX8_railAt_1 (by decide) (fun h9 => by first | exact absurd h9 (by decide) | exact absurd (by decide) h9) (fun _ => ?_)
  refine lv_iload_n hx hb dX8_railAt_4 rfl (lv_at hl 1 rfl) ?_
  refine lv_aload_n hx hb dX8_railAt_5 rfl (lv_at hl 0 rfl) ?_
  refine z_getX (i := 0) (j := 0) hM hI rfl hinX8 rfl (by decide) (by decide +kernel) (fun _ h9 => h9) rfl dX8_railAt_6 ?_
  refine z_alenX (i := 1) (v := 3) hM hI rfl rfl (show Int32.ofNat 3 = 3 by decide) dX8_railAt_9 ?_
  refine lv_icmp_lt (tgt := 17) hx hb dX8_railAt_10 (by decide) (fun _ => ?_) (fun h9 => by first | exact absurd h9 (by decide) | exact absurd (by decide) h9)
  refine lv_aload_n hx hb dX8_railAt_17 rfl (lv_at hl 0 rfl) ?_
  refine z_getX (i := 0) (j := 0) hM hI rfl hinX8 rfl (by decide) (by decide +kernel) (fun _ h9 => h9) rfl dX8_railAt_18 ?_
  refine lv_iload_n hx hb dX8_railAt_21 rfl (lv_at hl 1 rfl) ?_
  refine z_aaldE (i := 1) (x := some y2) hM hI rfl rfl (vp_in_c 2 3 (by decide)) (by first | rfl | decide +kernel | (simp [va_up]; done)) dX8_railAt_22 ?_
  show W p l e9 _ s m _ below meth c _ _ _ _ _ (F0 m 23 ls (.ref y2 :: []))
  refine lv_astore_n (lv' := [(2, .ref y2), (0, .ref px), (1, .int 2)]) hx hb dX8_railAt_23 rfl hl (by decide) rfl (fun ls hl => ?_)
  refine lv_aload_n hx hb dX8_railAt_24 rfl (lv_at hl 0 rfl) ?_
  refine lv_ifnonnull (tgt := 39) hx hb dX8_railAt_25 (by decide) ?_
  refine lv_aload_n hx hb dX8_railAt_39 rfl (lv_at hl 0 rfl) ?_
  exact W.aret (v := .ref y2) hx hb hr (Or.inl ⟨_, rfl⟩) (Or.inr ⟨_, rfl⟩) (fun t ht hW => ⟨⟨some y2, (L, κ, g), rfl, ⟨rfl, rfl⟩, z_end hK hI ht hW⟩, z_F hI ht⟩) (z_locs hI) dX8_railAt_40

set_option maxHeartbeats 4000000 in
set_option maxRecDepth 100000 in
theorem x_X8_volts_2 (l : Launch) (D : va_G) (tc : Nat → ClassId) (z0 : Nat) (L : List Nat) (κ : Nat → Nat) (g : Nat → Nat → Value) (sz : Nat) (yr : Nat) (yC : Nat) (yT : Nat) (yk : Nat) (ys : Nat) (yq : Nat) (yP : Nat) (yS : Nat) (y0 : Nat) (y1 : Nat) (y2 : Nat) (px : Nat)  : Met l yX8_volts wsX8_volts ({ frames := 1, cells := 0, slots := 0, locals := 22 }) (zPc D tc z0 [.ref px, .int 2] ([(px, .inr (10, [.ref yr, .ref yC, .ref yT, .ref yk, .ref ys, .ref yq, .ref yP, .ref yS, .int 0, .long 0])), (yr, .inl (tc 4, 3, .inr (.inr (.inr (.inr (va_up (va_up (va_up (fun _ => none) (0 : Int32).toNatClampNeg (some y0)) (1 : Int32).toNatClampNeg (some y1)) (2 : Int32).toNatClampNeg (some y2))))))), (y2, .inr (6, [.int 500, .int 500]))] : va_W) (L, κ, g) sz) (va_Qi (fun (r : Int32) (u : (zS)) => r = 500 ∧ u = (L, κ, g)) (fun (u : (zS)) (t : State) => zB D tc (zA ([(px, .inr (10, [.ref yr, .ref yC, .ref yT, .ref yk, .ref ys, .ref yq, .ref yP, .ref yS, .int 0, .long 0])), (yr, .inl (tc 4, 3, .inr (.inr (.inr (.inr (va_up (va_up (va_up (fun _ => none) (0 : Int32).toNatClampNeg (some y0)) (1 : Int32).toNatClampNeg (some y1)) (2 : Int32).toNatClampNeg (some y2))))))), (y2, .inr (6, [.int 500, .int 500]))] : va_W) L sz) ([(px, .inr (10, [.ref yr, .ref yC, .ref yT, .ref yk, .ref ys, .ref yq, .ref yP, .ref yS, .int 0, .long 0])), (yr, .inl (tc 4, 3, .inr (.inr (.inr (.inr (va_up (va_up (va_up (fun _ => none) (0 : Int32).toNatClampNeg (some y0)) (1 : Int32).toNatClampNeg (some y1)) (2 : Int32).toNatClampNeg (some y2))))))), (y2, .inr (6, [.int 500, .int 500]))] : va_W) u t) (zA ([(px, .inr (10, [.ref yr, .ref yC, .ref yT, .ref yk, .ref ys, .ref yq, .ref yP, .ref yS, .int 0, .long 0])), (yr, .inl (tc 4, 3, .inr (.inr (.inr (.inr (va_up (va_up (va_up (fun _ => none) (0 : Int32).toNatClampNeg (some y0)) (1 : Int32).toNatClampNeg (some y1)) (2 : Int32).toNatClampNeg (some y2))))))), (y2, .inr (6, [.int 500, .int 500]))] : va_W) L sz)) 0 0 (zA ([(px, .inr (10, [.ref yr, .ref yC, .ref yT, .ref yk, .ref ys, .ref yq, .ref yP, .ref yS, .int 0, .long 0])), (yr, .inl (tc 4, 3, .inr (.inr (.inr (.inr (va_up (va_up (va_up (fun _ => none) (0 : Int32).toNatClampNeg (some y0)) (1 : Int32).toNatClampNeg (some y1)) (2 : Int32).toNatClampNeg (some y2))))))), (y2, .inr (6, [.int 500, .int 500]))] : va_W) L sz) := by
  refine Met.ofW (cc := cX8_volts) (maxL := 2) (ret := (some .int)) (by decide) rfl ?_
  intro p e9 s m args below meth c s₁ B hml hv
  obtain ⟨rfl, rfl, hK, hE, hI⟩ := hv.opn
  have hx := B.exec
  have hb := B.bytes
  have hr := B.returns
  have hts := atoms_spec (ws := wsX8_volts) B.pre
  have hown : s.vm.findClass RX8 = some m.cls := findClass_of_methodNamed B.named
  have hlocks := B.notSynchronized
  have hM : zM p s m c cX8_volts _ wsX8_volts RX8 D tc := ⟨hx, hb, hts, hown, hK⟩
  have hinX4 : ∀ w ∈ wsX40, w ∈ wsX8_volts := by decide +kernel
  have hl := lv_entry ([.ref px, .int 2]) (n := 2) (Nat.le_of_ble_eq_true rfl)
  rw [lg_entry_eq]
  generalize (lg_sl ([.ref px, .int 2]) ++ List.replicate (2 - (lg_sl ([.ref px, .int 2])).length) Slot.unset).toArray = ls at hl ⊢
  have hl : lv_has ls 2 [(0, .ref px), (1, .int 2)] := hl
  refine lv_aload_n hx hb dX8_volts_0 rfl (lv_at hl 0 rfl) ?_
  refine lv_iload_n hx hb dX8_volts_1 rfl (lv_at hl 1 rfl) ?_
  refine z_cqX (sel := fun u : zS => u) (rxf := fun _ => ([(px, .inr (10, [.ref yr, .ref yC, .ref yT, .ref yk, .ref ys, .ref yq, .ref yP, .ref yS, .int 0, .long 0])), (yr, .inl (tc 4, 3, .inr (.inr (.inr (.inr (va_up (va_up (va_up (fun _ => none) (0 : Int32).toNatClampNeg (some y0)) (1 : Int32).toNatClampNeg (some y1)) (2 : Int32).toNatClampNeg (some y2))))))), (y2, .inr (6, [.int 500, .int 500]))] : va_W)) (Xc := ([(px, .inr (10, [.ref yr, .ref yC, .ref yT, .ref yk, .ref ys, .ref yq, .ref yP, .ref yS, .int 0, .long 0])), (yr, .inl (tc 4, 3, .inr (.inr (.inr (.inr (va_up (va_up (va_up (fun _ => none) (0 : Int32).toNatClampNeg (some y0)) (1 : Int32).toNatClampNeg (some y1)) (2 : Int32).toNatClampNeg (some y2))))))), (y2, .inr (6, [.int 500, .int 500]))] : va_W)) (wr := ([] : va_W)) [0, 1, 2] [] rfl rfl rfl rfl (by decide) hI (va_runV (As := [.int 2]) (rest := []) ⟨hx, hb, hml, hown, hts⟩ (x_X8_railAt_2 l D tc z0 _ κ g _ yr yC yT yk ys yq yP yS y0 y1 y2 px ) (cwV 1 hts gX8_volts_X8_railAt rfl rfl rfl (by decide +kernel) ⟨Nat.le_of_ble_eq_true rfl, Nat.le_of_ble_eq_true rfl⟩) (z_preV (Xc := ([(px, .inr (10, [.ref yr, .ref yC, .ref yT, .ref yk, .ref ys, .ref yq, .ref yP, .ref yS, .int 0, .long 0])), (yr, .inl (tc 4, 3, .inr (.inr (.inr (.inr (va_up (va_up (va_up (fun _ => none) (0 : Int32).toNatClampNeg (some y0)) (1 : Int32).toNatClampNeg (some y1)) (2 : Int32).toNatClampNeg (some y2))))))), (y2, .inr (6, [.int 500, .int 500]))] : va_W)) hK hE hI [0, 1, 2] rfl rfl (z_recvX hK hI (i := 0) rfl rfl)) rfl rfl hl.1 rfl (lv_room (Nat.le_of_ble_eq_true rfl)) dX8_volts_2 ⟨Nat.le_of_ble_eq_true rfl, Nat.le_of_ble_eq_true rfl⟩) (fun v1 u H locs hw hI => ?_)
  obtain ⟨rfl, rfl⟩ := hw
  show W p l e9 _ s m _ below meth c _ _ _ _ _ (F0 m 5 ls (.ref y2 :: []))
  have hI : zI D tc _ s.heap [(px, .inr (10, [.ref yr, .ref yC, .ref yT, .ref yk, .ref ys, .ref yq, .ref yP, .ref yS, .int 0, .long 0])), (yr, .inl (tc 4, 3, .inr (.inr (.inr (.inr (va_up (va_up (va_up (fun _ => none) (0 : Int32).toNatClampNeg (some y0)) (1 : Int32).toNatClampNeg (some y1)) (2 : Int32).toNatClampNeg (some y2))))))), (y2, .inr (6, [.int 500, .int 500]))] L κ g _ _ := hI
  refine z_getX (i := 2) (j := 0) hM hI rfl hinX4 rfl (by decide) (by decide +kernel) (fun _ h9 => h9) rfl dX8_volts_5 ?_
  exact W.iret (v := 500) hx hb hr (fun t ht hW => ⟨⟨_, (L, κ, g), rfl, ⟨rfl, rfl⟩, z_end hK hI ht hW⟩, z_F hI ht⟩) (z_locs hI) dX8_volts_8

set_option maxHeartbeats 4000000 in
set_option maxRecDepth 100000 in
theorem x_X8_account_119 (l : Launch) (D : va_G) (tc : Nat → ClassId) (z0 : Nat) (L : List Nat) (κ : Nat → Nat) (g : Nat → Nat → Value) (sz : Nat) (yr : Nat) (yC : Nat) (yT : Nat) (yk : Nat) (ys : Nat) (yq : Nat) (yP : Nat) (yS : Nat) (px : Nat)  : Met l yX8_account wsX8_account ({ frames := 0, cells := 0, slots := 0, locals := 0 }) (zPc D tc z0 [.ref px, .int 119] ([(px, .inr (10, [.ref yr, .ref yC, .ref yT, .ref yk, .ref ys, .ref yq, .ref yP, .ref yS, .int 0, .long 0])), (ys, .inr (8, [.int 200, .int 5000, .int 600, .long 0, .long 0, .int 0, .long 0, .long 0, .long 0, .long 0]))] : va_W) (L, κ, g) sz) (va_Ql (fun (r : Int64) (u : (zS)) => r = 0 ∧ u = (L, κ, g)) (fun (u : (zS)) (t : State) => zB D tc (zA ([(px, .inr (10, [.ref yr, .ref yC, .ref yT, .ref yk, .ref ys, .ref yq, .ref yP, .ref yS, .int 0, .long 0])), (ys, .inr (8, [.int 200, .int 5000, .int 600, .long 0, .long 0, .int 0, .long 0, .long 0, .long 0, .long 0]))] : va_W) L sz) ([(px, .inr (10, [.ref yr, .ref yC, .ref yT, .ref yk, .ref ys, .ref yq, .ref yP, .ref yS, .int 0, .long 0])), (ys, .inr (8, [.int 200, .int 5000, .int 600, .long 0, .long 0, .int 0, .long 0, .long 0, .long 0, .long 0]))] : va_W) u t) (zA ([(px, .inr (10, [.ref yr, .ref yC, .ref yT, .ref yk, .ref ys, .ref yq, .ref yP, .ref yS, .int 0, .long 0])), (ys, .inr (8, [.int 200, .int 5000, .int 600, .long 0, .long 0, .int 0, .long 0, .long 0, .long 0, .long 0]))] : va_W) L sz)) 0 0 (zA ([(px, .inr (10, [.ref yr, .ref yC, .ref yT, .ref yk, .ref ys, .ref yq, .ref yP, .ref yS, .int 0, .long 0])), (ys, .inr (8, [.int 200, .int 5000, .int 600, .long 0, .long 0, .int 0, .long 0, .long 0, .long 0, .long 0]))] : va_W) L sz) := by
  refine Met.ofW (cc := cX8_account) (maxL := 2) (ret := (some .long)) (by decide) rfl ?_
  intro p e9 s m args below meth c s₁ B hml hv
  obtain ⟨rfl, rfl, hK, hE, hI⟩ := hv.opn
  have hx := B.exec
  have hb := B.bytes
  have hr := B.returns
  have hts := atoms_spec (ws := wsX8_account) B.pre
  have hown : s.vm.findClass RX8 = some m.cls := findClass_of_methodNamed B.named
  have hlocks := B.notSynchronized
  have hM : zM p s m c cX8_account _ wsX8_account RX8 D tc := ⟨hx, hb, hts, hown, hK⟩
  have hinX8 : ∀ w ∈ wsX80, w ∈ wsX8_account := by decide +kernel
  have hinX6 : ∀ w ∈ wsX60, w ∈ wsX8_account := by decide +kernel
  have hl := lv_entry ([.ref px, .int 119]) (n := 2) (Nat.le_of_ble_eq_true rfl)
  rw [lg_entry_eq]
  generalize (lg_sl ([.ref px, .int 119]) ++ List.replicate (2 - (lg_sl ([.ref px, .int 119])).length) Slot.unset).toArray = ls at hl ⊢
  have hl : lv_has ls 2 [(0, .ref px), (1, .int 119)] := hl
  refine lv_iload_n hx hb dX8_account_0 rfl (lv_at hl 1 rfl) ?_
  refine lv_bipush (v := 119) hx hb dX8_account_1 (by decide) ?_
  refine lv_icmp_ne (tgt := 14) hx hb dX8_account_3 (by decide) (fun h9 => by first | exact absurd h9 (by decide) | exact absurd (by decide) h9) (fun _ => ?_)
  refine lv_aload_n hx hb dX8_account_6 rfl (lv_at hl 0 rfl) ?_
  refine z_getX (i := 0) (j := 4) hM hI rfl hinX8 rfl (by decide) (by decide +kernel) (fun _ h9 => h9) rfl dX8_account_7 ?_
  refine z_getX (i := 1) (j := 6) hM hI rfl hinX6 rfl (by decide) (by decide +kernel) (fun _ h9 => h9) rfl dX8_account_10 ?_
  exact W.lret (v := 0) hx hb hr (fun t ht hW => ⟨⟨_, (L, κ, g), rfl, ⟨rfl, rfl⟩, z_end hK hI ht hW⟩, z_F hI ht⟩) (z_locs hI) dX8_account_13

set_option maxHeartbeats 4000000 in
set_option maxRecDepth 100000 in
theorem x_X8_account_98 (l : Launch) (D : va_G) (tc : Nat → ClassId) (z0 : Nat) (L : List Nat) (κ : Nat → Nat) (g : Nat → Nat → Value) (sz : Nat) (yr : Nat) (yC : Nat) (yT : Nat) (yk : Nat) (ys : Nat) (yq : Nat) (yP : Nat) (yS : Nat) (px : Nat)  : Met l yX8_account wsX8_account ({ frames := 0, cells := 0, slots := 0, locals := 0 }) (zPc D tc z0 [.ref px, .int 98] ([(px, .inr (10, [.ref yr, .ref yC, .ref yT, .ref yk, .ref ys, .ref yq, .ref yP, .ref yS, .int 0, .long 0])), (ys, .inr (8, [.int 200, .int 5000, .int 600, .long 0, .long 0, .int 0, .long 0, .long 0, .long 0, .long 0]))] : va_W) (L, κ, g) sz) (va_Ql (fun (r : Int64) (u : (zS)) => r = 0 ∧ u = (L, κ, g)) (fun (u : (zS)) (t : State) => zB D tc (zA ([(px, .inr (10, [.ref yr, .ref yC, .ref yT, .ref yk, .ref ys, .ref yq, .ref yP, .ref yS, .int 0, .long 0])), (ys, .inr (8, [.int 200, .int 5000, .int 600, .long 0, .long 0, .int 0, .long 0, .long 0, .long 0, .long 0]))] : va_W) L sz) ([(px, .inr (10, [.ref yr, .ref yC, .ref yT, .ref yk, .ref ys, .ref yq, .ref yP, .ref yS, .int 0, .long 0])), (ys, .inr (8, [.int 200, .int 5000, .int 600, .long 0, .long 0, .int 0, .long 0, .long 0, .long 0, .long 0]))] : va_W) u t) (zA ([(px, .inr (10, [.ref yr, .ref yC, .ref yT, .ref yk, .ref ys, .ref yq, .ref yP, .ref yS, .int 0, .long 0])), (ys, .inr (8, [.int 200, .int 5000, .int 600, .long 0, .long 0, .int 0, .long 0, .long 0, .long 0, .long 0]))] : va_W) L sz)) 0 0 (zA ([(px, .inr (10, [.ref yr, .ref yC, .ref yT, .ref yk, .ref ys, .ref yq, .ref yP, .ref yS, .int 0, .long 0])), (ys, .inr (8, [.int 200, .int 5000, .int 600, .long 0, .long 0, .int 0, .long 0, .long 0, .long 0, .long 0]))] : va_W) L sz) := by
  refine Met.ofW (cc := cX8_account) (maxL := 2) (ret := (some .long)) (by decide) rfl ?_
  intro p e9 s m args below meth c s₁ B hml hv
  obtain ⟨rfl, rfl, hK, hE, hI⟩ := hv.opn
  have hx := B.exec
  have hb := B.bytes
  have hr := B.returns
  have hts := atoms_spec (ws := wsX8_account) B.pre
  have hown : s.vm.findClass RX8 = some m.cls := findClass_of_methodNamed B.named
  have hlocks := B.notSynchronized
  have hM : zM p s m c cX8_account _ wsX8_account RX8 D tc := ⟨hx, hb, hts, hown, hK⟩
  have hinX8 : ∀ w ∈ wsX80, w ∈ wsX8_account := by decide +kernel
  have hinX6 : ∀ w ∈ wsX60, w ∈ wsX8_account := by decide +kernel
  have hl := lv_entry ([.ref px, .int 98]) (n := 2) (Nat.le_of_ble_eq_true rfl)
  rw [lg_entry_eq]
  generalize (lg_sl ([.ref px, .int 98]) ++ List.replicate (2 - (lg_sl ([.ref px, .int 98])).length) Slot.unset).toArray = ls at hl ⊢
  have hl : lv_has ls 2 [(0, .ref px), (1, .int 98)] := hl
  refine lv_iload_n hx hb dX8_account_0 rfl (lv_at hl 1 rfl) ?_
  refine lv_bipush (v := 119) hx hb dX8_account_1 (by decide) ?_
  refine lv_icmp_ne (tgt := 14) hx hb dX8_account_3 (by decide) (fun _ => ?_) (fun h9 => by first | exact absurd h9 (by decide) | exact absurd (by decide) h9)
  refine lv_iload_n hx hb dX8_account_14 rfl (lv_at hl 1 rfl) ?_
  refine lv_bipush (v := 98) hx hb dX8_account_15 (by decide) ?_
  refine lv_icmp_ne (tgt := 28) hx hb dX8_account_17 (by decide) (fun h9 => by first | exact absurd h9 (by decide) | exact absurd (by decide) h9) (fun _ => ?_)
  refine lv_aload_n hx hb dX8_account_20 rfl (lv_at hl 0 rfl) ?_
  refine z_getX (i := 0) (j := 4) hM hI rfl hinX8 rfl (by decide) (by decide +kernel) (fun _ h9 => h9) rfl dX8_account_21 ?_
  refine z_getX (i := 1) (j := 7) hM hI rfl hinX6 rfl (by decide) (by decide +kernel) (fun _ h9 => h9) rfl dX8_account_24 ?_
  exact W.lret (v := 0) hx hb hr (fun t ht hW => ⟨⟨_, (L, κ, g), rfl, ⟨rfl, rfl⟩, z_end hK hI ht hW⟩, z_F hI ht⟩) (z_locs hI) dX8_account_27

set_option maxHeartbeats 4000000 in
set_option maxRecDepth 100000 in
theorem x_X8_account_111 (l : Launch) (D : va_G) (tc : Nat → ClassId) (z0 : Nat) (L : List Nat) (κ : Nat → Nat) (g : Nat → Nat → Value) (sz : Nat) (yr : Nat) (yC : Nat) (yT : Nat) (yk : Nat) (ys : Nat) (yq : Nat) (yP : Nat) (yS : Nat) (px : Nat)  : Met l yX8_account wsX8_account ({ frames := 0, cells := 0, slots := 0, locals := 0 }) (zPc D tc z0 [.ref px, .int 111] ([(px, .inr (10, [.ref yr, .ref yC, .ref yT, .ref yk, .ref ys, .ref yq, .ref yP, .ref yS, .int 0, .long 0])), (ys, .inr (8, [.int 200, .int 5000, .int 600, .long 0, .long 0, .int 0, .long 0, .long 0, .long 0, .long 0]))] : va_W) (L, κ, g) sz) (va_Ql (fun (r : Int64) (u : (zS)) => r = 0 ∧ u = (L, κ, g)) (fun (u : (zS)) (t : State) => zB D tc (zA ([(px, .inr (10, [.ref yr, .ref yC, .ref yT, .ref yk, .ref ys, .ref yq, .ref yP, .ref yS, .int 0, .long 0])), (ys, .inr (8, [.int 200, .int 5000, .int 600, .long 0, .long 0, .int 0, .long 0, .long 0, .long 0, .long 0]))] : va_W) L sz) ([(px, .inr (10, [.ref yr, .ref yC, .ref yT, .ref yk, .ref ys, .ref yq, .ref yP, .ref yS, .int 0, .long 0])), (ys, .inr (8, [.int 200, .int 5000, .int 600, .long 0, .long 0, .int 0, .long 0, .long 0, .long 0, .long 0]))] : va_W) u t) (zA ([(px, .inr (10, [.ref yr, .ref yC, .ref yT, .ref yk, .ref ys, .ref yq, .ref yP, .ref yS, .int 0, .long 0])), (ys, .inr (8, [.int 200, .int 5000, .int 600, .long 0, .long 0, .int 0, .long 0, .long 0, .long 0, .long 0]))] : va_W) L sz)) 0 0 (zA ([(px, .inr (10, [.ref yr, .ref yC, .ref yT, .ref yk, .ref ys, .ref yq, .ref yP, .ref yS, .int 0, .long 0])), (ys, .inr (8, [.int 200, .int 5000, .int 600, .long 0, .long 0, .int 0, .long 0, .long 0, .long 0, .long 0]))] : va_W) L sz) := by
  refine Met.ofW (cc := cX8_account) (maxL := 2) (ret := (some .long)) (by decide) rfl ?_
  intro p e9 s m args below meth c s₁ B hml hv
  obtain ⟨rfl, rfl, hK, hE, hI⟩ := hv.opn
  have hx := B.exec
  have hb := B.bytes
  have hr := B.returns
  have hts := atoms_spec (ws := wsX8_account) B.pre
  have hown : s.vm.findClass RX8 = some m.cls := findClass_of_methodNamed B.named
  have hlocks := B.notSynchronized
  have hM : zM p s m c cX8_account _ wsX8_account RX8 D tc := ⟨hx, hb, hts, hown, hK⟩
  have hinX8 : ∀ w ∈ wsX80, w ∈ wsX8_account := by decide +kernel
  have hinX6 : ∀ w ∈ wsX60, w ∈ wsX8_account := by decide +kernel
  have hl := lv_entry ([.ref px, .int 111]) (n := 2) (Nat.le_of_ble_eq_true rfl)
  rw [lg_entry_eq]
  generalize (lg_sl ([.ref px, .int 111]) ++ List.replicate (2 - (lg_sl ([.ref px, .int 111])).length) Slot.unset).toArray = ls at hl ⊢
  have hl : lv_has ls 2 [(0, .ref px), (1, .int 111)] := hl
  refine lv_iload_n hx hb dX8_account_0 rfl (lv_at hl 1 rfl) ?_
  refine lv_bipush (v := 119) hx hb dX8_account_1 (by decide) ?_
  refine lv_icmp_ne (tgt := 14) hx hb dX8_account_3 (by decide) (fun _ => ?_) (fun h9 => by first | exact absurd h9 (by decide) | exact absurd (by decide) h9)
  refine lv_iload_n hx hb dX8_account_14 rfl (lv_at hl 1 rfl) ?_
  refine lv_bipush (v := 98) hx hb dX8_account_15 (by decide) ?_
  refine lv_icmp_ne (tgt := 28) hx hb dX8_account_17 (by decide) (fun _ => ?_) (fun h9 => by first | exact absurd h9 (by decide) | exact absurd (by decide) h9)
  refine lv_iload_n hx hb dX8_account_28 rfl (lv_at hl 1 rfl) ?_
  refine lv_bipush (v := 111) hx hb dX8_account_29 (by decide) ?_
  refine lv_icmp_ne (tgt := 42) hx hb dX8_account_31 (by decide) (fun h9 => by first | exact absurd h9 (by decide) | exact absurd (by decide) h9) (fun _ => ?_)
  refine lv_aload_n hx hb dX8_account_34 rfl (lv_at hl 0 rfl) ?_
  refine z_getX (i := 0) (j := 4) hM hI rfl hinX8 rfl (by decide) (by decide +kernel) (fun _ h9 => h9) rfl dX8_account_35 ?_
  refine z_getX (i := 1) (j := 8) hM hI rfl hinX6 rfl (by decide) (by decide +kernel) (fun _ h9 => h9) rfl dX8_account_38 ?_
  exact W.lret (v := 0) hx hb hr (fun t ht hW => ⟨⟨_, (L, κ, g), rfl, ⟨rfl, rfl⟩, z_end hK hI ht hW⟩, z_F hI ht⟩) (z_locs hI) dX8_account_41

set_option maxHeartbeats 4000000 in
set_option maxRecDepth 100000 in
theorem x_X8_account_104 (l : Launch) (D : va_G) (tc : Nat → ClassId) (z0 : Nat) (L : List Nat) (κ : Nat → Nat) (g : Nat → Nat → Value) (sz : Nat) (yr : Nat) (yC : Nat) (yT : Nat) (yk : Nat) (ys : Nat) (yq : Nat) (yP : Nat) (yS : Nat) (px : Nat)  : Met l yX8_account wsX8_account ({ frames := 0, cells := 0, slots := 0, locals := 0 }) (zPc D tc z0 [.ref px, .int 104] ([(px, .inr (10, [.ref yr, .ref yC, .ref yT, .ref yk, .ref ys, .ref yq, .ref yP, .ref yS, .int 0, .long 0]))] : va_W) (L, κ, g) sz) (va_Ql (fun (r : Int64) (u : (zS)) => r = 0 ∧ u = (L, κ, g)) (fun (u : (zS)) (t : State) => zB D tc (zA ([(px, .inr (10, [.ref yr, .ref yC, .ref yT, .ref yk, .ref ys, .ref yq, .ref yP, .ref yS, .int 0, .long 0]))] : va_W) L sz) ([(px, .inr (10, [.ref yr, .ref yC, .ref yT, .ref yk, .ref ys, .ref yq, .ref yP, .ref yS, .int 0, .long 0]))] : va_W) u t) (zA ([(px, .inr (10, [.ref yr, .ref yC, .ref yT, .ref yk, .ref ys, .ref yq, .ref yP, .ref yS, .int 0, .long 0]))] : va_W) L sz)) 0 0 (zA ([(px, .inr (10, [.ref yr, .ref yC, .ref yT, .ref yk, .ref ys, .ref yq, .ref yP, .ref yS, .int 0, .long 0]))] : va_W) L sz) := by
  refine Met.ofW (cc := cX8_account) (maxL := 2) (ret := (some .long)) (by decide) rfl ?_
  intro p e9 s m args below meth c s₁ B hml hv
  obtain ⟨rfl, rfl, hK, hE, hI⟩ := hv.opn
  have hx := B.exec
  have hb := B.bytes
  have hr := B.returns
  have hts := atoms_spec (ws := wsX8_account) B.pre
  have hown : s.vm.findClass RX8 = some m.cls := findClass_of_methodNamed B.named
  have hlocks := B.notSynchronized
  have hM : zM p s m c cX8_account _ wsX8_account RX8 D tc := ⟨hx, hb, hts, hown, hK⟩
  have hinX8 : ∀ w ∈ wsX80, w ∈ wsX8_account := by decide +kernel
  have hl := lv_entry ([.ref px, .int 104]) (n := 2) (Nat.le_of_ble_eq_true rfl)
  rw [lg_entry_eq]
  generalize (lg_sl ([.ref px, .int 104]) ++ List.replicate (2 - (lg_sl ([.ref px, .int 104])).length) Slot.unset).toArray = ls at hl ⊢
  have hl : lv_has ls 2 [(0, .ref px), (1, .int 104)] := hl
  refine lv_iload_n hx hb dX8_account_0 rfl (lv_at hl 1 rfl) ?_
  refine lv_bipush (v := 119) hx hb dX8_account_1 (by decide) ?_
  refine lv_icmp_ne (tgt := 14) hx hb dX8_account_3 (by decide) (fun _ => ?_) (fun h9 => by first | exact absurd h9 (by decide) | exact absurd (by decide) h9)
  refine lv_iload_n hx hb dX8_account_14 rfl (lv_at hl 1 rfl) ?_
  refine lv_bipush (v := 98) hx hb dX8_account_15 (by decide) ?_
  refine lv_icmp_ne (tgt := 28) hx hb dX8_account_17 (by decide) (fun _ => ?_) (fun h9 => by first | exact absurd h9 (by decide) | exact absurd (by decide) h9)
  refine lv_iload_n hx hb dX8_account_28 rfl (lv_at hl 1 rfl) ?_
  refine lv_bipush (v := 111) hx hb dX8_account_29 (by decide) ?_
  refine lv_icmp_ne (tgt := 42) hx hb dX8_account_31 (by decide) (fun _ => ?_) (fun h9 => by first | exact absurd h9 (by decide) | exact absurd (by decide) h9)
  refine lv_iload_n hx hb dX8_account_42 rfl (lv_at hl 1 rfl) ?_
  refine lv_bipush (v := 104) hx hb dX8_account_43 (by decide) ?_
  refine lv_icmp_ne (tgt := 53) hx hb dX8_account_45 (by decide) (fun h9 => by first | exact absurd h9 (by decide) | exact absurd (by decide) h9) (fun _ => ?_)
  refine lv_aload_n hx hb dX8_account_48 rfl (lv_at hl 0 rfl) ?_
  refine z_getX (i := 0) (j := 9) hM hI rfl hinX8 rfl (by decide) (by decide +kernel) (fun _ h9 => h9) rfl dX8_account_49 ?_
  exact W.lret (v := 0) hx hb hr (fun t ht hW => ⟨⟨_, (L, κ, g), rfl, ⟨rfl, rfl⟩, z_end hK hI ht hW⟩, z_F hI ht⟩) (z_locs hI) dX8_account_52

set_option maxHeartbeats 4000000 in
set_option maxRecDepth 100000 in
theorem x_X8_account_97 (l : Launch) (D : va_G) (tc : Nat → ClassId) (z0 : Nat) (L : List Nat) (κ : Nat → Nat) (g : Nat → Nat → Value) (sz : Nat) (yr : Nat) (yC : Nat) (yT : Nat) (yk : Nat) (ys : Nat) (yb : Nat) (yq : Nat) (yA : Nat) (yP : Nat) (yS : Nat) (px : Nat)  : Met l yX8_account wsX8_account ({ frames := 0, cells := 0, slots := 0, locals := 0 }) (zPc D tc z0 [.ref px, .int 97] ([(px, .inr (10, [.ref yr, .ref yC, .ref yT, .ref yk, .ref ys, .ref yq, .ref yP, .ref yS, .int 0, .long 0])), (yk, .inr (4, [.ref yb, .ref yA, .long 0, .int 0, .int 0]))] : va_W) (L, κ, g) sz) (va_Ql (fun (r : Int64) (u : (zS)) => r = 0 ∧ u = (L, κ, g)) (fun (u : (zS)) (t : State) => zB D tc (zA ([(px, .inr (10, [.ref yr, .ref yC, .ref yT, .ref yk, .ref ys, .ref yq, .ref yP, .ref yS, .int 0, .long 0])), (yk, .inr (4, [.ref yb, .ref yA, .long 0, .int 0, .int 0]))] : va_W) L sz) ([(px, .inr (10, [.ref yr, .ref yC, .ref yT, .ref yk, .ref ys, .ref yq, .ref yP, .ref yS, .int 0, .long 0])), (yk, .inr (4, [.ref yb, .ref yA, .long 0, .int 0, .int 0]))] : va_W) u t) (zA ([(px, .inr (10, [.ref yr, .ref yC, .ref yT, .ref yk, .ref ys, .ref yq, .ref yP, .ref yS, .int 0, .long 0])), (yk, .inr (4, [.ref yb, .ref yA, .long 0, .int 0, .int 0]))] : va_W) L sz)) 0 0 (zA ([(px, .inr (10, [.ref yr, .ref yC, .ref yT, .ref yk, .ref ys, .ref yq, .ref yP, .ref yS, .int 0, .long 0])), (yk, .inr (4, [.ref yb, .ref yA, .long 0, .int 0, .int 0]))] : va_W) L sz) := by
  refine Met.ofW (cc := cX8_account) (maxL := 2) (ret := (some .long)) (by decide) rfl ?_
  intro p e9 s m args below meth c s₁ B hml hv
  obtain ⟨rfl, rfl, hK, hE, hI⟩ := hv.opn
  have hx := B.exec
  have hb := B.bytes
  have hr := B.returns
  have hts := atoms_spec (ws := wsX8_account) B.pre
  have hown : s.vm.findClass RX8 = some m.cls := findClass_of_methodNamed B.named
  have hlocks := B.notSynchronized
  have hM : zM p s m c cX8_account _ wsX8_account RX8 D tc := ⟨hx, hb, hts, hown, hK⟩
  have hinX8 : ∀ w ∈ wsX80, w ∈ wsX8_account := by decide +kernel
  have hinX2 : ∀ w ∈ wsX20, w ∈ wsX8_account := by decide +kernel
  have hl := lv_entry ([.ref px, .int 97]) (n := 2) (Nat.le_of_ble_eq_true rfl)
  rw [lg_entry_eq]
  generalize (lg_sl ([.ref px, .int 97]) ++ List.replicate (2 - (lg_sl ([.ref px, .int 97])).length) Slot.unset).toArray = ls at hl ⊢
  have hl : lv_has ls 2 [(0, .ref px), (1, .int 97)] := hl
  refine lv_iload_n hx hb dX8_account_0 rfl (lv_at hl 1 rfl) ?_
  refine lv_bipush (v := 119) hx hb dX8_account_1 (by decide) ?_
  refine lv_icmp_ne (tgt := 14) hx hb dX8_account_3 (by decide) (fun _ => ?_) (fun h9 => by first | exact absurd h9 (by decide) | exact absurd (by decide) h9)
  refine lv_iload_n hx hb dX8_account_14 rfl (lv_at hl 1 rfl) ?_
  refine lv_bipush (v := 98) hx hb dX8_account_15 (by decide) ?_
  refine lv_icmp_ne (tgt := 28) hx hb dX8_account_17 (by decide) (fun _ => ?_) (fun h9 => by first | exact absurd h9 (by decide) | exact absurd (by decide) h9)
  refine lv_iload_n hx hb dX8_account_28 rfl (lv_at hl 1 rfl) ?_
  refine lv_bipush (v := 111) hx hb dX8_account_29 (by decide) ?_
  refine lv_icmp_ne (tgt := 42) hx hb dX8_account_31 (by decide) (fun _ => ?_) (fun h9 => by first | exact absurd h9 (by decide) | exact absurd (by decide) h9)
  refine lv_iload_n hx hb dX8_account_42 rfl (lv_at hl 1 rfl) ?_
  refine lv_bipush (v := 104) hx hb dX8_account_43 (by decide) ?_
  refine lv_icmp_ne (tgt := 53) hx hb dX8_account_45 (by decide) (fun _ => ?_) (fun h9 => by first | exact absurd h9 (by decide) | exact absurd (by decide) h9)
  refine lv_iload_n hx hb dX8_account_53 rfl (lv_at hl 1 rfl) ?_
  refine lv_bipush (v := 97) hx hb dX8_account_54 (by decide) ?_
  refine lv_icmp_ne (tgt := 67) hx hb dX8_account_56 (by decide) (fun h9 => by first | exact absurd h9 (by decide) | exact absurd (by decide) h9) (fun _ => ?_)
  refine lv_aload_n hx hb dX8_account_59 rfl (lv_at hl 0 rfl) ?_
  refine z_getX (i := 0) (j := 3) hM hI rfl hinX8 rfl (by decide) (by decide +kernel) (fun _ h9 => h9) rfl dX8_account_60 ?_
  refine z_getX (i := 1) (j := 2) hM hI rfl hinX2 rfl (by decide) (by decide +kernel) (fun _ h9 => h9) rfl dX8_account_63 ?_
  exact W.lret (v := 0) hx hb hr (fun t ht hW => ⟨⟨_, (L, κ, g), rfl, ⟨rfl, rfl⟩, z_end hK hI ht hW⟩, z_F hI ht⟩) (z_locs hI) dX8_account_66

set_option maxHeartbeats 4000000 in
set_option maxRecDepth 100000 in
theorem x_X8_account_116 (l : Launch) (D : va_G) (tc : Nat → ClassId) (z0 : Nat) (L : List Nat) (κ : Nat → Nat) (g : Nat → Nat → Value) (sz : Nat) (yr : Nat) (yC : Nat) (yT : Nat) (yk : Nat) (ys : Nat) (yq : Nat) (yP : Nat) (yS : Nat) (px : Nat)  : Met l yX8_account wsX8_account ({ frames := 0, cells := 0, slots := 0, locals := 0 }) (zPc D tc z0 [.ref px, .int 116] ([(px, .inr (10, [.ref yr, .ref yC, .ref yT, .ref yk, .ref ys, .ref yq, .ref yP, .ref yS, .int 0, .long 0])), (ys, .inr (8, [.int 200, .int 5000, .int 600, .long 0, .long 0, .int 0, .long 0, .long 0, .long 0, .long 0]))] : va_W) (L, κ, g) sz) (va_Ql (fun (r : Int64) (u : (zS)) => r = 0 ∧ u = (L, κ, g)) (fun (u : (zS)) (t : State) => zB D tc (zA ([(px, .inr (10, [.ref yr, .ref yC, .ref yT, .ref yk, .ref ys, .ref yq, .ref yP, .ref yS, .int 0, .long 0])), (ys, .inr (8, [.int 200, .int 5000, .int 600, .long 0, .long 0, .int 0, .long 0, .long 0, .long 0, .long 0]))] : va_W) L sz) ([(px, .inr (10, [.ref yr, .ref yC, .ref yT, .ref yk, .ref ys, .ref yq, .ref yP, .ref yS, .int 0, .long 0])), (ys, .inr (8, [.int 200, .int 5000, .int 600, .long 0, .long 0, .int 0, .long 0, .long 0, .long 0, .long 0]))] : va_W) u t) (zA ([(px, .inr (10, [.ref yr, .ref yC, .ref yT, .ref yk, .ref ys, .ref yq, .ref yP, .ref yS, .int 0, .long 0])), (ys, .inr (8, [.int 200, .int 5000, .int 600, .long 0, .long 0, .int 0, .long 0, .long 0, .long 0, .long 0]))] : va_W) L sz)) 0 0 (zA ([(px, .inr (10, [.ref yr, .ref yC, .ref yT, .ref yk, .ref ys, .ref yq, .ref yP, .ref yS, .int 0, .long 0])), (ys, .inr (8, [.int 200, .int 5000, .int 600, .long 0, .long 0, .int 0, .long 0, .long 0, .long 0, .long 0]))] : va_W) L sz) := by
  refine Met.ofW (cc := cX8_account) (maxL := 2) (ret := (some .long)) (by decide) rfl ?_
  intro p e9 s m args below meth c s₁ B hml hv
  obtain ⟨rfl, rfl, hK, hE, hI⟩ := hv.opn
  have hx := B.exec
  have hb := B.bytes
  have hr := B.returns
  have hts := atoms_spec (ws := wsX8_account) B.pre
  have hown : s.vm.findClass RX8 = some m.cls := findClass_of_methodNamed B.named
  have hlocks := B.notSynchronized
  have hM : zM p s m c cX8_account _ wsX8_account RX8 D tc := ⟨hx, hb, hts, hown, hK⟩
  have hinX8 : ∀ w ∈ wsX80, w ∈ wsX8_account := by decide +kernel
  have hinX6 : ∀ w ∈ wsX60, w ∈ wsX8_account := by decide +kernel
  have hl := lv_entry ([.ref px, .int 116]) (n := 2) (Nat.le_of_ble_eq_true rfl)
  rw [lg_entry_eq]
  generalize (lg_sl ([.ref px, .int 116]) ++ List.replicate (2 - (lg_sl ([.ref px, .int 116])).length) Slot.unset).toArray = ls at hl ⊢
  have hl : lv_has ls 2 [(0, .ref px), (1, .int 116)] := hl
  refine lv_iload_n hx hb dX8_account_0 rfl (lv_at hl 1 rfl) ?_
  refine lv_bipush (v := 119) hx hb dX8_account_1 (by decide) ?_
  refine lv_icmp_ne (tgt := 14) hx hb dX8_account_3 (by decide) (fun _ => ?_) (fun h9 => by first | exact absurd h9 (by decide) | exact absurd (by decide) h9)
  refine lv_iload_n hx hb dX8_account_14 rfl (lv_at hl 1 rfl) ?_
  refine lv_bipush (v := 98) hx hb dX8_account_15 (by decide) ?_
  refine lv_icmp_ne (tgt := 28) hx hb dX8_account_17 (by decide) (fun _ => ?_) (fun h9 => by first | exact absurd h9 (by decide) | exact absurd (by decide) h9)
  refine lv_iload_n hx hb dX8_account_28 rfl (lv_at hl 1 rfl) ?_
  refine lv_bipush (v := 111) hx hb dX8_account_29 (by decide) ?_
  refine lv_icmp_ne (tgt := 42) hx hb dX8_account_31 (by decide) (fun _ => ?_) (fun h9 => by first | exact absurd h9 (by decide) | exact absurd (by decide) h9)
  refine lv_iload_n hx hb dX8_account_42 rfl (lv_at hl 1 rfl) ?_
  refine lv_bipush (v := 104) hx hb dX8_account_43 (by decide) ?_
  refine lv_icmp_ne (tgt := 53) hx hb dX8_account_45 (by decide) (fun _ => ?_) (fun h9 => by first | exact absurd h9 (by decide) | exact absurd (by decide) h9)
  refine lv_iload_n hx hb dX8_account_53 rfl (lv_at hl 1 rfl) ?_
  refine lv_bipush (v := 97) hx hb dX8_account_54 (by decide) ?_
  refine lv_icmp_ne (tgt := 67) hx hb dX8_account_56 (by decide) (fun _ => ?_) (fun h9 => by first | exact absurd h9 (by decide) | exact absurd (by decide) h9)
  refine lv_iload_n hx hb dX8_account_67 rfl (lv_at hl 1 rfl) ?_
  refine lv_bipush (v := 116) hx hb dX8_account_68 (by decide) ?_
  refine lv_icmp_ne (tgt := 81) hx hb dX8_account_70 (by decide) (fun h9 => by first | exact absurd h9 (by decide) | exact absurd (by decide) h9) (fun _ => ?_)
  refine lv_aload_n hx hb dX8_account_73 rfl (lv_at hl 0 rfl) ?_
  refine z_getX (i := 0) (j := 4) hM hI rfl hinX8 rfl (by decide) (by decide +kernel) (fun _ h9 => h9) rfl dX8_account_74 ?_
  refine z_getX (i := 1) (j := 9) hM hI rfl hinX6 rfl (by decide) (by decide +kernel) (fun _ h9 => h9) rfl dX8_account_77 ?_
  exact W.lret (v := 0) hx hb hr (fun t ht hW => ⟨⟨_, (L, κ, g), rfl, ⟨rfl, rfl⟩, z_end hK hI ht hW⟩, z_F hI ht⟩) (z_locs hI) dX8_account_80
