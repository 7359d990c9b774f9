set_option maxHeartbeats 4000000 in
set_option maxRecDepth 100000 in
theorem x_X0_init (l : Launch) (D : va_G) (tc : Nat → ClassId) (z0 : Nat) (L : List Nat) (κ : Nat → Nat) (g : Nat → Nat → Value) (sz : Nat) (p0 : Nat)  : Met l yX0_init wsX0_init ({ frames := 1, cells := 1, slots := 16, locals := 20 }) (zPc D tc z0 [.ref p0] ([(p0, .inr (2, [.null, .int 0]))] : va_W) (L, κ, g) sz) (va_Qv (fun (u : (Nat × zS)) => u.2 = (L, κ, g)) (fun (u : (Nat × zS)) (t : State) => zB D tc (zA ([(p0, .inr (2, [.null, .int 0]))] : va_W) L sz) ([(p0, .inr (2, [.ref u.1, .int 0])), (u.1, .inl (tc 1, 16, .inr (.inl (fun _ => 0))))] : va_W) u.2 t) (zA ([(p0, .inr (2, [.null, .int 0]))] : va_W) L sz)) 1 16 (zA ([(p0, .inr (2, [.null, .int 0]))] : va_W) L sz) := by
  refine Met.ofW (cc := cX0_init) (maxL := 1) (ret := none) (by decide) rfl ?_
  intro p e9 s m args below meth c s₁ B hml hv
  obtain ⟨rfl, rfl, hK, hE, hI⟩ := hv.opn
  have hx := B.exec
  have hb := B.bytes
  have hr := B.returns
  have hts := atoms_spec (ws := wsX0_init) B.pre
  have hown : s.vm.findClass RX0 = some m.cls := findClass_of_methodNamed B.named
  have hlocks := B.notSynchronized
  have hin2 : meth.name = "<init>" := (name_of_methodNamed B.named B.method).1
  have hM : zM p s m c cX0_init _ wsX0_init RX0 D tc := ⟨hx, hb, hts, hown, hK⟩
  have hinX0 : ∀ w ∈ wsX00, w ∈ wsX0_init := by decide +kernel
  have hl := lv_entry ([.ref p0]) (n := 1) (Nat.le_of_ble_eq_true rfl)
  rw [lg_entry_eq]
  generalize (lg_sl ([.ref p0]) ++ List.replicate (1 - (lg_sl ([.ref p0])).length) Slot.unset).toArray = ls at hl ⊢
  have hl : lv_has ls 1 [(0, .ref p0)] := hl
  refine lv_aload_n hx hb dX0_init_0 rfl (lv_at hl 0 rfl) ?_
  refine W.objInit hx hb hown (hts (.methodLink RX0 3 objectInit) (by decide +kernel)) (hts (.instanceMethod objectInit) (by decide +kernel)) (hts (.code objectInit ⟨#[0xb1]⟩ 1 none) (by decide +kernel)) rfl (by rw [hml]; exact hl.1) rfl dX0_init_1 (Nat.le_of_ble_eq_true rfl) (Nat.le_of_ble_eq_true rfl) ?_
  refine W.eq (g2 := F0 m 4 ls []) rfl ?_
  refine lv_aload_n hx hb dX0_init_4 rfl (lv_at hl 0 rfl) ?_
  refine lv_bipush (v := 16) hx hb dX0_init_5 (by decide) ?_
  refine z_newa (ty := .long) (ti := 1) (n := 16) hM hI (by decide +kernel) rfl rfl (by intro C h; cases h) (16, .inr (.inl (fun _ => 0))) (fun cA => rfl) (by decide) (by decide) (by decide) (Nat.le_of_ble_eq_true rfl) (Nat.le_of_ble_eq_true rfl) dX0_init_7 (fun q1 H hI => ?_)
  have hI : zI D tc _ s.heap [(p0, .inr (2, [.null, .int 0])), (q1, .inl (tc 1, 16, .inr (.inl (fun _ => 0))))] L κ g _ _ := hI
  refine z_putXF (i := 0) (j := 0) hM hI hin2 rfl hinX0 tyX0 tyX0_ok nmX0 rfl (by decide) (by decide +kernel) (fun _ h9 => h9) rfl rfl rfl rfl rfl (Nat.le_of_ble_eq_true rfl) dX0_init_9 (fun H locs hI => ?_)
  have hI : zI D tc _ s.heap [(p0, .inr (2, [.ref q1, .int 0])), (q1, .inl (tc 1, 16, .inr (.inl (fun _ => 0))))] L κ g _ _ := hI
  refine lv_aload_n hx hb dX0_init_12 rfl (lv_at hl 0 rfl) ?_
  refine lv_iconst (v := 0) hx hb dX0_init_13 (by decide) ?_
  refine z_putX (i := 0) (j := 1) hM hI rfl hinX0 tyX0 tyX0_ok nmX0 rfl (by decide) (by decide +kernel) (fun _ h9 => h9) rfl rfl rfl rfl (Nat.le_of_ble_eq_true rfl) dX0_init_14 (fun H locs hI => ?_)
  have hI : zI D tc _ s.heap [(p0, .inr (2, [.ref q1, .int 0])), (q1, .inl (tc 1, 16, .inr (.inl (fun _ => 0))))] L κ g _ _ := hI
  exact W.vret hx hb hr (fun t ht hW => ⟨⟨(q1, (L, κ, g)), rfl, rfl, z_end hK hI ht hW⟩, z_F hI ht⟩) (z_locs hI) dX0_init_17

set_option maxHeartbeats 4000000 in
set_option maxRecDepth 100000 in
theorem x_X0_reach_0 (l : Launch) (D : va_G) (tc : Nat → ClassId) (z0 : Nat) (L : List Nat) (κ : Nat → Nat) (g : Nat → Nat → Value) (sz : Nat) (p0 : Nat) (pa : Nat)  : Met l yX0_reach wsX0_reach ({ frames := 1, cells := 0, slots := 0, locals := 22 }) (zPc D tc z0 [.ref p0, .ref p0] ([(p0, .inr (2, [.ref pa, .int 0])), (pa, .inl (tc 1, 16, .inr (.inl (fun _ => 0))))] : va_W) (L, κ, g) sz) (va_Qi (fun (r : Int32) (u : (zS)) => r = 0 ∧ u = (L, κ, g)) (fun (u : (zS)) (t : State) => zB D tc (zA ([(p0, .inr (2, [.ref pa, .int 0])), (pa, .inl (tc 1, 16, .inr (.inl (fun _ => 0))))] : va_W) L sz) ([(p0, .inr (2, [.ref pa, .int 0])), (pa, .inl (tc 1, 16, .inr (.inl (fun _ => 0))))] : va_W) u t) (zA ([(p0, .inr (2, [.ref pa, .int 0])), (pa, .inl (tc 1, 16, .inr (.inl (fun _ => 0))))] : va_W) L sz)) 0 0 (zA ([(p0, .inr (2, [.ref pa, .int 0])), (pa, .inl (tc 1, 16, .inr (.inl (fun _ => 0))))] : va_W) L sz) := by
  refine Met.ofW (cc := cX0_reach) (maxL := 2) (ret := (some .int)) (by decide) rfl ?_
  intro p e9 s m args below meth c s₁ B hml hv
  obtain ⟨rfl, rfl, hK, hE, hI⟩ := hv.opn
  have hx := B.exec
  have hb := B.bytes
  have hr := B.returns
  have hts := atoms_spec (ws := wsX0_reach) B.pre
  have hown : s.vm.findClass RX0 = some m.cls := findClass_of_methodNamed B.named
  have hlocks := B.notSynchronized
  have hM : zM p s m c cX0_reach _ wsX0_reach RX0 D tc := ⟨hx, hb, hts, hown, hK⟩
  have hinX0 : ∀ w ∈ wsX00, w ∈ wsX0_reach := by decide +kernel
  have hl := lv_entry ([.ref p0, .ref p0]) (n := 2) (Nat.le_of_ble_eq_true rfl)
  rw [lg_entry_eq]
  generalize (lg_sl ([.ref p0, .ref p0]) ++ List.replicate (2 - (lg_sl ([.ref p0, .ref p0])).length) Slot.unset).toArray = ls at hl ⊢
  have hl : lv_has ls 2 [(0, .ref p0), (1, .ref p0)] := hl
  refine lv_aload_n hx hb dX0_reach_0 rfl (lv_at hl 0 rfl) ?_
  refine z_getX (i := 0) (j := 0) hM hI rfl hinX0 rfl (by decide) (by decide +kernel) (fun _ h9 => h9) rfl dX0_reach_1 ?_
  refine z_alenX (i := 1) (v := 16) hM hI rfl rfl (show Int32.ofNat 16 = 16 by decide) dX0_reach_4 ?_
  refine lv_aload_n hx hb dX0_reach_5 rfl (lv_at hl 0 rfl) ?_
  refine z_getX (i := 0) (j := 1) hM hI rfl hinX0 rfl (by decide) (by decide +kernel) (fun _ h9 => h9) rfl dX0_reach_6 ?_
  refine lv_aload_n hx hb dX0_reach_9 rfl (lv_at hl 1 rfl) ?_
  refine z_getX (i := 0) (j := 1) hM hI rfl hinX0 rfl (by decide) (by decide +kernel) (fun _ h9 => h9) rfl dX0_reach_10 ?_
  refine va_mmax hx hb (hml.trans hl.1.symm) hown (hts (.methodLink RX0 38 Lib.Math.max.name) (by decide +kernel)) (hts (.static Lib.Math.max.name) (by decide +kernel)) (hts (.initialized "java/lang/Math") (by decide +kernel)) (hts (.code Lib.Math.max.name Lib.Math.max.code 2 (some .int)) (by decide +kernel)) (Nat.le_of_ble_eq_true rfl) (Nat.le_of_ble_eq_true rfl) (Nat.le_of_ble_eq_true rfl) (Nat.le_of_ble_eq_true rfl) dX0_reach_13 ?_
  refine lv_topi (fun v1 e2 => ?_)
  obtain rfl : v1 = 0 := e2.trans (by decide +kernel)
  refine va_mmin hx hb (hml.trans hl.1.symm) hown (hts (.methodLink RX0 44 Lib.Math.min.name) (by decide +kernel)) (hts (.static Lib.Math.min.name) (by decide +kernel)) (hts (.initialized "java/lang/Math") (by decide +kernel)) (hts (.code Lib.Math.min.name Lib.Math.min.code 2 (some .int)) (by decide +kernel)) (Nat.le_of_ble_eq_true rfl) (Nat.le_of_ble_eq_true rfl) (Nat.le_of_ble_eq_true rfl) (Nat.le_of_ble_eq_true rfl) dX0_reach_16 ?_
  refine lv_topi (fun v3 e4 => ?_)
  obtain rfl : v3 = 0 := e4.trans (by decide +kernel)
  exact W.iret (v := 0) hx hb hr (fun t ht hW => ⟨⟨_, (L, κ, g), rfl, ⟨rfl, rfl⟩, z_end hK hI ht hW⟩, z_F hI ht⟩) (z_locs hI) dX0_reach_19

set_option maxHeartbeats 4000000 in
set_option maxRecDepth 100000 in
theorem x_X0_reach_1 (l : Launch) (D : va_G) (tc : Nat → ClassId) (z0 : Nat) (L : List Nat) (κ : Nat → Nat) (g : Nat → Nat → Value) (sz : Nat) (p0 : Nat) (pa : Nat) (p1 : Nat) (pb : Nat)  : Met l yX0_reach wsX0_reach ({ frames := 1, cells := 0, slots := 0, locals := 22 }) (zPc D tc z0 [.ref p0, .ref p1] ([(p0, .inr (2, [.ref pa, .int 0])), (pa, .inl (tc 1, 16, .inr (.inl (fun _ => 0)))), (p1, .inr (2, [.ref pb, .int 1])), (pb, .inl (tc 1, 16, .inr (.inl (vp_updL (fun _ => 0) (0 : Int32).toNatClampNeg 4000))))] : va_W) (L, κ, g) sz) (va_Qi (fun (r : Int32) (u : (zS)) => r = 1 ∧ u = (L, κ, g)) (fun (u : (zS)) (t : State) => zB D tc (zA ([(p0, .inr (2, [.ref pa, .int 0])), (pa, .inl (tc 1, 16, .inr (.inl (fun _ => 0)))), (p1, .inr (2, [.ref pb, .int 1])), (pb, .inl (tc 1, 16, .inr (.inl (vp_updL (fun _ => 0) (0 : Int32).toNatClampNeg 4000))))] : va_W) L sz) ([(p0, .inr (2, [.ref pa, .int 0])), (pa, .inl (tc 1, 16, .inr (.inl (fun _ => 0)))), (p1, .inr (2, [.ref pb, .int 1])), (pb, .inl (tc 1, 16, .inr (.inl (vp_updL (fun _ => 0) (0 : Int32).toNatClampNeg 4000))))] : va_W) u t) (zA ([(p0, .inr (2, [.ref pa, .int 0])), (pa, .inl (tc 1, 16, .inr (.inl (fun _ => 0)))), (p1, .inr (2, [.ref pb, .int 1])), (pb, .inl (tc 1, 16, .inr (.inl (vp_updL (fun _ => 0) (0 : Int32).toNatClampNeg 4000))))] : va_W) L sz)) 0 0 (zA ([(p0, .inr (2, [.ref pa, .int 0])), (pa, .inl (tc 1, 16, .inr (.inl (fun _ => 0)))), (p1, .inr (2, [.ref pb, .int 1])), (pb, .inl (tc 1, 16, .inr (.inl (vp_updL (fun _ => 0) (0 : Int32).toNatClampNeg 4000))))] : va_W) L sz) := by
  refine Met.ofW (cc := cX0_reach) (maxL := 2) (ret := (some .int)) (by decide) rfl ?_
  intro p e9 s m args below meth c s₁ B hml hv
  obtain ⟨rfl, rfl, hK, hE, hI⟩ := hv.opn
  have hx := B.exec
  have hb := B.bytes
  have hr := B.returns
  have hts := atoms_spec (ws := wsX0_reach) B.pre
  have hown : s.vm.findClass RX0 = some m.cls := findClass_of_methodNamed B.named
  have hlocks := B.notSynchronized
  have hM : zM p s m c cX0_reach _ wsX0_reach RX0 D tc := ⟨hx, hb, hts, hown, hK⟩
  have hinX0 : ∀ w ∈ wsX00, w ∈ wsX0_reach := by decide +kernel
  have hl := lv_entry ([.ref p0, .ref p1]) (n := 2) (Nat.le_of_ble_eq_true rfl)
  rw [lg_entry_eq]
  generalize (lg_sl ([.ref p0, .ref p1]) ++ List.replicate (2 - (lg_sl ([.ref p0, .ref p1])).length) Slot.unset).toArray = ls at hl ⊢
  have hl : lv_has ls 2 [(0, .ref p0), (1, .ref p1)] := hl
  refine lv_aload_n hx hb dX0_reach_0 rfl (lv_at hl 0 rfl) ?_
  refine z_getX (i := 0) (j := 0) hM hI rfl hinX0 rfl (by decide) (by decide +kernel) (fun _ h9 => h9) rfl dX0_reach_1 ?_
  refine z_alenX (i := 1) (v := 16) hM hI rfl rfl (show Int32.ofNat 16 = 16 by decide) dX0_reach_4 ?_
  refine lv_aload_n hx hb dX0_reach_5 rfl (lv_at hl 0 rfl) ?_
  refine z_getX (i := 0) (j := 1) hM hI rfl hinX0 rfl (by decide) (by decide +kernel) (fun _ h9 => h9) rfl dX0_reach_6 ?_
  refine lv_aload_n hx hb dX0_reach_9 rfl (lv_at hl 1 rfl) ?_
  refine z_getX (i := 2) (j := 1) hM hI rfl hinX0 rfl (by decide) (by decide +kernel) (fun _ h9 => h9) rfl dX0_reach_10 ?_
  refine va_mmax hx hb (hml.trans hl.1.symm) hown (hts (.methodLink RX0 38 Lib.Math.max.name) (by decide +kernel)) (hts (.static Lib.Math.max.name) (by decide +kernel)) (hts (.initialized "java/lang/Math") (by decide +kernel)) (hts (.code Lib.Math.max.name Lib.Math.max.code 2 (some .int)) (by decide +kernel)) (Nat.le_of_ble_eq_true rfl) (Nat.le_of_ble_eq_true rfl) (Nat.le_of_ble_eq_true rfl) (Nat.le_of_ble_eq_true rfl) dX0_reach_13 ?_
  refine lv_topi (fun v1 e2 => ?_)
  obtain rfl : v1 = 1 := e2.trans (by decide +kernel)
  refine va_mmin hx hb (hml.trans hl.1.symm) hown (hts (.methodLink RX0 44 Lib.Math.min.name) (by decide +kernel)) (hts (.static Lib.Math.min.name) (by decide +kernel)) (hts (.initialized "java/lang/Math") (by decide +kernel)) (hts (.code Lib.Math.min.name Lib.Math.min.code 2 (some .int)) (by decide +kernel)) (Nat.le_of_ble_eq_true rfl) (Nat.le_of_ble_eq_true rfl) (Nat.le_of_ble_eq_true rfl) (Nat.le_of_ble_eq_true rfl) dX0_reach_16 ?_
  refine lv_topi (fun v3 e4 => ?_)
  obtain rfl : v3 = 1 := e4.trans (by decide +kernel)
  exact W.iret (v := 1) hx hb hr (fun t ht hW => ⟨⟨_, (L, κ, g), rfl, ⟨rfl, rfl⟩, z_end hK hI ht hW⟩, z_F hI ht⟩) (z_locs hI) dX0_reach_19

set_option maxHeartbeats 4000000 in
set_option maxRecDepth 100000 in
theorem x_X0_dropZeros_4000 (l : Launch) (D : va_G) (tc : Nat → ClassId) (z0 : Nat) (L : List Nat) (κ : Nat → Nat) (g : Nat → Nat → Value) (sz : Nat) (p0 : Nat) (pa : Nat)  : Met l yX0_dropZeros wsX0_dropZeros ({ frames := 0, cells := 0, slots := 0, locals := 0 }) (zPc D tc z0 [.ref p0] ([(p0, .inr (2, [.ref pa, .int 1])), (pa, .inl (tc 1, 16, .inr (.inl (vp_updL (fun _ => 0) (0 : Int32).toNatClampNeg 4000))))] : va_W) (L, κ, g) sz) (va_Qv (fun (u : (zS)) => u = (L, κ, g)) (fun (u : (zS)) (t : State) => zB D tc (zA ([(p0, .inr (2, [.ref pa, .int 1])), (pa, .inl (tc 1, 16, .inr (.inl (vp_updL (fun _ => 0) (0 : Int32).toNatClampNeg 4000))))] : va_W) L sz) ([(p0, .inr (2, [.ref pa, .int 1])), (pa, .inl (tc 1, 16, .inr (.inl (vp_updL (fun _ => 0) (0 : Int32).toNatClampNeg 4000))))] : va_W) u t) (zA ([(p0, .inr (2, [.ref pa, .int 1])), (pa, .inl (tc 1, 16, .inr (.inl (vp_updL (fun _ => 0) (0 : Int32).toNatClampNeg 4000))))] : va_W) L sz)) 0 0 (zA ([(p0, .inr (2, [.ref pa, .int 1])), (pa, .inl (tc 1, 16, .inr (.inl (vp_updL (fun _ => 0) (0 : Int32).toNatClampNeg 4000))))] : va_W) L sz) := by
  refine Met.ofW (cc := cX0_dropZeros) (maxL := 1) (ret := none) (by decide) rfl ?_
  intro p e9 s m args below meth c s₁ B hml hv
  obtain ⟨rfl, rfl, hK, hE, hI⟩ := hv.opn
  have hx := B.exec
  have hb := B.bytes
  have hr := B.returns
  have hts := atoms_spec (ws := wsX0_dropZeros) B.pre
  have hown : s.vm.findClass RX0 = some m.cls := findClass_of_methodNamed B.named
  have hlocks := B.notSynchronized
  have hM : zM p s m c cX0_dropZeros _ wsX0_dropZeros RX0 D tc := ⟨hx, hb, hts, hown, hK⟩
  have hinX0 : ∀ w ∈ wsX00, w ∈ wsX0_dropZeros := by decide +kernel
  have hl := lv_entry ([.ref p0]) (n := 1) (Nat.le_of_ble_eq_true rfl)
  rw [lg_entry_eq]
  generalize (lg_sl ([.ref p0]) ++ List.replicate (1 - (lg_sl ([.ref p0])).length) Slot.unset).toArray = ls at hl ⊢
  have hl : lv_has ls 1 [(0, .ref p0)] := hl
  refine lv_aload_n hx hb dX0_dropZeros_0 rfl (lv_at hl 0 rfl) ?_
  refine z_getX (i := 0) (j := 1) hM hI rfl hinX0 rfl (by decide) (by decide +kernel) (fun _ h9 => h9) rfl dX0_dropZeros_1 ?_
  refine lv_if_le (tgt := 36) hx hb dX0_dropZeros_4 (by decide) (fun h9 => by first | exact absurd h9 (by decide) | exact absurd (by decide) h9) (fun _ => ?_)
  refine lv_aload_n hx hb dX0_dropZeros_7 rfl (lv_at hl 0 rfl) ?_
  refine z_getX (i := 0) (j := 0) hM hI rfl hinX0 rfl (by decide) (by decide +kernel) (fun _ h9 => h9) rfl dX0_dropZeros_8 ?_
  refine lv_aload_n hx hb dX0_dropZeros_11 rfl (lv_at hl 0 rfl) ?_
  refine z_getX (i := 0) (j := 1) hM hI rfl hinX0 rfl (by decide) (by decide +kernel) (fun _ h9 => h9) rfl dX0_dropZeros_12 ?_
  refine lv_iconst (v := 1) hx hb dX0_dropZeros_15 (by decide) ?_
  refine lv_isub hx hb dX0_dropZeros_16 ?_
  refine lv_topi (fun v1 e2 => ?_)
  obtain rfl : v1 = 0 := e2.trans (by decide +kernel)
  refine z_laldE (i := 1) (v := 4000) hM hI rfl (vp_in_c 0 16 (by decide)) (by first | rfl | decide +kernel) dX0_dropZeros_17 ?_
  refine lv_lconst (v := 0) hx hb dX0_dropZeros_18 (by decide) ?_
  refine W.lcmp hx hb dX0_dropZeros_19 ?_
  refine lv_topi (fun v3 e4 => ?_)
  obtain rfl : v3 = 1 := e4.trans (by decide +kernel)
  refine lv_if_ne (tgt := 36) hx hb dX0_dropZeros_20 (by decide) (fun _ => ?_) (fun h9 => by first | exact absurd h9 (by decide) | exact absurd (by decide) h9)
  exact W.vret hx hb hr (fun t ht hW => ⟨⟨(L, κ, g), rfl, rfl, z_end hK hI ht hW⟩, z_F hI ht⟩) (z_locs hI) dX0_dropZeros_36

set_option maxHeartbeats 4000000 in
set_option maxRecDepth 100000 in
theorem x_X0_become_4000 (l : Launch) (D : va_G) (tc : Nat → ClassId) (z0 : Nat) (L : List Nat) (κ : Nat → Nat) (g : Nat → Nat → Value) (sz : Nat) (p0 : Nat) (pa : Nat)  : Met l yX0_become wsX0_become ({ frames := 2, cells := 0, slots := 0, locals := 43 }) (zPc D tc z0 [.ref p0, .int 4000] ([(p0, .inr (2, [.ref pa, .int 0])), (pa, .inl (tc 1, 16, .inr (.inl (fun _ => 0))))] : va_W) (L, κ, g) sz) (va_Qv (fun (u : (zS)) => u = (L, κ, g)) (fun (u : (zS)) (t : State) => zB D tc (zA ([(p0, .inr (2, [.ref pa, .int 0])), (pa, .inl (tc 1, 16, .inr (.inl (fun _ => 0))))] : va_W) L sz) ([(p0, .inr (2, [.ref pa, .int 1])), (pa, .inl (tc 1, 16, .inr (.inl (vp_updL (fun _ => 0) (0 : Int32).toNatClampNeg 4000))))] : va_W) u t) (zA ([(p0, .inr (2, [.ref pa, .int 0])), (pa, .inl (tc 1, 16, .inr (.inl (fun _ => 0))))] : va_W) L sz)) 0 0 (zA ([(p0, .inr (2, [.ref pa, .int 0])), (pa, .inl (tc 1, 16, .inr (.inl (fun _ => 0))))] : va_W) L sz) := by
  refine Met.ofW (cc := cX0_become) (maxL := 4) (ret := none) (by decide) rfl ?_
  intro p e9 s m args below meth c s₁ B hml hv
  obtain ⟨rfl, rfl, hK, hE, hI⟩ := hv.opn
  have hx := B.exec
  have hb := B.bytes
  have hr := B.returns
  have hts := atoms_spec (ws := wsX0_become) B.pre
  have hown : s.vm.findClass RX0 = some m.cls := findClass_of_methodNamed B.named
  have hlocks := B.notSynchronized
  have hM : zM p s m c cX0_become _ wsX0_become RX0 D tc := ⟨hx, hb, hts, hown, hK⟩
  have hinX0 : ∀ w ∈ wsX00, w ∈ wsX0_become := by decide +kernel
  have hl := lv_entry ([.ref p0, .int 4000]) (n := 4) (Nat.le_of_ble_eq_true rfl)
  rw [lg_entry_eq]
  generalize (lg_sl ([.ref p0, .int 4000]) ++ List.replicate (4 - (lg_sl ([.ref p0, .int 4000])).length) Slot.unset).toArray = ls at hl ⊢
  have hl : lv_has ls 4 [(0, .ref p0), (1, .int 4000)] := hl
  refine lv_aload_n hx hb dX0_become_0 rfl (lv_at hl 0 rfl) ?_
  refine lv_aload_n hx hb dX0_become_1 rfl (lv_at hl 0 rfl) ?_
  refine z_ciX (Xc := ([(p0, .inr (2, [.ref pa, .int 0])), (pa, .inl (tc 1, 16, .inr (.inl (fun _ => 0))))] : va_W)) (wr := ([] : va_W)) (rx := ([(p0, .inr (2, [.ref pa, .int 0])), (pa, .inl (tc 1, 16, .inr (.inl (fun _ => 0))))] : va_W)) [0, 1] [] rfl rfl rfl rfl (by decide) hI (va_runV (As := [.ref p0]) (rest := []) ⟨hx, hb, hml, hown, hts⟩ (x_X0_reach_0 l D tc z0 _ κ g _ p0 pa ) (cwV 1 hts gX0_become_X0_reach rfl rfl rfl (by decide +kernel) ⟨Nat.le_of_ble_eq_true rfl, Nat.le_of_ble_eq_true rfl⟩) (z_preV (Xc := ([(p0, .inr (2, [.ref pa, .int 0])), (pa, .inl (tc 1, 16, .inr (.inl (fun _ => 0))))] : va_W)) hK hE hI [0, 1] rfl rfl (z_recvX hK hI (i := 0) rfl rfl)) rfl rfl hl.1 rfl (lv_room (Nat.le_of_ble_eq_true rfl)) dX0_become_2 ⟨Nat.le_of_ble_eq_true rfl, Nat.le_of_ble_eq_true rfl⟩) (fun v1 u H locs hw hI => ?_)
  obtain ⟨rfl, rfl⟩ := hw
  have hI : zI D tc _ s.heap [(p0, .inr (2, [.ref pa, .int 0])), (pa, .inl (tc 1, 16, .inr (.inl (fun _ => 0))))] L κ g _ _ := hI
  refine lv_istore_n (lv' := [(2, .int 0), (0, .ref p0), (1, .int 4000)]) hx hb dX0_become_5 rfl hl (by decide) rfl (fun ls hl => ?_)
  refine lv_iconst (v := 0) hx hb dX0_become_6 (by decide) ?_
  refine lv_istore_n (lv' := [(3, .int 0), (2, .int 0), (0, .ref p0), (1, .int 4000)]) hx hb dX0_become_7 rfl hl (by decide) rfl (fun ls hl => ?_)
  refine lv_iload_n hx hb dX0_become_8 rfl (lv_at hl 0 rfl) ?_
  refine lv_iload_n hx hb dX0_become_9 rfl (lv_at hl 1 rfl) ?_
  refine lv_icmp_ge (tgt := 26) hx hb dX0_become_10 (by decide) (fun _ => ?_) (fun h9 => by first | exact absurd h9 (by decide) | exact absurd (by decide) h9)
  refine lv_aload_n hx hb dX0_become_26 rfl (lv_at hl 2 rfl) ?_
  refine z_getX (i := 0) (j := 0) hM hI rfl hinX0 rfl (by decide) (by decide +kernel) (fun _ h9 => h9) rfl dX0_become_27 ?_
  refine lv_iconst (v := 0) hx hb dX0_become_30 (by decide) ?_
  refine lv_iload_n hx hb dX0_become_31 rfl (lv_at hl 3 rfl) ?_
  refine lv_i2l hx hb dX0_become_32 rfl ?_
  refine lv_topl (fun v2 e3 => ?_)
  obtain rfl : v2 = 4000 := e3.trans (by decide +kernel)
  refine z_lastE (i := 1) hM hI rfl (vp_in_c 0 16 (by decide)) dX0_become_33 (fun H locs hI => ?_)
  have hI : zI D tc _ s.heap [(p0, .inr (2, [.ref pa, .int 0])), (pa, .inl (tc 1, 16, .inr (.inl (vp_updL (fun _ => 0) (0 : Int32).toNatClampNeg 4000))))] L κ g _ _ := hI
  refine lv_aload_n hx hb dX0_become_34 rfl (lv_at hl 2 rfl) ?_
  refine lv_iconst (v := 1) hx hb dX0_become_35 (by decide) ?_
  refine z_putX (i := 0) (j := 1) hM hI rfl hinX0 tyX0 tyX0_ok nmX0 rfl (by decide) (by decide +kernel) (fun _ h9 => h9) rfl rfl rfl rfl (Nat.le_of_ble_eq_true rfl) dX0_become_36 (fun H locs hI => ?_)
  have hI : zI D tc _ s.heap [(p0, .inr (2, [.ref pa, .int 1])), (pa, .inl (tc 1, 16, .inr (.inl (vp_updL (fun _ => 0) (0 : Int32).toNatClampNeg 4000))))] L κ g _ _ := hI
  refine lv_aload_n hx hb dX0_become_39 rfl (lv_at hl 2 rfl) ?_
  refine z_cvX (Xc := ([(p0, .inr (2, [.ref pa, .int 1])), (pa, .inl (tc 1, 16, .inr (.inl (vp_updL (fun _ => 0) (0 : Int32).toNatClampNeg 4000))))] : va_W)) (wr := ([] : va_W)) (rx := ([(p0, .inr (2, [.ref pa, .int 1])), (pa, .inl (tc 1, 16, .inr (.inl (vp_updL (fun _ => 0) (0 : Int32).toNatClampNeg 4000))))] : va_W)) [0, 1] [] rfl rfl rfl rfl (by decide) hI (va_runV (As := []) (rest := []) ⟨hx, hb, hml, hown, hts⟩ (x_X0_dropZeros_4000 l D tc z0 _ κ g _ p0 pa ) (cwV 0 hts gX0_become_X0_dropZeros rfl rfl rfl (by decide +kernel) ⟨Nat.le_of_ble_eq_true rfl, Nat.le_of_ble_eq_true rfl⟩) (z_preV (Xc := ([(p0, .inr (2, [.ref pa, .int 1])), (pa, .inl (tc 1, 16, .inr (.inl (vp_updL (fun _ => 0) (0 : Int32).toNatClampNeg 4000))))] : va_W)) hK hE hI [0, 1] rfl rfl (z_recvX hK hI (i := 0) rfl rfl)) rfl rfl hl.1 rfl (lv_room (Nat.le_of_ble_eq_true rfl)) dX0_become_40 ⟨Nat.le_of_ble_eq_true rfl, Nat.le_of_ble_eq_true rfl⟩) (fun u H locs hw hI => ?_)
  obtain rfl := hw
  have hI : zI D tc _ s.heap [(p0, .inr (2, [.ref pa, .int 1])), (pa, .inl (tc 1, 16, .inr (.inl (vp_updL (fun _ => 0) (0 : Int32).toNatClampNeg 4000))))] L κ g _ _ := hI
  exact W.vret hx hb hr (fun t ht hW => ⟨⟨(L, κ, g), rfl, rfl, z_end hK hI ht hW⟩, z_F hI ht⟩) (z_locs hI) dX0_become_43

set_option maxHeartbeats 4000000 in
set_option maxRecDepth 100000 in
theorem x_X0_dropZeros_20 (l : Launch) (D : va_G) (tc : Nat → ClassId) (z0 : Nat) (L : List Nat) (κ : Nat → Nat) (g : Nat → Nat → Value) (sz : Nat) (p0 : Nat) (pa : Nat)  : Met l yX0_dropZeros wsX0_dropZeros ({ frames := 0, cells := 0, slots := 0, locals := 0 }) (zPc D tc z0 [.ref p0] ([(p0, .inr (2, [.ref pa, .int 1])), (pa, .inl (tc 1, 16, .inr (.inl (vp_updL (fun _ => 0) (0 : Int32).toNatClampNeg 20))))] : va_W) (L, κ, g) sz) (va_Qv (fun (u : (zS)) => u = (L, κ, g)) (fun (u : (zS)) (t : State) => zB D tc (zA ([(p0, .inr (2, [.ref pa, .int 1])), (pa, .inl (tc 1, 16, .inr (.inl (vp_updL (fun _ => 0) (0 : Int32).toNatClampNeg 20))))] : va_W) L sz) ([(p0, .inr (2, [.ref pa, .int 1])), (pa, .inl (tc 1, 16, .inr (.inl (vp_updL (fun _ => 0) (0 : Int32).toNatClampNeg 20))))] : va_W) u t) (zA ([(p0, .inr (2, [.ref pa, .int 1])), (pa, .inl (tc 1, 16, .inr (.inl (vp_updL (fun _ => 0) (0 : Int32).toNatClampNeg 20))))] : va_W) L sz)) 0 0 (zA ([(p0, .inr (2, [.ref pa, .int 1])), (pa, .inl (tc 1, 16, .inr (.inl (vp_updL (fun _ => 0) (0 : Int32).toNatClampNeg 20))))] : va_W) L sz) := by
  refine Met.ofW (cc := cX0_dropZeros) (maxL := 1) (ret := none) (by decide) rfl ?_
  intro p e9 s m args below meth c s₁ B hml hv
  obtain ⟨rfl, rfl, hK, hE, hI⟩ := hv.opn
  have hx := B.exec
  have hb := B.bytes
  have hr := B.returns
  have hts := atoms_spec (ws := wsX0_dropZeros) B.pre
  have hown : s.vm.findClass RX0 = some m.cls := findClass_of_methodNamed B.named
  have hlocks := B.notSynchronized
  have hM : zM p s m c cX0_dropZeros _ wsX0_dropZeros RX0 D tc := ⟨hx, hb, hts, hown, hK⟩
  have hinX0 : ∀ w ∈ wsX00, w ∈ wsX0_dropZeros := by decide +kernel
  have hl := lv_entry ([.ref p0]) (n := 1) (Nat.le_of_ble_eq_true rfl)
  rw [lg_entry_eq]
  generalize (lg_sl ([.ref p0]) ++ List.replicate (1 - (lg_sl ([.ref p0])).length) Slot.unset).toArray = ls at hl ⊢
  have hl : lv_has ls 1 [(0, .ref p0)] := hl
  refine lv_aload_n hx hb dX0_dropZeros_0 rfl (lv_at hl 0 rfl) ?_
  refine z_getX (i := 0) (j := 1) hM hI rfl hinX0 rfl (by decide) (by decide +kernel) (fun _ h9 => h9) rfl dX0_dropZeros_1 ?_
  refine lv_if_le (tgt := 36) hx hb dX0_dropZeros_4 (by decide) (fun h9 => by first | exact absurd h9 (by decide) | exact absurd (by decide) h9) (fun _ => ?_)
  refine lv_aload_n hx hb dX0_dropZeros_7 rfl (lv_at hl 0 rfl) ?_
  refine z_getX (i := 0) (j := 0) hM hI rfl hinX0 rfl (by decide) (by decide +kernel) (fun _ h9 => h9) rfl dX0_dropZeros_8 ?_
  refine lv_aload_n hx hb dX0_dropZeros_11 rfl (lv_at hl 0 rfl) ?_
  refine z_getX (i := 0) (j := 1) hM hI rfl hinX0 rfl (by decide) (by decide +kernel) (fun _ h9 => h9) rfl dX0_dropZeros_12 ?_
  refine lv_iconst (v := 1) hx hb dX0_dropZeros_15 (by decide) ?_
  refine lv_isub hx hb dX0_dropZeros_16 ?_
  refine lv_topi (fun v1 e2 => ?_)
  obtain rfl : v1 = 0 := e2.trans (by decide +kernel)
  refine z_laldE (i := 1) (v := 20) hM hI rfl (vp_in_c 0 16 (by decide)) (by first | rfl | decide +kernel) dX0_dropZeros_17 ?_
  refine lv_lconst (v := 0) hx hb dX0_dropZeros_18 (by decide) ?_
  refine W.lcmp hx hb dX0_dropZeros_19 ?_
  refine lv_topi (fun v3 e4 => ?_)
  obtain rfl : v3 = 1 := e4.trans (by decide +kernel)
  refine lv_if_ne (tgt := 36) hx hb dX0_dropZeros_20 (by decide) (fun _ => ?_) (fun h9 => by first | exact absurd h9 (by decide) | exact absurd (by decide) h9)
  exact W.vret hx hb hr (fun t ht hW => ⟨⟨(L, κ, g), rfl, rfl, z_end hK hI ht hW⟩, z_F hI ht⟩) (z_locs hI) dX0_dropZeros_36

set_option maxHeartbeats 4000000 in
set_option maxRecDepth 100000 in
theorem x_X0_become_20 (l : Launch) (D : va_G) (tc : Nat → ClassId) (z0 : Nat) (L : List Nat) (κ : Nat → Nat) (g : Nat → Nat → Value) (sz : Nat) (p0 : Nat) (pa : Nat)  : Met l yX0_become wsX0_become ({ frames := 2, cells := 0, slots := 0, locals := 43 }) (zPc D tc z0 [.ref p0, .int 20] ([(p0, .inr (2, [.ref pa, .int 0])), (pa, .inl (tc 1, 16, .inr (.inl (fun _ => 0))))] : va_W) (L, κ, g) sz) (va_Qv (fun (u : (zS)) => u = (L, κ, g)) (fun (u : (zS)) (t : State) => zB D tc (zA ([(p0, .inr (2, [.ref pa, .int 0])), (pa, .inl (tc 1, 16, .inr (.inl (fun _ => 0))))] : va_W) L sz) ([(p0, .inr (2, [.ref pa, .int 1])), (pa, .inl (tc 1, 16, .inr (.inl (vp_updL (fun _ => 0) (0 : Int32).toNatClampNeg 20))))] : va_W) u t) (zA ([(p0, .inr (2, [.ref pa, .int 0])), (pa, .inl (tc 1, 16, .inr (.inl (fun _ => 0))))] : va_W) L sz)) 0 0 (zA ([(p0, .inr (2, [.ref pa, .int 0])), (pa, .inl (tc 1, 16, .inr (.inl (fun _ => 0))))] : va_W) L sz) := by
  refine Met.ofW (cc := cX0_become) (maxL := 4) (ret := none) (by decide) rfl ?_
  intro p e9 s m args below meth c s₁ B hml hv
  obtain ⟨rfl, rfl, hK, hE, hI⟩ := hv.opn
  have hx := B.exec
  have hb := B.bytes
  have hr := B.returns
  have hts := atoms_spec (ws := wsX0_become) B.pre
  have hown : s.vm.findClass RX0 = some m.cls := findClass_of_methodNamed B.named
  have hlocks := B.notSynchronized
  have hM : zM p s m c cX0_become _ wsX0_become RX0 D tc := ⟨hx, hb, hts, hown, hK⟩
  have hinX0 : ∀ w ∈ wsX00, w ∈ wsX0_become := by decide +kernel
  have hl := lv_entry ([.ref p0, .int 20]) (n := 4) (Nat.le_of_ble_eq_true rfl)
  rw [lg_entry_eq]
  generalize (lg_sl ([.ref p0, .int 20]) ++ List.replicate (4 - (lg_sl ([.ref p0, .int 20])).length) Slot.unset).toArray = ls at hl ⊢
  have hl : lv_has ls 4 [(0, .ref p0), (1, .int 20)] := hl
  refine lv_aload_n hx hb dX0_become_0 rfl (lv_at hl 0 rfl) ?_
  refine lv_aload_n hx hb dX0_become_1 rfl (lv_at hl 0 rfl) ?_
  refine z_ciX (Xc := ([(p0, .inr (2, [.ref pa, .int 0])), (pa, .inl (tc 1, 16, .inr (.inl (fun _ => 0))))] : va_W)) (wr := ([] : va_W)) (rx := ([(p0, .inr (2, [.ref pa, .int 0])), (pa, .inl (tc 1, 16, .inr (.inl (fun _ => 0))))] : va_W)) [0, 1] [] rfl rfl rfl rfl (by decide) hI (va_runV (As := [.ref p0]) (rest := []) ⟨hx, hb, hml, hown, hts⟩ (x_X0_reach_0 l D tc z0 _ κ g _ p0 pa ) (cwV 1 hts gX0_become_X0_reach rfl rfl rfl (by decide +kernel) ⟨Nat.le_of_ble_eq_true rfl, Nat.le_of_ble_eq_true rfl⟩) (z_preV (Xc := ([(p0, .inr (2, [.ref pa, .int 0])), (pa, .inl (tc 1, 16, .inr (.inl (fun _ => 0))))] : va_W)) hK hE hI [0, 1] rfl rfl (z_recvX hK hI (i := 0) rfl rfl)) rfl rfl hl.1 rfl (lv_room (Nat.le_of_ble_eq_true rfl)) dX0_become_2 ⟨Nat.le_of_ble_eq_true rfl, Nat.le_of_ble_eq_true rfl⟩) (fun v1 u H locs hw hI => ?_)
  obtain ⟨rfl, rfl⟩ := hw
  have hI : zI D tc _ s.heap [(p0, .inr (2, [.ref pa, .int 0])), (pa, .inl (tc 1, 16, .inr (.inl (fun _ => 0))))] L κ g _ _ := hI
  refine lv_istore_n (lv' := [(2, .int 0), (0, .ref p0), (1, .int 20)]) hx hb dX0_become_5 rfl hl (by decide) rfl (fun ls hl => ?_)
  refine lv_iconst (v := 0) hx hb dX0_become_6 (by decide) ?_
  refine lv_istore_n (lv' := [(3, .int 0), (2, .int 0), (0, .ref p0), (1, .int 20)]) hx hb dX0_become_7 rfl hl (by decide) rfl (fun ls hl => ?_)
  refine lv_iload_n hx hb dX0_become_8 rfl (lv_at hl 0 rfl) ?_
  refine lv_iload_n hx hb dX0_become_9 rfl (lv_at hl 1 rfl) ?_
  refine lv_icmp_ge (tgt := 26) hx hb dX0_become_10 (by decide) (fun _ => ?_) (fun h9 => by first | exact absurd h9 (by decide) | exact absurd (by decide) h9)
  refine lv_aload_n hx hb dX0_become_26 rfl (lv_at hl 2 rfl) ?_
  refine z_getX (i := 0) (j := 0) hM hI rfl hinX0 rfl (by decide) (by decide +kernel) (fun _ h9 => h9) rfl dX0_become_27 ?_
  refine lv_iconst (v := 0) hx hb dX0_become_30 (by decide) ?_
  refine lv_iload_n hx hb dX0_become_31 rfl (lv_at hl 3 rfl) ?_
  refine lv_i2l hx hb dX0_become_32 rfl ?_
  refine lv_topl (fun v2 e3 => ?_)
  obtain rfl : v2 = 20 := e3.trans (by decide +kernel)
  refine z_lastE (i := 1) hM hI rfl (vp_in_c 0 16 (by decide)) dX0_become_33 (fun H locs hI => ?_)
  have hI : zI D tc _ s.heap [(p0, .inr (2, [.ref pa, .int 0])), (pa, .inl (tc 1, 16, .inr (.inl (vp_updL (fun _ => 0) (0 : Int32).toNatClampNeg 20))))] L κ g _ _ := hI
  refine lv_aload_n hx hb dX0_become_34 rfl (lv_at hl 2 rfl) ?_
  refine lv_iconst (v := 1) hx hb dX0_become_35 (by decide) ?_
  refine z_putX (i := 0) (j := 1) hM hI rfl hinX0 tyX0 tyX0_ok nmX0 rfl (by decide) (by decide +kernel) (fun _ h9 => h9) rfl rfl rfl rfl (Nat.le_of_ble_eq_true rfl) dX0_become_36 (fun H locs hI => ?_)
  have hI : zI D tc _ s.heap [(p0, .inr (2, [.ref pa, .int 1])), (pa, .inl (tc 1, 16, .inr (.inl (vp_updL (fun _ => 0) (0 : Int32).toNatClampNeg 20))))] L κ g _ _ := hI
  refine lv_aload_n hx hb dX0_become_39 rfl (lv_at hl 2 rfl) ?_
  refine z_cvX (Xc := ([(p0, .inr (2, [.ref pa, .int 1])), (pa, .inl (tc 1, 16, .inr (.inl (vp_updL (fun _ => 0) (0 : Int32).toNatClampNeg 20))))] : va_W)) (wr := ([] : va_W)) (rx := ([(p0, .inr (2, [.ref pa, .int 1])), (pa, .inl (tc 1, 16, .inr (.inl (vp_updL (fun _ => 0) (0 : Int32).toNatClampNeg 20))))] : va_W)) [0, 1] [] rfl rfl rfl rfl (by decide) hI (va_runV (As := []) (rest := []) ⟨hx, hb, hml, hown, hts⟩ (x_X0_dropZeros_20 l D tc z0 _ κ g _ p0 pa ) (cwV 0 hts gX0_become_X0_dropZeros rfl rfl rfl (by decide +kernel) ⟨Nat.le_of_ble_eq_true rfl, Nat.le_of_ble_eq_true rfl⟩) (z_preV (Xc := ([(p0, .inr (2, [.ref pa, .int 1])), (pa, .inl (tc 1, 16, .inr (.inl (vp_updL (fun _ => 0) (0 : Int32).toNatClampNeg 20))))] : va_W)) hK hE hI [0, 1] rfl rfl (z_recvX hK hI (i := 0) rfl rfl)) rfl rfl hl.1 rfl (lv_room (Nat.le_of_ble_eq_true rfl)) dX0_become_40 ⟨Nat.le_of_ble_eq_true rfl, Nat.le_of_ble_eq_true rfl⟩) (fun u H locs hw hI => ?_)
  obtain rfl := hw
  have hI : zI D tc _ s.heap [(p0, .inr (2, [.ref pa, .int 1])), (pa, .inl (tc 1, 16, .inr (.inl (vp_updL (fun _ => 0) (0 : Int32).toNatClampNeg 20))))] L κ g _ _ := hI
  exact W.vret hx hb hr (fun t ht hW => ⟨⟨(L, κ, g), rfl, rfl, z_end hK hI ht hW⟩, z_F hI ht⟩) (z_locs hI) dX0_become_43

set_option maxHeartbeats 4000000 in
set_option maxRecDepth 100000 in
theorem x_X0_becomeQuotient (l : Launch) (D : va_G) (tc : Nat → ClassId) (z0 : Nat) (L : List Nat) (κ : Nat → Nat) (g : Nat → Nat → Value) (sz : Nat) (p0 : Nat) (pa : Nat) (p1 : Nat) (pb : Nat)  : Met l yX0_becomeQuotient wsX0_becomeQuotient ({ frames := 2, cells := 0, slots := 0, locals := 43 }) (zPc D tc z0 [.ref p0, .ref p1, .int 200] ([(p0, .inr (2, [.ref pa, .int 0])), (pa, .inl (tc 1, 16, .inr (.inl (fun _ => 0)))), (p1, .inr (2, [.ref pb, .int 1])), (pb, .inl (tc 1, 16, .inr (.inl (vp_updL (fun _ => 0) (0 : Int32).toNatClampNeg 4000))))] : va_W) (L, κ, g) sz) (va_Qv (fun (u : (zS)) => u = (L, κ, g)) (fun (u : (zS)) (t : State) => zB D tc (zA ([(p0, .inr (2, [.ref pa, .int 0])), (pa, .inl (tc 1, 16, .inr (.inl (fun _ => 0)))), (p1, .inr (2, [.ref pb, .int 1])), (pb, .inl (tc 1, 16, .inr (.inl (vp_updL (fun _ => 0) (0 : Int32).toNatClampNeg 4000))))] : va_W) L sz) ([(p0, .inr (2, [.ref pa, .int 1])), (pa, .inl (tc 1, 16, .inr (.inl (vp_updL (fun _ => 0) (0 : Int32).toNatClampNeg 20)))), (p1, .inr (2, [.ref pb, .int 1])), (pb, .inl (tc 1, 16, .inr (.inl (vp_updL (fun _ => 0) (0 : Int32).toNatClampNeg 4000))))] : va_W) u t) (zA ([(p0, .inr (2, [.ref pa, .int 0])), (pa, .inl (tc 1, 16, .inr (.inl (fun _ => 0)))), (p1, .inr (2, [.ref pb, .int 1])), (pb, .inl (tc 1, 16, .inr (.inl (vp_updL (fun _ => 0) (0 : Int32).toNatClampNeg 4000))))] : va_W) L sz)) 0 0 (zA ([(p0, .inr (2, [.ref pa, .int 0])), (pa, .inl (tc 1, 16, .inr (.inl (fun _ => 0)))), (p1, .inr (2, [.ref pb, .int 1])), (pb, .inl (tc 1, 16, .inr (.inl (vp_updL (fun _ => 0) (0 : Int32).toNatClampNeg 4000))))] : va_W) L sz) := by
  refine Met.ofW (cc := cX0_becomeQuotient) (maxL := 6) (ret := none) (by decide) rfl ?_
  intro p e9 s m args below meth c s₁ B hml hv
  obtain ⟨rfl, rfl, hK, hE, hI⟩ := hv.opn
  have hx := B.exec
  have hb := B.bytes
  have hr := B.returns
  have hts := atoms_spec (ws := wsX0_becomeQuotient) B.pre
  have hown : s.vm.findClass RX0 = some m.cls := findClass_of_methodNamed B.named
  have hlocks := B.notSynchronized
  have hM : zM p s m c cX0_becomeQuotient _ wsX0_becomeQuotient RX0 D tc := ⟨hx, hb, hts, hown, hK⟩
  have hinX0 : ∀ w ∈ wsX00, w ∈ wsX0_becomeQuotient := by decide +kernel
  have hl := lv_entry ([.ref p0, .ref p1, .int 200]) (n := 6) (Nat.le_of_ble_eq_true rfl)
  rw [lg_entry_eq]
  generalize (lg_sl ([.ref p0, .ref p1, .int 200]) ++ List.replicate (6 - (lg_sl ([.ref p0, .ref p1, .int 200])).length) Slot.unset).toArray = ls at hl ⊢
  have hl : lv_has ls 6 [(0, .ref p0), (1, .ref p1), (2, .int 200)] := hl
  refine lv_iload_n hx hb dX0_becomeQuotient_0 rfl (lv_at hl 2 rfl) ?_
  refine lv_iconst (v := 1) hx hb dX0_becomeQuotient_1 (by decide) ?_
  refine lv_icmp_ge (tgt := 6) hx hb dX0_becomeQuotient_2 (by decide) (fun _ => ?_) (fun h9 => by first | exact absurd h9 (by decide) | exact absurd (by decide) h9)
  refine lv_aload_n hx hb dX0_becomeQuotient_6 rfl (lv_at hl 0 rfl) ?_
  refine lv_aload_n hx hb dX0_becomeQuotient_7 rfl (lv_at hl 0 rfl) ?_
  refine lv_aload_n hx hb dX0_becomeQuotient_8 rfl (lv_at hl 1 rfl) ?_
  refine z_ciX (Xc := ([(p0, .inr (2, [.ref pa, .int 0])), (pa, .inl (tc 1, 16, .inr (.inl (fun _ => 0)))), (p1, .inr (2, [.ref pb, .int 1])), (pb, .inl (tc 1, 16, .inr (.inl (vp_updL (fun _ => 0) (0 : Int32).toNatClampNeg 4000))))] : va_W)) (wr := ([] : va_W)) (rx := ([(p0, .inr (2, [.ref pa, .int 0])), (pa, .inl (tc 1, 16, .inr (.inl (fun _ => 0)))), (p1, .inr (2, [.ref pb, .int 1])), (pb, .inl (tc 1, 16, .inr (.inl (vp_updL (fun _ => 0) (0 : Int32).toNatClampNeg 4000))))] : va_W)) [0, 1, 2, 3] [] rfl rfl rfl rfl (by decide) hI (va_runV (As := [.ref p1]) (rest := [.ref p0]) ⟨hx, hb, hml, hown, hts⟩ (x_X0_reach_1 l D tc z0 _ κ g _ p0 pa p1 pb ) (cwV 1 hts gX0_becomeQuotient_X0_reach rfl rfl rfl (by decide +kernel) ⟨Nat.le_of_ble_eq_true rfl, Nat.le_of_ble_eq_true rfl⟩) (z_preV (Xc := ([(p0, .inr (2, [.ref pa, .int 0])), (pa, .inl (tc 1, 16, .inr (.inl (fun _ => 0)))), (p1, .inr (2, [.ref pb, .int 1])), (pb, .inl (tc 1, 16, .inr (.inl (vp_updL (fun _ => 0) (0 : Int32).toNatClampNeg 4000))))] : va_W)) hK hE hI [0, 1, 2, 3] rfl rfl (z_recvX hK hI (i := 0) rfl rfl)) rfl rfl hl.1 rfl (lv_room (Nat.le_of_ble_eq_true rfl)) dX0_becomeQuotient_9 ⟨Nat.le_of_ble_eq_true rfl, Nat.le_of_ble_eq_true rfl⟩) (fun v1 u H locs hw hI => ?_)
  obtain ⟨rfl, rfl⟩ := hw
  have hI : zI D tc _ s.heap [(p0, .inr (2, [.ref pa, .int 0])), (pa, .inl (tc 1, 16, .inr (.inl (fun _ => 0)))), (p1, .inr (2, [.ref pb, .int 1])), (pb, .inl (tc 1, 16, .inr (.inl (vp_updL (fun _ => 0) (0 : Int32).toNatClampNeg 4000))))] L κ g _ _ := hI
  refine z_putX (i := 0) (j := 1) hM hI rfl hinX0 tyX0 tyX0_ok nmX0 rfl (by decide) (by decide +kernel) (fun _ h9 => h9) rfl rfl rfl rfl (Nat.le_of_ble_eq_true rfl) dX0_becomeQuotient_12 (fun H locs hI => ?_)
  have hI : zI D tc _ s.heap [(p0, .inr (2, [.ref pa, .int 1])), (pa, .inl (tc 1, 16, .inr (.inl (fun _ => 0)))), (p1, .inr (2, [.ref pb, .int 1])), (pb, .inl (tc 1, 16, .inr (.inl (vp_updL (fun _ => 0) (0 : Int32).toNatClampNeg 4000))))] L κ g _ _ := hI
  refine lv_lconst (v := 0) hx hb dX0_becomeQuotient_15 (by decide) ?_
  refine lv_lstore_n (lv' := [(3, .long 0), (0, .ref p0), (1, .ref p1), (2, .int 200)]) hx hb dX0_becomeQuotient_16 rfl hl (by decide) rfl (fun ls hl => ?_)
  refine lv_aload_n hx hb dX0_becomeQuotient_17 rfl (lv_at hl 1 rfl) ?_
  refine z_getX (i := 0) (j := 1) hM hI rfl hinX0 rfl (by decide) (by decide +kernel) (fun _ h9 => h9) rfl dX0_becomeQuotient_18 ?_
  refine lv_iconst (v := 1) hx hb dX0_becomeQuotient_21 (by decide) ?_
  refine lv_isub hx hb dX0_becomeQuotient_22 ?_
  refine lv_topi (fun v2 e3 => ?_)
  obtain rfl : v2 = 0 := e3.trans (by decide +kernel)
  refine lv_istore (lv' := [(5, .int 0), (3, .long 0), (0, .ref p0), (1, .ref p1), (2, .int 200)]) hx hb dX0_becomeQuotient_23 hl (by decide) rfl (fun ls hl => ?_)
  refine lv_iload hx hb dX0_becomeQuotient_25 (lv_at hl 0 rfl) ?_
  refine lv_if_lt (tgt := 65) hx hb dX0_becomeQuotient_27 (by decide) (fun h9 => by first | exact absurd h9 (by decide) | exact absurd (by decide) h9) (fun _ => ?_)
  refine lv_lload_n hx hb dX0_becomeQuotient_30 rfl (lv_at hl 1 rfl) ?_
  refine lv_bipush (v := 32) hx hb dX0_becomeQuotient_31 (by decide) ?_
  refine lv_lshl hx hb dX0_becomeQuotient_33 rfl ?_
  refine lv_topl (fun v4 e5 => ?_)
  obtain rfl : v4 = 0 := e5.trans (by decide +kernel)
  refine lv_aload_n hx hb dX0_becomeQuotient_34 rfl (lv_at hl 3 rfl) ?_
  refine z_getX (i := 2) (j := 0) hM hI rfl hinX0 rfl (by decide) (by decide +kernel) (fun _ h9 => h9) rfl dX0_becomeQuotient_35 ?_
  refine lv_iload hx hb dX0_becomeQuotient_38 (lv_at hl 0 rfl) ?_
  refine z_laldE (i := 3) (v := 4000) hM hI rfl (vp_in_c 0 16 (by decide)) (by first | rfl | decide +kernel) dX0_becomeQuotient_40 ?_
  refine lv_ladd hx hb dX0_becomeQuotient_41 ?_
  refine lv_topl (fun v6 e7 => ?_)
  obtain rfl : v6 = 4000 := e7.trans (by decide +kernel)
  refine lv_lstore_n (lv' := [(3, .long 4000), (5, .int 0), (0, .ref p0), (1, .ref p1), (2, .int 200)]) hx hb dX0_becomeQuotient_42 rfl hl (by decide) rfl (fun ls hl => ?_)
  refine lv_aload_n hx hb dX0_becomeQuotient_43 rfl (lv_at hl 2 rfl) ?_
  refine z_getX (i := 0) (j := 0) hM hI rfl hinX0 rfl (by decide) (by decide +kernel) (fun _ h9 => h9) rfl dX0_becomeQuotient_44 ?_
  refine lv_iload hx hb dX0_becomeQuotient_47 (lv_at hl 1 rfl) ?_
  refine lv_lload_n hx hb dX0_becomeQuotient_49 rfl (lv_at hl 0 rfl) ?_
  refine lv_iload_n hx hb dX0_becomeQuotient_50 rfl (lv_at hl 4 rfl) ?_
  refine lv_i2l hx hb dX0_becomeQuotient_51 rfl ?_
  refine lv_topl (fun v8 e9 => ?_)
  obtain rfl : v8 = 200 := e9.trans (by decide +kernel)
  refine lv_ldiv hx hb dX0_becomeQuotient_52 (by decide) ?_
  refine lv_topl (fun v10 e11 => ?_)
  obtain rfl : v10 = 20 := e11.trans (by decide +kernel)
  refine z_lastE (i := 1) hM hI rfl (vp_in_c 0 16 (by decide)) dX0_becomeQuotient_53 (fun H locs hI => ?_)
  have hI : zI D tc _ s.heap [(p0, .inr (2, [.ref pa, .int 1])), (pa, .inl (tc 1, 16, .inr (.inl (vp_updL (fun _ => 0) (0 : Int32).toNatClampNeg 20)))), (p1, .inr (2, [.ref pb, .int 1])), (pb, .inl (tc 1, 16, .inr (.inl (vp_updL (fun _ => 0) (0 : Int32).toNatClampNeg 4000))))] L κ g _ _ := hI
  refine lv_lload_n hx hb dX0_becomeQuotient_54 rfl (lv_at hl 0 rfl) ?_
  refine lv_iload_n hx hb dX0_becomeQuotient_55 rfl (lv_at hl 4 rfl) ?_
  refine lv_i2l hx hb dX0_becomeQuotient_56 rfl ?_
  refine lv_topl (fun v12 e13 => ?_)
  obtain rfl : v12 = 200 := e13.trans (by decide +kernel)
  refine lv_lrem hx hb dX0_becomeQuotient_57 (by decide) ?_
  refine lv_topl (fun v14 e15 => ?_)
  obtain rfl : v14 = 0 := e15.trans (by decide +kernel)
  refine lv_lstore_n (lv' := [(3, .long 0), (5, .int 0), (0, .ref p0), (1, .ref p1), (2, .int 200)]) hx hb dX0_becomeQuotient_58 rfl hl (by decide) rfl (fun ls hl => ?_)
  refine lv_iinc (v := (-1)) (lv' := [(5, .int ((-1))), (3, .long 0), (0, .ref p0), (1, .ref p1), (2, .int 200)]) hx hb dX0_becomeQuotient_59 hl (k := 1) rfl (by decide) (by decide) rfl (fun ls hl => ?_)
  refine lv_goto (tgt := 25) hx hb dX0_becomeQuotient_62 (by decide) ?_
  refine lv_iload hx hb dX0_becomeQuotient_25 (lv_at hl 0 rfl) ?_
  refine lv_if_lt (tgt := 65) hx hb dX0_becomeQuotient_27 (by decide) (fun _ => ?_) (fun h9 => by first | exact absurd h9 (by decide) | exact absurd (by decide) h9)
  refine lv_aload_n hx hb dX0_becomeQuotient_65 rfl (lv_at hl 2 rfl) ?_
  refine z_cvX (Xc := ([(p0, .inr (2, [.ref pa, .int 1])), (pa, .inl (tc 1, 16, .inr (.inl (vp_updL (fun _ => 0) (0 : Int32).toNatClampNeg 20))))] : va_W)) (wr := ([(p1, .inr (2, [.ref pb, .int 1])), (pb, .inl (tc 1, 16, .inr (.inl (vp_updL (fun _ => 0) (0 : Int32).toNatClampNeg 4000))))] : va_W)) (rx := ([(p0, .inr (2, [.ref pa, .int 1])), (pa, .inl (tc 1, 16, .inr (.inl (vp_updL (fun _ => 0) (0 : Int32).toNatClampNeg 20))))] : va_W)) [0, 1] [2, 3] rfl rfl rfl rfl (by decide) hI (va_runV (As := []) (rest := []) ⟨hx, hb, hml, hown, hts⟩ (x_X0_dropZeros_20 l D tc z0 _ κ g _ p0 pa ) (cwV 0 hts gX0_becomeQuotient_X0_dropZeros rfl rfl rfl (by decide +kernel) ⟨Nat.le_of_ble_eq_true rfl, Nat.le_of_ble_eq_true rfl⟩) (z_preV (Xc := ([(p0, .inr (2, [.ref pa, .int 1])), (pa, .inl (tc 1, 16, .inr (.inl (vp_updL (fun _ => 0) (0 : Int32).toNatClampNeg 20))))] : va_W)) hK hE hI [0, 1] rfl rfl (z_recvX hK hI (i := 0) rfl rfl)) rfl rfl hl.1 rfl (lv_room (Nat.le_of_ble_eq_true rfl)) dX0_becomeQuotient_66 ⟨Nat.le_of_ble_eq_true rfl, Nat.le_of_ble_eq_true rfl⟩) (fun u H locs hw hI => ?_)
  obtain rfl := hw
  have hI : zI D tc _ s.heap [(p1, .inr (2, [.ref pb, .int 1])), (pb, .inl (tc 1, 16, .inr (.inl (vp_updL (fun _ => 0) (0 : Int32).toNatClampNeg 4000)))), (p0, .inr (2, [.ref pa, .int 1])), (pa, .inl (tc 1, 16, .inr (.inl (vp_updL (fun _ => 0) (0 : Int32).toNatClampNeg 20))))] L κ g _ _ := hI
  have hI := z_part (X' := ([(p0, .inr (2, [.ref pa, .int 1])), (pa, .inl (tc 1, 16, .inr (.inl (vp_updL (fun _ => 0) (0 : Int32).toNatClampNeg 20)))), (p1, .inr (2, [.ref pb, .int 1])), (pb, .inl (tc 1, 16, .inr (.inl (vp_updL (fun _ => 0) (0 : Int32).toNatClampNeg 4000))))] : va_W)) [2, 3, 0, 1] rfl rfl hI
  exact W.vret hx hb hr (fun t ht hW => ⟨⟨(L, κ, g), rfl, rfl, z_end hK hI ht hW⟩, z_F hI ht⟩) (z_locs hI) dX0_becomeQuotient_69

set_option maxHeartbeats 4000000 in
set_option maxRecDepth 100000 in
theorem x_X1_init (l : Launch) (D : va_G) (tc : Nat → ClassId) (z0 : Nat) (L : List Nat) (κ : Nat → Nat) (g : Nat → Nat → Value) (sz : Nat) (p0 : Nat)  : Met l yX1_init wsX1_init ({ frames := 3, cells := 4, slots := 36, locals := 68 }) (zPc D tc z0 [.ref p0, .int 4000, .int 200] ([(p0, .inr (3, [.int 0, .null, .null]))] : va_W) (L, κ, g) sz) (va_Qv (fun (u : (Nat × Nat × Nat × Nat × zS)) => u.2.2.2.2 = (L, κ, g)) (fun (u : (Nat × Nat × Nat × Nat × zS)) (t : State) => zB D tc (zA ([(p0, .inr (3, [.int 0, .null, .null]))] : va_W) L sz) ([(p0, .inr (3, [.int 200, .ref u.1, .ref u.2.1])), (u.1, .inr (2, [.ref u.2.2.1, .int 1])), (u.2.1, .inr (2, [.ref u.2.2.2.1, .int 1])), (u.2.2.1, .inl (tc 1, 16, .inr (.inl (vp_updL (fun _ => 0) (0 : Int32).toNatClampNeg 4000)))), (u.2.2.2.1, .inl (tc 1, 16, .inr (.inl (vp_updL (fun _ => 0) (0 : Int32).toNatClampNeg 20))))] : va_W) u.2.2.2.2 t) (zA ([(p0, .inr (3, [.int 0, .null, .null]))] : va_W) L sz)) 4 36 (zA ([(p0, .inr (3, [.int 0, .null, .null]))] : va_W) L sz) := by
  refine Met.ofW (cc := cX1_init) (maxL := 3) (ret := none) (by decide) rfl ?_
  intro p e9 s m args below meth c s₁ B hml hv
  obtain ⟨rfl, rfl, hK, hE, hI⟩ := hv.opn
  have hx := B.exec
  have hb := B.bytes
  have hr := B.returns
  have hts := atoms_spec (ws := wsX1_init) B.pre
  have hown : s.vm.findClass RX1 = some m.cls := findClass_of_methodNamed B.named
  have hlocks := B.notSynchronized
  have hin2 : meth.name = "<init>" := (name_of_methodNamed B.named B.method).1
  have hM : zM p s m c cX1_init _ wsX1_init RX1 D tc := ⟨hx, hb, hts, hown, hK⟩
  have hinX0 : ∀ w ∈ wsX00, w ∈ wsX1_init := by decide +kernel
  have hinX1 : ∀ w ∈ wsX10, w ∈ wsX1_init := by decide +kernel
  have hl := lv_entry ([.ref p0, .int 4000, .int 200]) (n := 3) (Nat.le_of_ble_eq_true rfl)
  rw [lg_entry_eq]
  generalize (lg_sl ([.ref p0, .int 4000, .int 200]) ++ List.replicate (3 - (lg_sl ([.ref p0, .int 4000, .int 200])).length) Slot.unset).toArray = ls at hl ⊢
  have hl : lv_has ls 3 [(0, .ref p0), (1, .int 4000), (2, .int 200)] := hl
  refine lv_aload_n hx hb dX1_init_0 rfl (lv_at hl 0 rfl) ?_
  refine W.objInit hx hb hown (hts (.methodLink RX1 1 objectInit) (by decide +kernel)) (hts (.instanceMethod objectInit) (by decide +kernel)) (hts (.code objectInit ⟨#[0xb1]⟩ 1 none) (by decide +kernel)) rfl (by rw [hml]; exact hl.1) rfl dX1_init_1 (Nat.le_of_ble_eq_true rfl) (Nat.le_of_ble_eq_true rfl) ?_
  refine W.eq (g2 := F0 m 4 ls []) rfl ?_
  refine lv_aload_n hx hb dX1_init_4 rfl (lv_at hl 0 rfl) ?_
  refine z_new (ci := 2) (fs := [.null, .int 0]) (C := RX0) (T := TX0) (N := 2) hM hI hinX0 tyX0 tyX0_ok (by decide +kernel) (by decide +kernel) (by decide +kernel) rfl (by decide +kernel) (Nat.le_of_ble_eq_true rfl) (Nat.le_of_ble_eq_true rfl) dX1_init_5 (fun q1 H hI => ?_)
  have hI : zI D tc _ s.heap [(p0, .inr (3, [.int 0, .null, .null])), (q1, .inr (2, [.null, .int 0]))] L κ g _ _ := hI
  refine lv_dup hx hb dX1_init_8 rfl ?_
  refine z_cvE (sel := fun u : Nat × zS => u.2) (rxf := fun u : Nat × zS => ([(q1, .inr (2, [.ref u.1, .int 0])), (u.1, .inl (tc 1, 16, .inr (.inl (fun _ => 0))))] : va_W)) (Xc := ([(q1, .inr (2, [.null, .int 0]))] : va_W)) (wr := ([(p0, .inr (3, [.int 0, .null, .null]))] : va_W)) [1] [0] rfl rfl rfl rfl (by decide) hI (va_runIN (As := []) (rest := [.ref q1, .ref p0]) ⟨hx, hb, hml, hown, hts⟩ (x_X0_init l D tc z0 _ κ g _ q1 ) ⟨va_cnB 0 hts gX1_init_X0_init_n9 rfl rfl rfl (hE.1 (.methodLinkNest RX1 9 yX0_init "Wattgovern") (by decide +kernel) rfl) (hts (.initialized yX0_init.cls) (by decide +kernel)) (by decide +kernel) ⟨Nat.le_of_ble_eq_true rfl, Nat.le_of_ble_eq_true rfl⟩, rfl, (hts (.instanceMethod yX0_init) (by decide +kernel))⟩ (z_pre (Xc := ([(q1, .inr (2, [.null, .int 0]))] : va_W)) hK hE hI [1] rfl rfl) rfl rfl hl.1 rfl (lv_room (Nat.le_of_ble_eq_true rfl)) dX1_init_9 ⟨Nat.le_of_ble_eq_true rfl, Nat.le_of_ble_eq_true rfl⟩) (fun u H locs hw hI => ?_)
  obtain ⟨q2, u⟩ := u
  dsimp only at hw hI
  obtain rfl := hw
  have hI : zI D tc _ s.heap [(p0, .inr (3, [.int 0, .null, .null])), (q1, .inr (2, [.ref q2, .int 0])), (q2, .inl (tc 1, 16, .inr (.inl (fun _ => 0))))] L κ g _ _ := hI
  refine z_putXF (i := 0) (j := 1) hM hI hin2 rfl hinX1 tyX1 tyX1_ok nmX1 rfl (by decide) (by decide +kernel) (fun _ h9 => h9) rfl rfl rfl rfl rfl (Nat.le_of_ble_eq_true rfl) dX1_init_12 (fun H locs hI => ?_)
  have hI : zI D tc _ s.heap [(p0, .inr (3, [.int 0, .ref q1, .null])), (q1, .inr (2, [.ref q2, .int 0])), (q2, .inl (tc 1, 16, .inr (.inl (fun _ => 0))))] L κ g _ _ := hI
  refine lv_aload_n hx hb dX1_init_15 rfl (lv_at hl 0 rfl) ?_
  refine z_new (ci := 2) (fs := [.null, .int 0]) (C := RX0) (T := TX0) (N := 2) hM hI hinX0 tyX0 tyX0_ok (by decide +kernel) (by decide +kernel) (by decide +kernel) rfl (by decide +kernel) (Nat.le_of_ble_eq_true rfl) (Nat.le_of_ble_eq_true rfl) dX1_init_16 (fun q3 H hI => ?_)
  have hI : zI D tc _ s.heap [(p0, .inr (3, [.int 0, .ref q1, .null])), (q1, .inr (2, [.ref q2, .int 0])), (q2, .inl (tc 1, 16, .inr (.inl (fun _ => 0)))), (q3, .inr (2, [.null, .int 0]))] L κ g _ _ := hI
  refine lv_dup hx hb dX1_init_19 rfl ?_
  refine z_cvE (sel := fun u : Nat × zS => u.2) (rxf := fun u : Nat × zS => ([(q3, .inr (2, [.ref u.1, .int 0])), (u.1, .inl (tc 1, 16, .inr (.inl (fun _ => 0))))] : va_W)) (Xc := ([(q3, .inr (2, [.null, .int 0]))] : va_W)) (wr := ([(p0, .inr (3, [.int 0, .ref q1, .null])), (q1, .inr (2, [.ref q2, .int 0])), (q2, .inl (tc 1, 16, .inr (.inl (fun _ => 0))))] : va_W)) [3] [0, 1, 2] rfl rfl rfl rfl (by decide) hI (va_runIN (As := []) (rest := [.ref q3, .ref p0]) ⟨hx, hb, hml, hown, hts⟩ (x_X0_init l D tc z0 _ κ g _ q3 ) ⟨va_cnB 0 hts gX1_init_X0_init_n9 rfl rfl rfl (hE.1 (.methodLinkNest RX1 9 yX0_init "Wattgovern") (by decide +kernel) rfl) (hts (.initialized yX0_init.cls) (by decide +kernel)) (by decide +kernel) ⟨Nat.le_of_ble_eq_true rfl, Nat.le_of_ble_eq_true rfl⟩, rfl, (hts (.instanceMethod yX0_init) (by decide +kernel))⟩ (z_pre (Xc := ([(q3, .inr (2, [.null, .int 0]))] : va_W)) hK hE hI [3] rfl rfl) rfl rfl hl.1 rfl (lv_room (Nat.le_of_ble_eq_true rfl)) dX1_init_20 ⟨Nat.le_of_ble_eq_true rfl, Nat.le_of_ble_eq_true rfl⟩) (fun u H locs hw hI => ?_)
  obtain ⟨q4, u⟩ := u
  dsimp only at hw hI
  obtain rfl := hw
  have hI : zI D tc _ s.heap [(p0, .inr (3, [.int 0, .ref q1, .null])), (q1, .inr (2, [.ref q2, .int 0])), (q2, .inl (tc 1, 16, .inr (.inl (fun _ => 0)))), (q3, .inr (2, [.ref q4, .int 0])), (q4, .inl (tc 1, 16, .inr (.inl (fun _ => 0))))] L κ g _ _ := hI
  refine z_putXF (i := 0) (j := 2) hM hI hin2 rfl hinX1 tyX1 tyX1_ok nmX1 rfl (by decide) (by decide +kernel) (fun _ h9 => h9) rfl rfl rfl rfl rfl (Nat.le_of_ble_eq_true rfl) dX1_init_23 (fun H locs hI => ?_)
  have hI : zI D tc _ s.heap [(p0, .inr (3, [.int 0, .ref q1, .ref q3])), (q1, .inr (2, [.ref q2, .int 0])), (q2, .inl (tc 1, 16, .inr (.inl (fun _ => 0)))), (q3, .inr (2, [.ref q4, .int 0])), (q4, .inl (tc 1, 16, .inr (.inl (fun _ => 0))))] L κ g _ _ := hI
  refine lv_aload_n hx hb dX1_init_26 rfl (lv_at hl 0 rfl) ?_
  refine lv_iload_n hx hb dX1_init_27 rfl (lv_at hl 2 rfl) ?_
  refine z_putXF (i := 0) (j := 0) hM hI hin2 rfl hinX1 tyX1 tyX1_ok nmX1 rfl (by decide) (by decide +kernel) (fun _ h9 => h9) rfl rfl rfl rfl rfl (Nat.le_of_ble_eq_true rfl) dX1_init_28 (fun H locs hI => ?_)
  have hI : zI D tc _ s.heap [(p0, .inr (3, [.int 200, .ref q1, .ref q3])), (q1, .inr (2, [.ref q2, .int 0])), (q2, .inl (tc 1, 16, .inr (.inl (fun _ => 0)))), (q3, .inr (2, [.ref q4, .int 0])), (q4, .inl (tc 1, 16, .inr (.inl (fun _ => 0))))] L κ g _ _ := hI
  refine lv_aload_n hx hb dX1_init_31 rfl (lv_at hl 0 rfl) ?_
  refine z_getX (i := 0) (j := 1) hM hI rfl hinX1 rfl (by decide) (by decide +kernel) (fun _ h9 => h9) rfl dX1_init_32 ?_
  refine lv_iload_n hx hb dX1_init_35 rfl (lv_at hl 1 rfl) ?_
  refine z_cvX (Xc := ([(q1, .inr (2, [.ref q2, .int 0])), (q2, .inl (tc 1, 16, .inr (.inl (fun _ => 0))))] : va_W)) (wr := ([(p0, .inr (3, [.int 200, .ref q1, .ref q3])), (q3, .inr (2, [.ref q4, .int 0])), (q4, .inl (tc 1, 16, .inr (.inl (fun _ => 0))))] : va_W)) (rx := ([(q1, .inr (2, [.ref q2, .int 1])), (q2, .inl (tc 1, 16, .inr (.inl (vp_updL (fun _ => 0) (0 : Int32).toNatClampNeg 4000))))] : va_W)) [1, 2] [0, 3, 4] rfl rfl rfl rfl (by decide) hI (va_runV (As := [.int 4000]) (rest := []) ⟨hx, hb, hml, hown, hts⟩ (x_X0_become_4000 l D tc z0 _ κ g _ q1 q2 ) (cwV 1 hts gX1_init_X0_become rfl rfl rfl (by decide +kernel) ⟨Nat.le_of_ble_eq_true rfl, Nat.le_of_ble_eq_true rfl⟩) (z_preV (Xc := ([(q1, .inr (2, [.ref q2, .int 0])), (q2, .inl (tc 1, 16, .inr (.inl (fun _ => 0))))] : va_W)) hK hE hI [1, 2] rfl rfl (z_recvX hK hI (i := 1) rfl rfl)) rfl rfl hl.1 rfl (lv_room (Nat.le_of_ble_eq_true rfl)) dX1_init_36 ⟨Nat.le_of_ble_eq_true rfl, Nat.le_of_ble_eq_true rfl⟩) (fun u H locs hw hI => ?_)
  obtain rfl := hw
  have hI : zI D tc _ s.heap [(p0, .inr (3, [.int 200, .ref q1, .ref q3])), (q3, .inr (2, [.ref q4, .int 0])), (q4, .inl (tc 1, 16, .inr (.inl (fun _ => 0)))), (q1, .inr (2, [.ref q2, .int 1])), (q2, .inl (tc 1, 16, .inr (.inl (vp_updL (fun _ => 0) (0 : Int32).toNatClampNeg 4000))))] L κ g _ _ := hI
  refine lv_aload_n hx hb dX1_init_39 rfl (lv_at hl 0 rfl) ?_
  refine z_getX (i := 0) (j := 2) hM hI rfl hinX1 rfl (by decide) (by decide +kernel) (fun _ h9 => h9) rfl dX1_init_40 ?_
  refine lv_aload_n hx hb dX1_init_43 rfl (lv_at hl 0 rfl) ?_
  refine z_getX (i := 0) (j := 1) hM hI rfl hinX1 rfl (by decide) (by decide +kernel) (fun _ h9 => h9) rfl dX1_init_44 ?_
  refine lv_iload_n hx hb dX1_init_47 rfl (lv_at hl 2 rfl) ?_
  refine z_cvX (Xc := ([(q3, .inr (2, [.ref q4, .int 0])), (q4, .inl (tc 1, 16, .inr (.inl (fun _ => 0)))), (q1, .inr (2, [.ref q2, .int 1])), (q2, .inl (tc 1, 16, .inr (.inl (vp_updL (fun _ => 0) (0 : Int32).toNatClampNeg 4000))))] : va_W)) (wr := ([(p0, .inr (3, [.int 200, .ref q1, .ref q3]))] : va_W)) (rx := ([(q3, .inr (2, [.ref q4, .int 1])), (q4, .inl (tc 1, 16, .inr (.inl (vp_updL (fun _ => 0) (0 : Int32).toNatClampNeg 20)))), (q1, .inr (2, [.ref q2, .int 1])), (q2, .inl (tc 1, 16, .inr (.inl (vp_updL (fun _ => 0) (0 : Int32).toNatClampNeg 4000))))] : va_W)) [1, 2, 3, 4] [0] rfl rfl rfl rfl (by decide) hI (va_runV (As := [.ref q1, .int 200]) (rest := []) ⟨hx, hb, hml, hown, hts⟩ (x_X0_becomeQuotient l D tc z0 _ κ g _ q3 q4 q1 q2 ) (cwV 2 hts gX1_init_X0_becomeQuotient rfl rfl rfl (by decide +kernel) ⟨Nat.le_of_ble_eq_true rfl, Nat.le_of_ble_eq_true rfl⟩) (z_preV (Xc := ([(q3, .inr (2, [.ref q4, .int 0])), (q4, .inl (tc 1, 16, .inr (.inl (fun _ => 0)))), (q1, .inr (2, [.ref q2, .int 1])), (q2, .inl (tc 1, 16, .inr (.inl (vp_updL (fun _ => 0) (0 : Int32).toNatClampNeg 4000))))] : va_W)) hK hE hI [1, 2, 3, 4] rfl rfl (z_recvX hK hI (i := 1) rfl rfl)) rfl rfl hl.1 rfl (lv_room (Nat.le_of_ble_eq_true rfl)) dX1_init_48 ⟨Nat.le_of_ble_eq_true rfl, Nat.le_of_ble_eq_true rfl⟩) (fun u H locs hw hI => ?_)
  obtain rfl := hw
  have hI : zI D tc _ s.heap [(p0, .inr (3, [.int 200, .ref q1, .ref q3])), (q3, .inr (2, [.ref q4, .int 1])), (q4, .inl (tc 1, 16, .inr (.inl (vp_updL (fun _ => 0) (0 : Int32).toNatClampNeg 20)))), (q1, .inr (2, [.ref q2, .int 1])), (q2, .inl (tc 1, 16, .inr (.inl (vp_updL (fun _ => 0) (0 : Int32).toNatClampNeg 4000))))] L κ g _ _ := hI
  have hI := z_part (X' := ([(p0, .inr (3, [.int 200, .ref q1, .ref q3])), (q1, .inr (2, [.ref q2, .int 1])), (q3, .inr (2, [.ref q4, .int 1])), (q2, .inl (tc 1, 16, .inr (.inl (vp_updL (fun _ => 0) (0 : Int32).toNatClampNeg 4000)))), (q4, .inl (tc 1, 16, .inr (.inl (vp_updL (fun _ => 0) (0 : Int32).toNatClampNeg 20))))] : va_W)) [0, 3, 1, 4, 2] rfl rfl hI
  exact W.vret hx hb hr (fun t ht hW => ⟨⟨(q1, q3, q2, q4, (L, κ, g)), rfl, rfl, z_end hK hI ht hW⟩, z_F hI ht⟩) (z_locs hI) dX1_init_51

set_option maxHeartbeats 4000000 in
set_option maxRecDepth 100000 in
theorem x_X2_init (l : Launch) (D : va_G) (tc : Nat → ClassId) (z0 : Nat) (L : List Nat) (κ : Nat → Nat) (g : Nat → Nat → Value) (sz : Nat) (p0 : Nat)  : Met l yX2_init wsX2_init ({ frames := 4, cells := 7, slots := 57, locals := 90 }) (zPc D tc z0 [.ref p0] ([(p0, .inr (4, [.null, .null, .long 0, .int 0, .int 0]))] : va_W) (L, κ, g) sz) (va_Qv (fun (u : (Nat × Nat × Nat × Nat × Nat × Nat × Nat × zS)) => u.2.2.2.2.2.2.2 = (L, κ, g)) (fun (u : (Nat × Nat × Nat × Nat × Nat × Nat × Nat × zS)) (t : State) => zB D tc (zA ([(p0, .inr (4, [.null, .null, .long 0, .int 0, .int 0]))] : va_W) L sz) ([(p0, .inr (4, [.ref u.1, .ref u.2.1, .long 0, .int 0, .int 0])), (u.1, .inr (3, [.int 200, .ref u.2.2.1, .ref u.2.2.2.1])), (u.2.1, .inr (2, [.ref u.2.2.2.2.2.2.1, .int 1])), (u.2.2.1, .inr (2, [.ref u.2.2.2.2.1, .int 1])), (u.2.2.2.1, .inr (2, [.ref u.2.2.2.2.2.1, .int 1])), (u.2.2.2.2.1, .inl (tc 1, 16, .inr (.inl (vp_updL (fun _ => 0) (0 : Int32).toNatClampNeg 4000)))), (u.2.2.2.2.2.1, .inl (tc 1, 16, .inr (.inl (vp_updL (fun _ => 0) (0 : Int32).toNatClampNeg 20)))), (u.2.2.2.2.2.2.1, .inl (tc 1, 16, .inr (.inl (vp_updL (fun _ => 0) (0 : Int32).toNatClampNeg 20))))] : va_W) u.2.2.2.2.2.2.2 t) (zA ([(p0, .inr (4, [.null, .null, .long 0, .int 0, .int 0]))] : va_W) L sz)) 7 57 (zA ([(p0, .inr (4, [.null, .null, .long 0, .int 0, .int 0]))] : va_W) L sz) := by
  refine Met.ofW (cc := cX2_init) (maxL := 1) (ret := none) (by decide) rfl ?_
  intro p e9 s m args below meth c s₁ B hml hv
  obtain ⟨rfl, rfl, hK, hE, hI⟩ := hv.opn
  have hx := B.exec
  have hb := B.bytes
  have hr := B.returns
  have hts := atoms_spec (ws := wsX2_init) B.pre
  have hown : s.vm.findClass RX2 = some m.cls := findClass_of_methodNamed B.named
  have hlocks := B.notSynchronized
  have hin2 : meth.name = "<init>" := (name_of_methodNamed B.named B.method).1
  have hM : zM p s m c cX2_init _ wsX2_init RX2 D tc := ⟨hx, hb, hts, hown, hK⟩
  have hinX1 : ∀ w ∈ wsX10, w ∈ wsX2_init := by decide +kernel
  have hinX2 : ∀ w ∈ wsX20, w ∈ wsX2_init := by decide +kernel
  have hinX0 : ∀ w ∈ wsX00, w ∈ wsX2_init := by decide +kernel
  have hl := lv_entry ([.ref p0]) (n := 1) (Nat.le_of_ble_eq_true rfl)
  rw [lg_entry_eq]
  generalize (lg_sl ([.ref p0]) ++ List.replicate (1 - (lg_sl ([.ref p0])).length) Slot.unset).toArray = ls at hl ⊢
  have hl : lv_has ls 1 [(0, .ref p0)] := hl
  refine lv_aload_n hx hb dX2_init_0 rfl (lv_at hl 0 rfl) ?_
  refine W.objInit hx hb hown (hts (.methodLink RX2 3 objectInit) (by decide +kernel)) (hts (.instanceMethod objectInit) (by decide +kernel)) (hts (.code objectInit ⟨#[0xb1]⟩ 1 none) (by decide +kernel)) rfl (by rw [hml]; exact hl.1) rfl dX2_init_1 (Nat.le_of_ble_eq_true rfl) (Nat.le_of_ble_eq_true rfl) ?_
  refine W.eq (g2 := F0 m 4 ls []) rfl ?_
  refine lv_aload_n hx hb dX2_init_4 rfl (lv_at hl 0 rfl) ?_
  refine z_new (ci := 3) (fs := [.int 0, .null, .null]) (C := RX1) (T := TX1) (N := 3) hM hI hinX1 tyX1 tyX1_ok (by decide +kernel) (by decide +kernel) (by decide +kernel) rfl (by decide +kernel) (Nat.le_of_ble_eq_true rfl) (Nat.le_of_ble_eq_true rfl) dX2_init_5 (fun q1 H hI => ?_)
  have hI : zI D tc _ s.heap [(p0, .inr (4, [.null, .null, .long 0, .int 0, .int 0])), (q1, .inr (3, [.int 0, .null, .null]))] L κ g _ _ := hI
  refine lv_dup hx hb dX2_init_8 rfl ?_
  refine lv_sipush (v := 4000) hx hb dX2_init_9 (by decide) ?_
  refine lv_sipush (v := 200) hx hb dX2_init_12 (by decide) ?_
  refine z_cvE (sel := fun u : Nat × Nat × Nat × Nat × zS => u.2.2.2.2) (rxf := fun u : Nat × Nat × Nat × Nat × zS => ([(q1, .inr (3, [.int 200, .ref u.1, .ref u.2.1])), (u.1, .inr (2, [.ref u.2.2.1, .int 1])), (u.2.1, .inr (2, [.ref u.2.2.2.1, .int 1])), (u.2.2.1, .inl (tc 1, 16, .inr (.inl (vp_updL (fun _ => 0) (0 : Int32).toNatClampNeg 4000)))), (u.2.2.2.1, .inl (tc 1, 16, .inr (.inl (vp_updL (fun _ => 0) (0 : Int32).toNatClampNeg 20))))] : va_W)) (Xc := ([(q1, .inr (3, [.int 0, .null, .null]))] : va_W)) (wr := ([(p0, .inr (4, [.null, .null, .long 0, .int 0, .int 0]))] : va_W)) [1] [0] rfl rfl rfl rfl (by decide) hI (va_runI (As := [.int 4000, .int 200]) (rest := [.ref q1, .ref p0]) ⟨hx, hb, hml, hown, hts⟩ (x_X1_init l D tc z0 _ κ g _ q1 ) (cwI 2 hts gX2_init_X1_init rfl rfl rfl (hts (.initialized RX1) (by decide +kernel)) (hts (.methodLink RX2 11 yX1_init) (by decide +kernel)) (hts (.instanceMethod yX1_init) (by decide +kernel)) rfl (by decide +kernel) ⟨Nat.le_of_ble_eq_true rfl, Nat.le_of_ble_eq_true rfl⟩) (z_pre (Xc := ([(q1, .inr (3, [.int 0, .null, .null]))] : va_W)) hK hE hI [1] rfl rfl) rfl rfl hl.1 rfl (lv_room (Nat.le_of_ble_eq_true rfl)) dX2_init_15 ⟨Nat.le_of_ble_eq_true rfl, Nat.le_of_ble_eq_true rfl⟩) (fun u H locs hw hI => ?_)
  obtain ⟨q2, q3, q4, q5, u⟩ := u
  dsimp only at hw hI
  obtain rfl := hw
  have hI : zI D tc _ s.heap [(p0, .inr (4, [.null, .null, .long 0, .int 0, .int 0])), (q1, .inr (3, [.int 200, .ref q2, .ref q3])), (q2, .inr (2, [.ref q4, .int 1])), (q3, .inr (2, [.ref q5, .int 1])), (q4, .inl (tc 1, 16, .inr (.inl (vp_updL (fun _ => 0) (0 : Int32).toNatClampNeg 4000)))), (q5, .inl (tc 1, 16, .inr (.inl (vp_updL (fun _ => 0) (0 : Int32).toNatClampNeg 20))))] L κ g _ _ := hI
  refine z_putXF (i := 0) (j := 0) hM hI hin2 rfl hinX2 tyX2 tyX2_ok nmX2 rfl (by decide) (by decide +kernel) (fun _ h9 => h9) rfl rfl rfl rfl rfl (Nat.le_of_ble_eq_true rfl) dX2_init_18 (fun H locs hI => ?_)
  have hI : zI D tc _ s.heap [(p0, .inr (4, [.ref q1, .null, .long 0, .int 0, .int 0])), (q1, .inr (3, [.int 200, .ref q2, .ref q3])), (q2, .inr (2, [.ref q4, .int 1])), (q3, .inr (2, [.ref q5, .int 1])), (q4, .inl (tc 1, 16, .inr (.inl (vp_updL (fun _ => 0) (0 : Int32).toNatClampNeg 4000)))), (q5, .inl (tc 1, 16, .inr (.inl (vp_updL (fun _ => 0) (0 : Int32).toNatClampNeg 20))))] L κ g _ _ := hI
  refine lv_aload_n hx hb dX2_init_21 rfl (lv_at hl 0 rfl) ?_
  refine z_new (ci := 2) (fs := [.null, .int 0]) (C := RX0) (T := TX0) (N := 2) hM hI hinX0 tyX0 tyX0_ok (by decide +kernel) (by decide +kernel) (by decide +kernel) rfl (by decide +kernel) (Nat.le_of_ble_eq_true rfl) (Nat.le_of_ble_eq_true rfl) dX2_init_22 (fun q6 H hI => ?_)
  have hI : zI D tc _ s.heap [(p0, .inr (4, [.ref q1, .null, .long 0, .int 0, .int 0])), (q1, .inr (3, [.int 200, .ref q2, .ref q3])), (q2, .inr (2, [.ref q4, .int 1])), (q3, .inr (2, [.ref q5, .int 1])), (q4, .inl (tc 1, 16, .inr (.inl (vp_updL (fun _ => 0) (0 : Int32).toNatClampNeg 4000)))), (q5, .inl (tc 1, 16, .inr (.inl (vp_updL (fun _ => 0) (0 : Int32).toNatClampNeg 20)))), (q6, .inr (2, [.null, .int 0]))] L κ g _ _ := hI
  refine lv_dup hx hb dX2_init_25 rfl ?_
  refine z_cvE (sel := fun u : Nat × zS => u.2) (rxf := fun u : Nat × zS => ([(q6, .inr (2, [.ref u.1, .int 0])), (u.1, .inl (tc 1, 16, .inr (.inl (fun _ => 0))))] : va_W)) (Xc := ([(q6, .inr (2, [.null, .int 0]))] : va_W)) (wr := ([(p0, .inr (4, [.ref q1, .null, .long 0, .int 0, .int 0])), (q1, .inr (3, [.int 200, .ref q2, .ref q3])), (q2, .inr (2, [.ref q4, .int 1])), (q3, .inr (2, [.ref q5, .int 1])), (q4, .inl (tc 1, 16, .inr (.inl (vp_updL (fun _ => 0) (0 : Int32).toNatClampNeg 4000)))), (q5, .inl (tc 1, 16, .inr (.inl (vp_updL (fun _ => 0) (0 : Int32).toNatClampNeg 20))))] : va_W)) [6] [0, 1, 2, 3, 4, 5] rfl rfl rfl rfl (by decide) hI (va_runIN (As := []) (rest := [.ref q6, .ref p0]) ⟨hx, hb, hml, hown, hts⟩ (x_X0_init l D tc z0 _ κ g _ q6 ) ⟨va_cnB 0 hts gX2_init_X0_init_n22 rfl rfl rfl (hE.1 (.methodLinkNest RX2 22 yX0_init "Wattgovern") (by decide +kernel) rfl) (hts (.initialized yX0_init.cls) (by decide +kernel)) (by decide +kernel) ⟨Nat.le_of_ble_eq_true rfl, Nat.le_of_ble_eq_true rfl⟩, rfl, (hts (.instanceMethod yX0_init) (by decide +kernel))⟩ (z_pre (Xc := ([(q6, .inr (2, [.null, .int 0]))] : va_W)) hK hE hI [6] rfl rfl) rfl rfl hl.1 rfl (lv_room (Nat.le_of_ble_eq_true rfl)) dX2_init_26 ⟨Nat.le_of_ble_eq_true rfl, Nat.le_of_ble_eq_true rfl⟩) (fun u H locs hw hI => ?_)
  obtain ⟨q7, u⟩ := u
  dsimp only at hw hI
  obtain rfl := hw
  have hI : zI D tc _ s.heap [(p0, .inr (4, [.ref q1, .null, .long 0, .int 0, .int 0])), (q1, .inr (3, [.int 200, .ref q2, .ref q3])), (q2, .inr (2, [.ref q4, .int 1])), (q3, .inr (2, [.ref q5, .int 1])), (q4, .inl (tc 1, 16, .inr (.inl (vp_updL (fun _ => 0) (0 : Int32).toNatClampNeg 4000)))), (q5, .inl (tc 1, 16, .inr (.inl (vp_updL (fun _ => 0) (0 : Int32).toNatClampNeg 20)))), (q6, .inr (2, [.ref q7, .int 0])), (q7, .inl (tc 1, 16, .inr (.inl (fun _ => 0))))] L κ g _ _ := hI
  refine z_putXF (i := 0) (j := 1) hM hI hin2 rfl hinX2 tyX2 tyX2_ok nmX2 rfl (by decide) (by decide +kernel) (fun _ h9 => h9) rfl rfl rfl rfl rfl (Nat.le_of_ble_eq_true rfl) dX2_init_29 (fun H locs hI => ?_)
  have hI : zI D tc _ s.heap [(p0, .inr (4, [.ref q1, .ref q6, .long 0, .int 0, .int 0])), (q1, .inr (3, [.int 200, .ref q2, .ref q3])), (q2, .inr (2, [.ref q4, .int 1])), (q3, .inr (2, [.ref q5, .int 1])), (q4, .inl (tc 1, 16, .inr (.inl (vp_updL (fun _ => 0) (0 : Int32).toNatClampNeg 4000)))), (q5, .inl (tc 1, 16, .inr (.inl (vp_updL (fun _ => 0) (0 : Int32).toNatClampNeg 20)))), (q6, .inr (2, [.ref q7, .int 0])), (q7, .inl (tc 1, 16, .inr (.inl (fun _ => 0))))] L κ g _ _ := hI
  refine lv_aload_n hx hb dX2_init_32 rfl (lv_at hl 0 rfl) ?_
  refine lv_lconst (v := 0) hx hb dX2_init_33 (by decide) ?_
  refine z_putX (i := 0) (j := 2) hM hI rfl hinX2 tyX2 tyX2_ok nmX2 rfl (by decide) (by decide +kernel) (fun _ h9 => h9) rfl rfl rfl rfl (Nat.le_of_ble_eq_true rfl) dX2_init_34 (fun H locs hI => ?_)
  have hI : zI D tc _ s.heap [(p0, .inr (4, [.ref q1, .ref q6, .long 0, .int 0, .int 0])), (q1, .inr (3, [.int 200, .ref q2, .ref q3])), (q2, .inr (2, [.ref q4, .int 1])), (q3, .inr (2, [.ref q5, .int 1])), (q4, .inl (tc 1, 16, .inr (.inl (vp_updL (fun _ => 0) (0 : Int32).toNatClampNeg 4000)))), (q5, .inl (tc 1, 16, .inr (.inl (vp_updL (fun _ => 0) (0 : Int32).toNatClampNeg 20)))), (q6, .inr (2, [.ref q7, .int 0])), (q7, .inl (tc 1, 16, .inr (.inl (fun _ => 0))))] L κ g _ _ := hI
  refine lv_aload_n hx hb dX2_init_37 rfl (lv_at hl 0 rfl) ?_
  refine lv_iconst (v := 0) hx hb dX2_init_38 (by decide) ?_
  refine z_putX (i := 0) (j := 3) hM hI rfl hinX2 tyX2 tyX2_ok nmX2 rfl (by decide) (by decide +kernel) (fun _ h9 => h9) rfl rfl rfl rfl (Nat.le_of_ble_eq_true rfl) dX2_init_39 (fun H locs hI => ?_)
  have hI : zI D tc _ s.heap [(p0, .inr (4, [.ref q1, .ref q6, .long 0, .int 0, .int 0])), (q1, .inr (3, [.int 200, .ref q2, .ref q3])), (q2, .inr (2, [.ref q4, .int 1])), (q3, .inr (2, [.ref q5, .int 1])), (q4, .inl (tc 1, 16, .inr (.inl (vp_updL (fun _ => 0) (0 : Int32).toNatClampNeg 4000)))), (q5, .inl (tc 1, 16, .inr (.inl (vp_updL (fun _ => 0) (0 : Int32).toNatClampNeg 20)))), (q6, .inr (2, [.ref q7, .int 0])), (q7, .inl (tc 1, 16, .inr (.inl (fun _ => 0))))] L κ g _ _ := hI
  refine lv_aload_n hx hb dX2_init_42 rfl (lv_at hl 0 rfl) ?_
  refine lv_iconst (v := 0) hx hb dX2_init_43 (by decide) ?_
  refine z_putX (i := 0) (j := 4) hM hI rfl hinX2 tyX2 tyX2_ok nmX2 rfl (by decide) (by decide +kernel) (fun _ h9 => h9) rfl rfl rfl rfl (Nat.le_of_ble_eq_true rfl) dX2_init_44 (fun H locs hI => ?_)
  have hI : zI D tc _ s.heap [(p0, .inr (4, [.ref q1, .ref q6, .long 0, .int 0, .int 0])), (q1, .inr (3, [.int 200, .ref q2, .ref q3])), (q2, .inr (2, [.ref q4, .int 1])), (q3, .inr (2, [.ref q5, .int 1])), (q4, .inl (tc 1, 16, .inr (.inl (vp_updL (fun _ => 0) (0 : Int32).toNatClampNeg 4000)))), (q5, .inl (tc 1, 16, .inr (.inl (vp_updL (fun _ => 0) (0 : Int32).toNatClampNeg 20)))), (q6, .inr (2, [.ref q7, .int 0])), (q7, .inl (tc 1, 16, .inr (.inl (fun _ => 0))))] L κ g _ _ := hI
  refine lv_aload_n hx hb dX2_init_47 rfl (lv_at hl 0 rfl) ?_
  refine z_getX (i := 0) (j := 1) hM hI rfl hinX2 rfl (by decide) (by decide +kernel) (fun _ h9 => h9) rfl dX2_init_48 ?_
  refine lv_bipush (v := 20) hx hb dX2_init_51 (by decide) ?_
  refine z_cvX (Xc := ([(q6, .inr (2, [.ref q7, .int 0])), (q7, .inl (tc 1, 16, .inr (.inl (fun _ => 0))))] : va_W)) (wr := ([(p0, .inr (4, [.ref q1, .ref q6, .long 0, .int 0, .int 0])), (q1, .inr (3, [.int 200, .ref q2, .ref q3])), (q2, .inr (2, [.ref q4, .int 1])), (q3, .inr (2, [.ref q5, .int 1])), (q4, .inl (tc 1, 16, .inr (.inl (vp_updL (fun _ => 0) (0 : Int32).toNatClampNeg 4000)))), (q5, .inl (tc 1, 16, .inr (.inl (vp_updL (fun _ => 0) (0 : Int32).toNatClampNeg 20))))] : va_W)) (rx := ([(q6, .inr (2, [.ref q7, .int 1])), (q7, .inl (tc 1, 16, .inr (.inl (vp_updL (fun _ => 0) (0 : Int32).toNatClampNeg 20))))] : va_W)) [6, 7] [0, 1, 2, 3, 4, 5] rfl rfl rfl rfl (by decide) hI (va_runV (As := [.int 20]) (rest := []) ⟨hx, hb, hml, hown, hts⟩ (x_X0_become_20 l D tc z0 _ κ g _ q6 q7 ) (cwV 1 hts gX2_init_X0_become rfl rfl rfl (by decide +kernel) ⟨Nat.le_of_ble_eq_true rfl, Nat.le_of_ble_eq_true rfl⟩) (z_preV (Xc := ([(q6, .inr (2, [.ref q7, .int 0])), (q7, .inl (tc 1, 16, .inr (.inl (fun _ => 0))))] : va_W)) hK hE hI [6, 7] rfl rfl (z_recvX hK hI (i := 6) rfl rfl)) rfl rfl hl.1 rfl (lv_room (Nat.le_of_ble_eq_true rfl)) dX2_init_53 ⟨Nat.le_of_ble_eq_true rfl, Nat.le_of_ble_eq_true rfl⟩) (fun u H locs hw hI => ?_)
  obtain rfl := hw
  have hI : zI D tc _ s.heap [(p0, .inr (4, [.ref q1, .ref q6, .long 0, .int 0, .int 0])), (q1, .inr (3, [.int 200, .ref q2, .ref q3])), (q2, .inr (2, [.ref q4, .int 1])), (q3, .inr (2, [.ref q5, .int 1])), (q4, .inl (tc 1, 16, .inr (.inl (vp_updL (fun _ => 0) (0 : Int32).toNatClampNeg 4000)))), (q5, .inl (tc 1, 16, .inr (.inl (vp_updL (fun _ => 0) (0 : Int32).toNatClampNeg 20)))), (q6, .inr (2, [.ref q7, .int 1])), (q7, .inl (tc 1, 16, .inr (.inl (vp_updL (fun _ => 0) (0 : Int32).toNatClampNeg 20))))] L κ g _ _ := hI
  have hI := z_part (X' := ([(p0, .inr (4, [.ref q1, .ref q6, .long 0, .int 0, .int 0])), (q1, .inr (3, [.int 200, .ref q2, .ref q3])), (q6, .inr (2, [.ref q7, .int 1])), (q2, .inr (2, [.ref q4, .int 1])), (q3, .inr (2, [.ref q5, .int 1])), (q4, .inl (tc 1, 16, .inr (.inl (vp_updL (fun _ => 0) (0 : Int32).toNatClampNeg 4000)))), (q5, .inl (tc 1, 16, .inr (.inl (vp_updL (fun _ => 0) (0 : Int32).toNatClampNeg 20)))), (q7, .inl (tc 1, 16, .inr (.inl (vp_updL (fun _ => 0) (0 : Int32).toNatClampNeg 20))))] : va_W)) [0, 1, 6, 2, 3, 4, 5, 7] rfl rfl hI
  exact W.vret hx hb hr (fun t ht hW => ⟨⟨(q1, q6, q2, q3, q4, q5, q7, (L, κ, g)), rfl, rfl, z_end hK hI ht hW⟩, z_F hI ht⟩) (z_locs hI) dX2_init_56

set_option maxHeartbeats 4000000 in
set_option maxRecDepth 100000 in
theorem x_X4_init (l : Launch) (D : va_G) (tc : Nat → ClassId) (z0 : Nat) (L : List Nat) (κ : Nat → Nat) (g : Nat → Nat → Value) (sz : Nat) (p0 : Nat)  : Met l yX4_init wsX4_init ({ frames := 1, cells := 0, slots := 0, locals := 20 }) (zPc D tc z0 [.ref p0] ([(p0, .inr (6, [.int 0, .int 0]))] : va_W) (L, κ, g) sz) (va_Qv (fun (u : (zS)) => u = (L, κ, g)) (fun (u : (zS)) (t : State) => zB D tc (zA ([(p0, .inr (6, [.int 0, .int 0]))] : va_W) L sz) ([(p0, .inr (6, [.int 500, .int 500]))] : va_W) u t) (zA ([(p0, .inr (6, [.int 0, .int 0]))] : va_W) L sz)) 0 0 (zA ([(p0, .inr (6, [.int 0, .int 0]))] : va_W) L sz) := by
  refine Met.ofW (cc := cX4_init) (maxL := 1) (ret := none) (by decide) rfl ?_
  intro p e9 s m args below meth c s₁ B hml hv
  obtain ⟨rfl, rfl, hK, hE, hI⟩ := hv.opn
  have hx := B.exec
  have hb := B.bytes
  have hr := B.returns
  have hts := atoms_spec (ws := wsX4_init) B.pre
  have hown : s.vm.findClass RX4 = some m.cls := findClass_of_methodNamed B.named
  have hlocks := B.notSynchronized
  have hin2 : meth.name = "<init>" := (name_of_methodNamed B.named B.method).1
  have hM : zM p s m c cX4_init _ wsX4_init RX4 D tc := ⟨hx, hb, hts, hown, hK⟩
  have hinX4 : ∀ w ∈ wsX40, w ∈ wsX4_init := by decide +kernel
  have hl := lv_entry ([.ref p0]) (n := 1) (Nat.le_of_ble_eq_true rfl)
  rw [lg_entry_eq]
  generalize (lg_sl ([.ref p0]) ++ List.replicate (1 - (lg_sl ([.ref p0])).length) Slot.unset).toArray = ls at hl ⊢
  have hl : lv_has ls 1 [(0, .ref p0)] := hl
  refine lv_aload_n hx hb dX4_init_0 rfl (lv_at hl 0 rfl) ?_
  refine W.objInit hx hb hown (hts (.methodLink RX4 3 objectInit) (by decide +kernel)) (hts (.instanceMethod objectInit) (by decide +kernel)) (hts (.code objectInit ⟨#[0xb1]⟩ 1 none) (by decide +kernel)) rfl (by rw [hml]; exact hl.1) rfl dX4_init_1 (Nat.le_of_ble_eq_true rfl) (Nat.le_of_ble_eq_true rfl) ?_
  refine W.eq (g2 := F0 m 4 ls []) rfl ?_
  refine lv_aload_n hx hb dX4_init_4 rfl (lv_at hl 0 rfl) ?_
  refine lv_sipush (v := 500) hx hb dX4_init_5 (by decide) ?_
  refine z_putX (i := 0) (j := 0) hM hI rfl hinX4 tyX4 tyX4_ok nmX4 rfl (by decide) (by decide +kernel) (fun _ h9 => h9) rfl rfl rfl rfl (Nat.le_of_ble_eq_true rfl) dX4_init_8 (fun H locs hI => ?_)
  have hI : zI D tc _ s.heap [(p0, .inr (6, [.int 500, .int 0]))] L κ g _ _ := hI
  refine lv_aload_n hx hb dX4_init_11 rfl (lv_at hl 0 rfl) ?_
  refine lv_sipush (v := 500) hx hb dX4_init_12 (by decide) ?_
  refine z_putX (i := 0) (j := 1) hM hI rfl hinX4 tyX4 tyX4_ok nmX4 rfl (by decide) (by decide +kernel) (fun _ h9 => h9) rfl rfl rfl rfl (Nat.le_of_ble_eq_true rfl) dX4_init_15 (fun H locs hI => ?_)
  have hI : zI D tc _ s.heap [(p0, .inr (6, [.int 500, .int 500]))] L κ g _ _ := hI
  exact W.vret hx hb hr (fun t ht hW => ⟨⟨(L, κ, g), rfl, rfl, z_end hK hI ht hW⟩, z_F hI ht⟩) (z_locs hI) dX4_init_18

set_option maxHeartbeats 4000000 in
set_option maxRecDepth 100000 in
theorem x_X5_init (l : Launch) (D : va_G) (tc : Nat → ClassId) (z0 : Nat) (L : List Nat) (κ : Nat → Nat) (g : Nat → Nat → Value) (sz : Nat) (p0 : Nat)  : Met l yX5_init wsX5_init ({ frames := 1, cells := 0, slots := 0, locals := 20 }) (zPc D tc z0 [.ref p0] ([(p0, .inr (7, [.int 0, .int 0, .int 0, .int 0, .int 0, .int 0, .int 0]))] : va_W) (L, κ, g) sz) (va_Qv (fun (u : (zS)) => u = (L, κ, g)) (fun (u : (zS)) (t : State) => zB D tc (zA ([(p0, .inr (7, [.int 0, .int 0, .int 0, .int 0, .int 0, .int 0, .int 0]))] : va_W) L sz) ([(p0, .inr (7, [.int 0, .int 0, .int 0, .int 0, .int 0, .int 0, .int 45]))] : va_W) u t) (zA ([(p0, .inr (7, [.int 0, .int 0, .int 0, .int 0, .int 0, .int 0, .int 0]))] : va_W) L sz)) 0 0 (zA ([(p0, .inr (7, [.int 0, .int 0, .int 0, .int 0, .int 0, .int 0, .int 0]))] : va_W) L sz) := by
  refine Met.ofW (cc := cX5_init) (maxL := 1) (ret := none) (by decide) rfl ?_
  intro p e9 s m args below meth c s₁ B hml hv
  obtain ⟨rfl, rfl, hK, hE, hI⟩ := hv.opn
  have hx := B.exec
  have hb := B.bytes
  have hr := B.returns
  have hts := atoms_spec (ws := wsX5_init) B.pre
  have hown : s.vm.findClass RX5 = some m.cls := findClass_of_methodNamed B.named
  have hlocks := B.notSynchronized
  have hin2 : meth.name = "<init>" := (name_of_methodNamed B.named B.method).1
  have hM : zM p s m c cX5_init _ wsX5_init RX5 D tc := ⟨hx, hb, hts, hown, hK⟩
  have hinX5 : ∀ w ∈ wsX50, w ∈ wsX5_init := by decide +kernel
  have hl := lv_entry ([.ref p0]) (n := 1) (Nat.le_of_ble_eq_true rfl)
  rw [lg_entry_eq]
  generalize (lg_sl ([.ref p0]) ++ List.replicate (1 - (lg_sl ([.ref p0])).length) Slot.unset).toArray = ls at hl ⊢
  have hl : lv_has ls 1 [(0, .ref p0)] := hl
  refine lv_aload_n hx hb dX5_init_0 rfl (lv_at hl 0 rfl) ?_
  refine W.objInit hx hb hown (hts (.methodLink RX5 3 objectInit) (by decide +kernel)) (hts (.instanceMethod objectInit) (by decide +kernel)) (hts (.code objectInit ⟨#[0xb1]⟩ 1 none) (by decide +kernel)) rfl (by rw [hml]; exact hl.1) rfl dX5_init_1 (Nat.le_of_ble_eq_true rfl) (Nat.le_of_ble_eq_true rfl) ?_
  refine W.eq (g2 := F0 m 4 ls []) rfl ?_
  refine lv_aload_n hx hb dX5_init_4 rfl (lv_at hl 0 rfl) ?_
  refine lv_iconst (v := 0) hx hb dX5_init_5 (by decide) ?_
  refine z_putX (i := 0) (j := 0) hM hI rfl hinX5 tyX5 tyX5_ok nmX5 rfl (by decide) (by decide +kernel) (fun _ h9 => h9) rfl rfl rfl rfl (Nat.le_of_ble_eq_true rfl) dX5_init_6 (fun H locs hI => ?_)
  have hI : zI D tc _ s.heap [(p0, .inr (7, [.int 0, .int 0, .int 0, .int 0, .int 0, .int 0, .int 0]))] L κ g _ _ := hI
  refine lv_aload_n hx hb dX5_init_9 rfl (lv_at hl 0 rfl) ?_
  refine lv_iconst (v := 0) hx hb dX5_init_10 (by decide) ?_
  refine z_putX (i := 0) (j := 1) hM hI rfl hinX5 tyX5 tyX5_ok nmX5 rfl (by decide) (by decide +kernel) (fun _ h9 => h9) rfl rfl rfl rfl (Nat.le_of_ble_eq_true rfl) dX5_init_11 (fun H locs hI => ?_)
  have hI : zI D tc _ s.heap [(p0, .inr (7, [.int 0, .int 0, .int 0, .int 0, .int 0, .int 0, .int 0]))] L κ g _ _ := hI
  refine lv_aload_n hx hb dX5_init_14 rfl (lv_at hl 0 rfl) ?_
  refine lv_iconst (v := 0) hx hb dX5_init_15 (by decide) ?_
  refine z_putX (i := 0) (j := 2) hM hI rfl hinX5 tyX5 tyX5_ok nmX5 rfl (by decide) (by decide +kernel) (fun _ h9 => h9) rfl rfl rfl rfl (Nat.le_of_ble_eq_true rfl) dX5_init_16 (fun H locs hI => ?_)
  have hI : zI D tc _ s.heap [(p0, .inr (7, [.int 0, .int 0, .int 0, .int 0, .int 0, .int 0, .int 0]))] L κ g _ _ := hI
  refine lv_aload_n hx hb dX5_init_19 rfl (lv_at hl 0 rfl) ?_
  refine lv_iconst (v := 0) hx hb dX5_init_20 (by decide) ?_
  refine z_putX (i := 0) (j := 3) hM hI rfl hinX5 tyX5 tyX5_ok nmX5 rfl (by decide) (by decide +kernel) (fun _ h9 => h9) rfl rfl rfl rfl (Nat.le_of_ble_eq_true rfl) dX5_init_21 (fun H locs hI => ?_)
  have hI : zI D tc _ s.heap [(p0, .inr (7, [.int 0, .int 0, .int 0, .int 0, .int 0, .int 0, .int 0]))] L κ g _ _ := hI
  refine lv_aload_n hx hb dX5_init_24 rfl (lv_at hl 0 rfl) ?_
  refine lv_iconst (v := 0) hx hb dX5_init_25 (by decide) ?_
  refine z_putX (i := 0) (j := 4) hM hI rfl hinX5 tyX5 tyX5_ok nmX5 rfl (by decide) (by decide +kernel) (fun _ h9 => h9) rfl rfl rfl rfl (Nat.le_of_ble_eq_true rfl) dX5_init_26 (fun H locs hI => ?_)
  have hI : zI D tc _ s.heap [(p0, .inr (7, [.int 0, .int 0, .int 0, .int 0, .int 0, .int 0, .int 0]))] L κ g _ _ := hI
  refine lv_aload_n hx hb dX5_init_29 rfl (lv_at hl 0 rfl) ?_
  refine lv_iconst (v := 0) hx hb dX5_init_30 (by decide) ?_
  refine z_putX (i := 0) (j := 5) hM hI rfl hinX5 tyX5 tyX5_ok nmX5 rfl (by decide) (by decide +kernel) (fun _ h9 => h9) rfl rfl rfl rfl (Nat.le_of_ble_eq_true rfl) dX5_init_31 (fun H locs hI => ?_)
  have hI : zI D tc _ s.heap [(p0, .inr (7, [.int 0, .int 0, .int 0, .int 0, .int 0, .int 0, .int 0]))] L κ g _ _ := hI
  refine lv_aload_n hx hb dX5_init_34 rfl (lv_at hl 0 rfl) ?_
  refine lv_bipush (v := 45) hx hb dX5_init_35 (by decide) ?_
  refine z_putX (i := 0) (j := 6) hM hI rfl hinX5 tyX5 tyX5_ok nmX5 rfl (by decide) (by decide +kernel) (fun _ h9 => h9) rfl rfl rfl rfl (Nat.le_of_ble_eq_true rfl) dX5_init_37 (fun H locs hI => ?_)
  have hI : zI D tc _ s.heap [(p0, .inr (7, [.int 0, .int 0, .int 0, .int 0, .int 0, .int 0, .int 45]))] L κ g _ _ := hI
  exact W.vret hx hb hr (fun t ht hW => ⟨⟨(L, κ, g), rfl, rfl, z_end hK hI ht hW⟩, z_F hI ht⟩) (z_locs hI) dX5_init_40

set_option maxHeartbeats 4000000 in
set_option maxRecDepth 100000 in
theorem x_X6_init (l : Launch) (D : va_G) (tc : Nat → ClassId) (z0 : Nat) (L : List Nat) (κ : Nat → Nat) (g : Nat → Nat → Value) (sz : Nat) (p0 : Nat)  : Met l yX6_init wsX6_init ({ frames := 1, cells := 0, slots := 0, locals := 20 }) (zPc D tc z0 [.ref p0] ([(p0, .inr (8, [.int 0, .int 0, .int 0, .long 0, .long 0, .int 0, .long 0, .long 0, .long 0, .long 0]))] : va_W) (L, κ, g) sz) (va_Qv (fun (u : (zS)) => u = (L, κ, g)) (fun (u : (zS)) (t : State) => zB D tc (zA ([(p0, .inr (8, [.int 0, .int 0, .int 0, .long 0, .long 0, .int 0, .long 0, .long 0, .long 0, .long 0]))] : va_W) L sz) ([(p0, .inr (8, [.int 200, .int 5000, .int 600, .long 0, .long 0, .int 0, .long 0, .long 0, .long 0, .long 0]))] : va_W) u t) (zA ([(p0, .inr (8, [.int 0, .int 0, .int 0, .long 0, .long 0, .int 0, .long 0, .long 0, .long 0, .long 0]))] : va_W) L sz)) 0 0 (zA ([(p0, .inr (8, [.int 0, .int 0, .int 0, .long 0, .long 0, .int 0, .long 0, .long 0, .long 0, .long 0]))] : va_W) L sz) := by
  refine Met.ofW (cc := cX6_init) (maxL := 1) (ret := none) (by decide) rfl ?_
  intro p e9 s m args below meth c s₁ B hml hv
  obtain ⟨rfl, rfl, hK, hE, hI⟩ := hv.opn
  have hx := B.exec
  have hb := B.bytes
  have hr := B.returns
  have hts := atoms_spec (ws := wsX6_init) B.pre
  have hown : s.vm.findClass RX6 = some m.cls := findClass_of_methodNamed B.named
  have hlocks := B.notSynchronized
  have hin2 : meth.name = "<init>" := (name_of_methodNamed B.named B.method).1
  have hM : zM p s m c cX6_init _ wsX6_init RX6 D tc := ⟨hx, hb, hts, hown, hK⟩
  have hinX6 : ∀ w ∈ wsX60, w ∈ wsX6_init := by decide +kernel
  have hl := lv_entry ([.ref p0]) (n := 1) (Nat.le_of_ble_eq_true rfl)
  rw [lg_entry_eq]
  generalize (lg_sl ([.ref p0]) ++ List.replicate (1 - (lg_sl ([.ref p0])).length) Slot.unset).toArray = ls at hl ⊢
  have hl : lv_has ls 1 [(0, .ref p0)] := hl
  refine lv_aload_n hx hb dX6_init_0 rfl (lv_at hl 0 rfl) ?_
  refine W.objInit hx hb hown (hts (.methodLink RX6 3 objectInit) (by decide +kernel)) (hts (.instanceMethod objectInit) (by decide +kernel)) (hts (.code objectInit ⟨#[0xb1]⟩ 1 none) (by decide +kernel)) rfl (by rw [hml]; exact hl.1) rfl dX6_init_1 (Nat.le_of_ble_eq_true rfl) (Nat.le_of_ble_eq_true rfl) ?_
  refine W.eq (g2 := F0 m 4 ls []) rfl ?_
  refine lv_aload_n hx hb dX6_init_4 rfl (lv_at hl 0 rfl) ?_
  refine lv_sipush (v := 200) hx hb dX6_init_5 (by decide) ?_
  refine z_putX (i := 0) (j := 0) hM hI rfl hinX6 tyX6 tyX6_ok nmX6 rfl (by decide) (by decide +kernel) (fun _ h9 => h9) rfl rfl rfl rfl (Nat.le_of_ble_eq_true rfl) dX6_init_8 (fun H locs hI => ?_)
  have hI : zI D tc _ s.heap [(p0, .inr (8, [.int 200, .int 0, .int 0, .long 0, .long 0, .int 0, .long 0, .long 0, .long 0, .long 0]))] L κ g _ _ := hI
  refine lv_aload_n hx hb dX6_init_11 rfl (lv_at hl 0 rfl) ?_
  refine lv_sipush (v := 5000) hx hb dX6_init_12 (by decide) ?_
  refine z_putX (i := 0) (j := 1) hM hI rfl hinX6 tyX6 tyX6_ok nmX6 rfl (by decide) (by decide +kernel) (fun _ h9 => h9) rfl rfl rfl rfl (Nat.le_of_ble_eq_true rfl) dX6_init_15 (fun H locs hI => ?_)
  have hI : zI D tc _ s.heap [(p0, .inr (8, [.int 200, .int 5000, .int 0, .long 0, .long 0, .int 0, .long 0, .long 0, .long 0, .long 0]))] L κ g _ _ := hI
  refine lv_aload_n hx hb dX6_init_18 rfl (lv_at hl 0 rfl) ?_
  refine lv_sipush (v := 600) hx hb dX6_init_19 (by decide) ?_
  refine z_putX (i := 0) (j := 2) hM hI rfl hinX6 tyX6 tyX6_ok nmX6 rfl (by decide) (by decide +kernel) (fun _ h9 => h9) rfl rfl rfl rfl (Nat.le_of_ble_eq_true rfl) dX6_init_22 (fun H locs hI => ?_)
  have hI : zI D tc _ s.heap [(p0, .inr (8, [.int 200, .int 5000, .int 600, .long 0, .long 0, .int 0, .long 0, .long 0, .long 0, .long 0]))] L κ g _ _ := hI
  refine lv_aload_n hx hb dX6_init_25 rfl (lv_at hl 0 rfl) ?_
  refine lv_lconst (v := 0) hx hb dX6_init_26 (by decide) ?_
  refine z_putX (i := 0) (j := 3) hM hI rfl hinX6 tyX6 tyX6_ok nmX6 rfl (by decide) (by decide +kernel) (fun _ h9 => h9) rfl rfl rfl rfl (Nat.le_of_ble_eq_true rfl) dX6_init_27 (fun H locs hI => ?_)
  have hI : zI D tc _ s.heap [(p0, .inr (8, [.int 200, .int 5000, .int 600, .long 0, .long 0, .int 0, .long 0, .long 0, .long 0, .long 0]))] L κ g _ _ := hI
  refine lv_aload_n hx hb dX6_init_30 rfl (lv_at hl 0 rfl) ?_
  refine lv_lconst (v := 0) hx hb dX6_init_31 (by decide) ?_
  refine z_putX (i := 0) (j := 4) hM hI rfl hinX6 tyX6 tyX6_ok nmX6 rfl (by decide) (by decide +kernel) (fun _ h9 => h9) rfl rfl rfl rfl (Nat.le_of_ble_eq_true rfl) dX6_init_32 (fun H locs hI => ?_)
  have hI : zI D tc _ s.heap [(p0, .inr (8, [.int 200, .int 5000, .int 600, .long 0, .long 0, .int 0, .long 0, .long 0, .long 0, .long 0]))] L κ g _ _ := hI
  refine lv_aload_n hx hb dX6_init_35 rfl (lv_at hl 0 rfl) ?_
  refine lv_iconst (v := 0) hx hb dX6_init_36 (by decide) ?_
  refine z_putX (i := 0) (j := 5) hM hI rfl hinX6 tyX6 tyX6_ok nmX6 rfl (by decide) (by decide +kernel) (fun _ h9 => h9) rfl rfl rfl rfl (Nat.le_of_ble_eq_true rfl) dX6_init_37 (fun H locs hI => ?_)
  have hI : zI D tc _ s.heap [(p0, .inr (8, [.int 200, .int 5000, .int 600, .long 0, .long 0, .int 0, .long 0, .long 0, .long 0, .long 0]))] L κ g _ _ := hI
  refine lv_aload_n hx hb dX6_init_40 rfl (lv_at hl 0 rfl) ?_
  refine lv_lconst (v := 0) hx hb dX6_init_41 (by decide) ?_
  refine z_putX (i := 0) (j := 6) hM hI rfl hinX6 tyX6 tyX6_ok nmX6 rfl (by decide) (by decide +kernel) (fun _ h9 => h9) rfl rfl rfl rfl (Nat.le_of_ble_eq_true rfl) dX6_init_42 (fun H locs hI => ?_)
  have hI : zI D tc _ s.heap [(p0, .inr (8, [.int 200, .int 5000, .int 600, .long 0, .long 0, .int 0, .long 0, .long 0, .long 0, .long 0]))] L κ g _ _ := hI
  refine lv_aload_n hx hb dX6_init_45 rfl (lv_at hl 0 rfl) ?_
  refine lv_lconst (v := 0) hx hb dX6_init_46 (by decide) ?_
  refine z_putX (i := 0) (j := 7) hM hI rfl hinX6 tyX6 tyX6_ok nmX6 rfl (by decide) (by decide +kernel) (fun _ h9 => h9) rfl rfl rfl rfl (Nat.le_of_ble_eq_true rfl) dX6_init_47 (fun H locs hI => ?_)
  have hI : zI D tc _ s.heap [(p0, .inr (8, [.int 200, .int 5000, .int 600, .long 0, .long 0, .int 0, .long 0, .long 0, .long 0, .long 0]))] L κ g _ _ := hI
  refine lv_aload_n hx hb dX6_init_50 rfl (lv_at hl 0 rfl) ?_
  refine lv_lconst (v := 0) hx hb dX6_init_51 (by decide) ?_
  refine z_putX (i := 0) (j := 8) hM hI rfl hinX6 tyX6 tyX6_ok nmX6 rfl (by decide) (by decide +kernel) (fun _ h9 => h9) rfl rfl rfl rfl (Nat.le_of_ble_eq_true rfl) dX6_init_52 (fun H locs hI => ?_)
  have hI : zI D tc _ s.heap [(p0, .inr (8, [.int 200, .int 5000, .int 600, .long 0, .long 0, .int 0, .long 0, .long 0, .long 0, .long 0]))] L κ g _ _ := hI
  refine lv_aload_n hx hb dX6_init_55 rfl (lv_at hl 0 rfl) ?_
  refine lv_lconst (v := 0) hx hb dX6_init_56 (by decide) ?_
  refine z_putX (i := 0) (j := 9) hM hI rfl hinX6 tyX6 tyX6_ok nmX6 rfl (by decide) (by decide +kernel) (fun _ h9 => h9) rfl rfl rfl rfl (Nat.le_of_ble_eq_true rfl) dX6_init_57 (fun H locs hI => ?_)
  have hI : zI D tc _ s.heap [(p0, .inr (8, [.int 200, .int 5000, .int 600, .long 0, .long 0, .int 0, .long 0, .long 0, .long 0, .long 0]))] L κ g _ _ := hI
  exact W.vret hx hb hr (fun t ht hW => ⟨⟨(L, κ, g), rfl, rfl, z_end hK hI ht hW⟩, z_F hI ht⟩) (z_locs hI) dX6_init_60

set_option maxHeartbeats 4000000 in
set_option maxRecDepth 100000 in
theorem x_X8_init (l : Launch) (D : va_G) (tc : Nat → ClassId) (z0 : Nat) (L : List Nat) (κ : Nat → Nat) (g : Nat → Nat → Value) (sz : Nat) (p0 : Nat)  : Met l yX8_init wsX8_init ({ frames := 5, cells := 20, slots := 138, locals := 110 }) (zPc D tc z0 [.ref p0] ([(p0, .inr (10, [.null, .null, .null, .null, .null, .null, .null, .null, .int 0, .long 0]))] : va_W) (L, κ, g) sz) (va_Qv (fun (u : (Nat × Nat × Nat × Nat × Nat × Nat × Nat × Nat × Nat × Nat × Nat × Nat × Nat × Nat × Nat × Nat × Nat × Nat × Nat × Nat × zS)) => u.2.2.2.2.2.2.2.2.2.2.2.2.2.2.2.2.2.2.2.2 = (L, κ, g)) (fun (u : (Nat × Nat × Nat × Nat × Nat × Nat × Nat × Nat × Nat × Nat × Nat × Nat × Nat × Nat × Nat × Nat × Nat × Nat × Nat × Nat × zS)) (t : State) => zB D tc (zA ([(p0, .inr (10, [.null, .null, .null, .null, .null, .null, .null, .null, .int 0, .long 0]))] : va_W) L sz) ([(p0, .inr (10, [.ref u.1, .ref u.2.1, .ref u.2.2.1, .ref u.2.2.2.1, .ref u.2.2.2.2.1, .ref u.2.2.2.2.2.2.1, .ref u.2.2.2.2.2.2.2.2.1, .ref u.2.2.2.2.2.2.2.2.2.2.1, .int 0, .long 0])), (u.1, .inl (tc 4, 3, .inr (.inr (.inr (.inr (va_up (va_up (va_up (fun _ => none) (0 : Int32).toNatClampNeg (some u.2.2.2.2.2.2.2.2.2.2.2.2.1)) (1 : Int32).toNatClampNeg (some u.2.2.2.2.2.2.2.2.2.2.2.2.2.2.1)) (2 : Int32).toNatClampNeg (some u.2.2.2.2.2.2.2.2.2.2.2.2.2.2.2.2.1))))))), (u.2.1, .inl (tc 3, 6, .inr (.inr (.inr (.inr (fun _ => none)))))), (u.2.2.1, .inl (tc 5, 8, .inr (.inr (.inr (.inr (fun _ => none)))))), (u.2.2.2.1, .inr (4, [.ref u.2.2.2.2.2.1, .ref u.2.2.2.2.2.2.2.1, .long 0, .int 0, .int 0])), (u.2.2.2.2.1, .inr (8, [.int 200, .int 5000, .int 600, .long 0, .long 0, .int 0, .long 0, .long 0, .long 0, .long 0])), (u.2.2.2.2.2.1, .inr (3, [.int 200, .ref u.2.2.2.2.2.2.2.2.2.1, .ref u.2.2.2.2.2.2.2.2.2.2.2.1])), (u.2.2.2.2.2.2.1, .inr (7, [.int 0, .int 0, .int 0, .int 0, .int 0, .int 0, .int 45])), (u.2.2.2.2.2.2.2.1, .inr (2, [.ref u.2.2.2.2.2.2.2.2.2.2.2.2.2.2.2.2.2.1, .int 1])), (u.2.2.2.2.2.2.2.2.1, .inr (2, [.ref u.2.2.2.2.2.2.2.2.2.2.2.2.2.2.2.2.2.2.1, .int 0])), (u.2.2.2.2.2.2.2.2.2.1, .inr (2, [.ref u.2.2.2.2.2.2.2.2.2.2.2.2.2.1, .int 1])), (u.2.2.2.2.2.2.2.2.2.2.1, .inr (2, [.ref u.2.2.2.2.2.2.2.2.2.2.2.2.2.2.2.2.2.2.2.1, .int 0])), (u.2.2.2.2.2.2.2.2.2.2.2.1, .inr (2, [.ref u.2.2.2.2.2.2.2.2.2.2.2.2.2.2.2.1, .int 1])), (u.2.2.2.2.2.2.2.2.2.2.2.2.1, .inr (6, [.int 500, .int 500])), (u.2.2.2.2.2.2.2.2.2.2.2.2.2.1, .inl (tc 1, 16, .inr (.inl (vp_updL (fun _ => 0) (0 : Int32).toNatClampNeg 4000)))), (u.2.2.2.2.2.2.2.2.2.2.2.2.2.2.1, .inr (6, [.int 500, .int 500])), (u.2.2.2.2.2.2.2.2.2.2.2.2.2.2.2.1, .inl (tc 1, 16, .inr (.inl (vp_updL (fun _ => 0) (0 : Int32).toNatClampNeg 20)))), (u.2.2.2.2.2.2.2.2.2.2.2.2.2.2.2.2.1, .inr (6, [.int 500, .int 500])), (u.2.2.2.2.2.2.2.2.2.2.2.2.2.2.2.2.2.1, .inl (tc 1, 16, .inr (.inl (vp_updL (fun _ => 0) (0 : Int32).toNatClampNeg 20)))), (u.2.2.2.2.2.2.2.2.2.2.2.2.2.2.2.2.2.2.1, .inl (tc 1, 16, .inr (.inl (fun _ => 0)))), (u.2.2.2.2.2.2.2.2.2.2.2.2.2.2.2.2.2.2.2.1, .inl (tc 1, 16, .inr (.inl (fun _ => 0))))] : va_W) u.2.2.2.2.2.2.2.2.2.2.2.2.2.2.2.2.2.2.2.2 t) (zA ([(p0, .inr (10, [.null, .null, .null, .null, .null, .null, .null, .null, .int 0, .long 0]))] : va_W) L sz)) 20 138 (zA ([(p0, .inr (10, [.null, .null, .null, .null, .null, .null, .null, .null, .int 0, .long 0]))] : va_W) L sz) := by
  refine Met.ofW (cc := cX8_init) (maxL := 2) (ret := none) (by decide) rfl ?_
  intro p e9 s m args below meth c s₁ B hml hv
  obtain ⟨rfl, rfl, hK, hE, hI⟩ := hv.opn
  have hx := B.exec
  have hb := B.bytes
  have hr := B.returns
  have hts := atoms_spec (ws := wsX8_init) B.pre
  have hown : s.vm.findClass RX8 = some m.cls := findClass_of_methodNamed B.named
  have hlocks := B.notSynchronized
  have hin2 : meth.name = "<init>" := (name_of_methodNamed B.named B.method).1
  have hM : zM p s m c cX8_init _ wsX8_init RX8 D tc := ⟨hx, hb, hts, hown, hK⟩
  have hinX8 : ∀ w ∈ wsX80, w ∈ wsX8_init := by decide +kernel
  have hinX2 : ∀ w ∈ wsX20, w ∈ wsX8_init := by decide +kernel
  have hinX6 : ∀ w ∈ wsX60, w ∈ wsX8_init := by decide +kernel
  have hinX5 : ∀ w ∈ wsX50, w ∈ wsX8_init := by decide +kernel
  have hinX0 : ∀ w ∈ wsX00, w ∈ wsX8_init := by decide +kernel
  have hinX4 : ∀ w ∈ wsX40, w ∈ wsX8_init := by decide +kernel
  have hl := lv_entry ([.ref p0]) (n := 2) (Nat.le_of_ble_eq_true rfl)
  rw [lg_entry_eq]
  generalize (lg_sl ([.ref p0]) ++ List.replicate (2 - (lg_sl ([.ref p0])).length) Slot.unset).toArray = ls at hl ⊢
  have hl : lv_has ls 2 [(0, .ref p0)] := hl
  refine lv_aload_n hx hb dX8_init_0 rfl (lv_at hl 0 rfl) ?_
  refine W.objInit hx hb hown (hts (.methodLink RX8 1 objectInit) (by decide +kernel)) (hts (.instanceMethod objectInit) (by decide +kernel)) (hts (.code objectInit ⟨#[0xb1]⟩ 1 none) (by decide +kernel)) rfl (by rw [hml]; exact hl.1) rfl dX8_init_1 (Nat.le_of_ble_eq_true rfl) (Nat.le_of_ble_eq_true rfl) ?_
  refine W.eq (g2 := F0 m 4 ls []) rfl ?_
  refine lv_aload_n hx hb dX8_init_4 rfl (lv_at hl 0 rfl) ?_
  refine lv_iconst (v := 3) hx hb dX8_init_5 (by decide) ?_
  refine z_newq (C := "Wattgovern$Rail") (ti := 4) (n := 3) hM hE hI (by decide +kernel) (by decide +kernel) rfl (by decide) (by decide) (by decide) (Nat.le_of_ble_eq_true rfl) (Nat.le_of_ble_eq_true rfl) dX8_init_6 (fun q1 H hI => ?_)
  have hI : zI D tc _ s.heap [(p0, .inr (10, [.null, .null, .null, .null, .null, .null, .null, .null, .int 0, .long 0])), (q1, .inl (tc 4, 3, .inr (.inr (.inr (.inr (fun _ => none))))))] L κ g _ _ := hI
  refine z_putXF (i := 0) (j := 0) hM hI hin2 rfl hinX8 tyX8 tyX8_ok nmX8 rfl (by decide) (by decide +kernel) (fun _ h9 => h9) rfl rfl rfl rfl rfl (Nat.le_of_ble_eq_true rfl) dX8_init_9 (fun H locs hI => ?_)
  have hI : zI D tc _ s.heap [(p0, .inr (10, [.ref q1, .null, .null, .null, .null, .null, .null, .null, .int 0, .long 0])), (q1, .inl (tc 4, 3, .inr (.inr (.inr (.inr (fun _ => none))))))] L κ g _ _ := hI
  refine lv_aload_n hx hb dX8_init_12 rfl (lv_at hl 0 rfl) ?_
  refine lv_bipush (v := 6) hx hb dX8_init_13 (by decide) ?_
  refine z_newq (C := "Wattgovern$Core") (ti := 3) (n := 6) hM hE hI (by decide +kernel) (by decide +kernel) rfl (by decide) (by decide) (by decide) (Nat.le_of_ble_eq_true rfl) (Nat.le_of_ble_eq_true rfl) dX8_init_15 (fun q2 H hI => ?_)
  have hI : zI D tc _ s.heap [(p0, .inr (10, [.ref q1, .null, .null, .null, .null, .null, .null, .null, .int 0, .long 0])), (q1, .inl (tc 4, 3, .inr (.inr (.inr (.inr (fun _ => none)))))), (q2, .inl (tc 3, 6, .inr (.inr (.inr (.inr (fun _ => none))))))] L κ g _ _ := hI
  refine z_putXF (i := 0) (j := 1) hM hI hin2 rfl hinX8 tyX8 tyX8_ok nmX8 rfl (by decide) (by decide +kernel) (fun _ h9 => h9) rfl rfl rfl rfl rfl (Nat.le_of_ble_eq_true rfl) dX8_init_18 (fun H locs hI => ?_)
  have hI : zI D tc _ s.heap [(p0, .inr (10, [.ref q1, .ref q2, .null, .null, .null, .null, .null, .null, .int 0, .long 0])), (q1, .inl (tc 4, 3, .inr (.inr (.inr (.inr (fun _ => none)))))), (q2, .inl (tc 3, 6, .inr (.inr (.inr (.inr (fun _ => none))))))] L κ g _ _ := hI
  refine lv_aload_n hx hb dX8_init_21 rfl (lv_at hl 0 rfl) ?_
  refine lv_bipush (v := 8) hx hb dX8_init_22 (by decide) ?_
  refine z_newq (C := "Wattgovern$Task") (ti := 5) (n := 8) hM hE hI (by decide +kernel) (by decide +kernel) rfl (by decide) (by decide) (by decide) (Nat.le_of_ble_eq_true rfl) (Nat.le_of_ble_eq_true rfl) dX8_init_24 (fun q3 H hI => ?_)
  have hI : zI D tc _ s.heap [(p0, .inr (10, [.ref q1, .ref q2, .null, .null, .null, .null, .null, .null, .int 0, .long 0])), (q1, .inl (tc 4, 3, .inr (.inr (.inr (.inr (fun _ => none)))))), (q2, .inl (tc 3, 6, .inr (.inr (.inr (.inr (fun _ => none)))))), (q3, .inl (tc 5, 8, .inr (.inr (.inr (.inr (fun _ => none))))))] L κ g _ _ := hI
  refine z_putXF (i := 0) (j := 2) hM hI hin2 rfl hinX8 tyX8 tyX8_ok nmX8 rfl (by decide) (by decide +kernel) (fun _ h9 => h9) rfl rfl rfl rfl rfl (Nat.le_of_ble_eq_true rfl) dX8_init_27 (fun H locs hI => ?_)
  have hI : zI D tc _ s.heap [(p0, .inr (10, [.ref q1, .ref q2, .ref q3, .null, .null, .null, .null, .null, .int 0, .long 0])), (q1, .inl (tc 4, 3, .inr (.inr (.inr (.inr (fun _ => none)))))), (q2, .inl (tc 3, 6, .inr (.inr (.inr (.inr (fun _ => none)))))), (q3, .inl (tc 5, 8, .inr (.inr (.inr (.inr (fun _ => none))))))] L κ g _ _ := hI
  refine lv_aload_n hx hb dX8_init_30 rfl (lv_at hl 0 rfl) ?_
  refine z_new (ci := 4) (fs := [.null, .null, .long 0, .int 0, .int 0]) (C := RX2) (T := TX2) (N := 5) hM hI hinX2 tyX2 tyX2_ok (by decide +kernel) (by decide +kernel) (by decide +kernel) rfl (by decide +kernel) (Nat.le_of_ble_eq_true rfl) (Nat.le_of_ble_eq_true rfl) dX8_init_31 (fun q4 H hI => ?_)
  have hI : zI D tc _ s.heap [(p0, .inr (10, [.ref q1, .ref q2, .ref q3, .null, .null, .null, .null, .null, .int 0, .long 0])), (q1, .inl (tc 4, 3, .inr (.inr (.inr (.inr (fun _ => none)))))), (q2, .inl (tc 3, 6, .inr (.inr (.inr (.inr (fun _ => none)))))), (q3, .inl (tc 5, 8, .inr (.inr (.inr (.inr (fun _ => none)))))), (q4, .inr (4, [.null, .null, .long 0, .int 0, .int 0]))] L κ g _ _ := hI
  refine lv_dup hx hb dX8_init_34 rfl ?_
  refine z_cvE (sel := fun u : Nat × Nat × Nat × Nat × Nat × Nat × Nat × zS => u.2.2.2.2.2.2.2) (rxf := fun u : Nat × Nat × Nat × Nat × Nat × Nat × Nat × zS => ([(q4, .inr (4, [.ref u.1, .ref u.2.1, .long 0, .int 0, .int 0])), (u.1, .inr (3, [.int 200, .ref u.2.2.1, .ref u.2.2.2.1])), (u.2.1, .inr (2, [.ref u.2.2.2.2.2.2.1, .int 1])), (u.2.2.1, .inr (2, [.ref u.2.2.2.2.1, .int 1])), (u.2.2.2.1, .inr (2, [.ref u.2.2.2.2.2.1, .int 1])), (u.2.2.2.2.1, .inl (tc 1, 16, .inr (.inl (vp_updL (fun _ => 0) (0 : Int32).toNatClampNeg 4000)))), (u.2.2.2.2.2.1, .inl (tc 1, 16, .inr (.inl (vp_updL (fun _ => 0) (0 : Int32).toNatClampNeg 20)))), (u.2.2.2.2.2.2.1, .inl (tc 1, 16, .inr (.inl (vp_updL (fun _ => 0) (0 : Int32).toNatClampNeg 20))))] : va_W)) (Xc := ([(q4, .inr (4, [.null, .null, .long 0, .int 0, .int 0]))] : va_W)) (wr := ([(p0, .inr (10, [.ref q1, .ref q2, .ref q3, .null, .null, .null, .null, .null, .int 0, .long 0])), (q1, .inl (tc 4, 3, .inr (.inr (.inr (.inr (fun _ => none)))))), (q2, .inl (tc 3, 6, .inr (.inr (.inr (.inr (fun _ => none)))))), (q3, .inl (tc 5, 8, .inr (.inr (.inr (.inr (fun _ => none))))))] : va_W)) [4] [0, 1, 2, 3] rfl rfl rfl rfl (by decide) hI (va_runI (As := []) (rest := [.ref q4, .ref p0]) ⟨hx, hb, hml, hown, hts⟩ (x_X2_init l D tc z0 _ κ g _ q4 ) (cwI 0 hts gX8_init_X2_init rfl rfl rfl (hts (.initialized RX2) (by decide +kernel)) (hts (.methodLink RX8 29 yX2_init) (by decide +kernel)) (hts (.instanceMethod yX2_init) (by decide +kernel)) rfl (by decide +kernel) ⟨Nat.le_of_ble_eq_true rfl, Nat.le_of_ble_eq_true rfl⟩) (z_pre (Xc := ([(q4, .inr (4, [.null, .null, .long 0, .int 0, .int 0]))] : va_W)) hK hE hI [4] rfl rfl) rfl rfl hl.1 rfl (lv_room (Nat.le_of_ble_eq_true rfl)) dX8_init_35 ⟨Nat.le_of_ble_eq_true rfl, Nat.le_of_ble_eq_true rfl⟩) (fun u H locs hw hI => ?_)
  obtain ⟨q5, q6, q7, q8, q9, q10, q11, u⟩ := u
  dsimp only at hw hI
  obtain rfl := hw
  have hI : zI D tc _ s.heap [(p0, .inr (10, [.ref q1, .ref q2, .ref q3, .null, .null, .null, .null, .null, .int 0, .long 0])), (q1, .inl (tc 4, 3, .inr (.inr (.inr (.inr (fun _ => none)))))), (q2, .inl (tc 3, 6, .inr (.inr (.inr (.inr (fun _ => none)))))), (q3, .inl (tc 5, 8, .inr (.inr (.inr (.inr (fun _ => none)))))), (q4, .inr (4, [.ref q5, .ref q6, .long 0, .int 0, .int 0])), (q5, .inr (3, [.int 200, .ref q7, .ref q8])), (q6, .inr (2, [.ref q11, .int 1])), (q7, .inr (2, [.ref q9, .int 1])), (q8, .inr (2, [.ref q10, .int 1])), (q9, .inl (tc 1, 16, .inr (.inl (vp_updL (fun _ => 0) (0 : Int32).toNatClampNeg 4000)))), (q10, .inl (tc 1, 16, .inr (.inl (vp_updL (fun _ => 0) (0 : Int32).toNatClampNeg 20)))), (q11, .inl (tc 1, 16, .inr (.inl (vp_updL (fun _ => 0) (0 : Int32).toNatClampNeg 20))))] L κ g _ _ := hI
  refine z_putXF (i := 0) (j := 3) hM hI hin2 rfl hinX8 tyX8 tyX8_ok nmX8 rfl (by decide) (by decide +kernel) (fun _ h9 => h9) rfl rfl rfl rfl rfl (Nat.le_of_ble_eq_true rfl) dX8_init_38 (fun H locs hI => ?_)
  have hI : zI D tc _ s.heap [(p0, .inr (10, [.ref q1, .ref q2, .ref q3, .ref q4, .null, .null, .null, .null, .int 0, .long 0])), (q1, .inl (tc 4, 3, .inr (.inr (.inr (.inr (fun _ => none)))))), (q2, .inl (tc 3, 6, .inr (.inr (.inr (.inr (fun _ => none)))))), (q3, .inl (tc 5, 8, .inr (.inr (.inr (.inr (fun _ => none)))))), (q4, .inr (4, [.ref q5, .ref q6, .long 0, .int 0, .int 0])), (q5, .inr (3, [.int 200, .ref q7, .ref q8])), (q6, .inr (2, [.ref q11, .int 1])), (q7, .inr (2, [.ref q9, .int 1])), (q8, .inr (2, [.ref q10, .int 1])), (q9, .inl (tc 1, 16, .inr (.inl (vp_updL (fun _ => 0) (0 : Int32).toNatClampNeg 4000)))), (q10, .inl (tc 1, 16, .inr (.inl (vp_updL (fun _ => 0) (0 : Int32).toNatClampNeg 20)))), (q11, .inl (tc 1, 16, .inr (.inl (vp_updL (fun _ => 0) (0 : Int32).toNatClampNeg 20))))] L κ g _ _ := hI
  refine lv_aload_n hx hb dX8_init_41 rfl (lv_at hl 0 rfl) ?_
  refine z_new (ci := 8) (fs := [.int 0, .int 0, .int 0, .long 0, .long 0, .int 0, .long 0, .long 0, .long 0, .long 0]) (C := RX6) (T := TX6) (N := 10) hM hI hinX6 tyX6 tyX6_ok (by decide +kernel) (by decide +kernel) (by decide +kernel) rfl (by decide +kernel) (Nat.le_of_ble_eq_true rfl) (Nat.le_of_ble_eq_true rfl) dX8_init_42 (fun q12 H hI => ?_)
  have hI : zI D tc _ s.heap [(p0, .inr (10, [.ref q1, .ref q2, .ref q3, .ref q4, .null, .null, .null, .null, .int 0, .long 0])), (q1, .inl (tc 4, 3, .inr (.inr (.inr (.inr (fun _ => none)))))), (q2, .inl (tc 3, 6, .inr (.inr (.inr (.inr (fun _ => none)))))), (q3, .inl (tc 5, 8, .inr (.inr (.inr (.inr (fun _ => none)))))), (q4, .inr (4, [.ref q5, .ref q6, .long 0, .int 0, .int 0])), (q5, .inr (3, [.int 200, .ref q7, .ref q8])), (q6, .inr (2, [.ref q11, .int 1])), (q7, .inr (2, [.ref q9, .int 1])), (q8, .inr (2, [.ref q10, .int 1])), (q9, .inl (tc 1, 16, .inr (.inl (vp_updL (fun _ => 0) (0 : Int32).toNatClampNeg 4000)))), (q10, .inl (tc 1, 16, .inr (.inl (vp_updL (fun _ => 0) (0 : Int32).toNatClampNeg 20)))), (q11, .inl (tc 1, 16, .inr (.inl (vp_updL (fun _ => 0) (0 : Int32).toNatClampNeg 20)))), (q12, .inr (8, [.int 0, .int 0, .int 0, .long 0, .long 0, .int 0, .long 0, .long 0, .long 0, .long 0]))] L κ g _ _ := hI
  refine lv_dup hx hb dX8_init_45 rfl ?_
  refine z_cvX (Xc := ([(q12, .inr (8, [.int 0, .int 0, .int 0, .long 0, .long 0, .int 0, .long 0, .long 0, .long 0, .long 0]))] : va_W)) (wr := ([(p0, .inr (10, [.ref q1, .ref q2, .ref q3, .ref q4, .null, .null, .null, .null, .int 0, .long 0])), (q1, .inl (tc 4, 3, .inr (.inr (.inr (.inr (fun _ => none)))))), (q2, .inl (tc 3, 6, .inr (.inr (.inr (.inr (fun _ => none)))))), (q3, .inl (tc 5, 8, .inr (.inr (.inr (.inr (fun _ => none)))))), (q4, .inr (4, [.ref q5, .ref q6, .long 0, .int 0, .int 0])), (q5, .inr (3, [.int 200, .ref q7, .ref q8])), (q6, .inr (2, [.ref q11, .int 1])), (q7, .inr (2, [.ref q9, .int 1])), (q8, .inr (2, [.ref q10, .int 1])), (q9, .inl (tc 1, 16, .inr (.inl (vp_updL (fun _ => 0) (0 : Int32).toNatClampNeg 4000)))), (q10, .inl (tc 1, 16, .inr (.inl (vp_updL (fun _ => 0) (0 : Int32).toNatClampNeg 20)))), (q11, .inl (tc 1, 16, .inr (.inl (vp_updL (fun _ => 0) (0 : Int32).toNatClampNeg 20))))] : va_W)) (rx := ([(q12, .inr (8, [.int 200, .int 5000, .int 600, .long 0, .long 0, .int 0, .long 0, .long 0, .long 0, .long 0]))] : va_W)) [12] [0, 1, 2, 3, 4, 5, 6, 7, 8, 9, 10, 11] rfl rfl rfl rfl (by decide) hI (va_runIN (As := []) (rest := [.ref q12, .ref p0]) ⟨hx, hb, hml, hown, hts⟩ (x_X6_init l D tc z0 _ κ g _ q12 ) ⟨va_cnB 0 hts gX8_init_X6_init_n36 rfl rfl rfl (hE.1 (.methodLinkNest RX8 36 yX6_init "Wattgovern") (by decide +kernel) rfl) (hts (.initialized yX6_init.cls) (by decide +kernel)) (by decide +kernel) ⟨Nat.le_of_ble_eq_true rfl, Nat.le_of_ble_eq_true rfl⟩, rfl, (hts (.instanceMethod yX6_init) (by decide +kernel))⟩ (z_pre (Xc := ([(q12, .inr (8, [.int 0, .int 0, .int 0, .long 0, .long 0, .int 0, .long 0, .long 0, .long 0, .long 0]))] : va_W)) hK hE hI [12] rfl rfl) rfl rfl hl.1 rfl (lv_room (Nat.le_of_ble_eq_true rfl)) dX8_init_46 ⟨Nat.le_of_ble_eq_true rfl, Nat.le_of_ble_eq_true rfl⟩) (fun u H locs hw hI => ?_)
  obtain rfl := hw
  have hI : zI D tc _ s.heap [(p0, .inr (10, [.ref q1, .ref q2, .ref q3, .ref q4, .null, .null, .null, .null, .int 0, .long 0])), (q1, .inl (tc 4, 3, .inr (.inr (.inr (.inr (fun _ => none)))))), (q2, .inl (tc 3, 6, .inr (.inr (.inr (.inr (fun _ => none)))))), (q3, .inl (tc 5, 8, .inr (.inr (.inr (.inr (fun _ => none)))))), (q4, .inr (4, [.ref q5, .ref q6, .long 0, .int 0, .int 0])), (q5, .inr (3, [.int 200, .ref q7, .ref q8])), (q6, .inr (2, [.ref q11, .int 1])), (q7, .inr (2, [.ref q9, .int 1])), (q8, .inr (2, [.ref q10, .int 1])), (q9, .inl (tc 1, 16, .inr (.inl (vp_updL (fun _ => 0) (0 : Int32).toNatClampNeg 4000)))), (q10, .inl (tc 1, 16, .inr (.inl (vp_updL (fun _ => 0) (0 : Int32).toNatClampNeg 20)))), (q11, .inl (tc 1, 16, .inr (.inl (vp_updL (fun _ => 0) (0 : Int32).toNatClampNeg 20)))), (q12, .inr (8, [.int 200, .int 5000, .int 600, .long 0, .long 0, .int 0, .long 0, .long 0, .long 0, .long 0]))] L κ g _ _ := hI
  refine z_putXF (i := 0) (j := 4) hM hI hin2 rfl hinX8 tyX8 tyX8_ok nmX8 rfl (by decide) (by decide +kernel) (fun _ h9 => h9) rfl rfl rfl rfl rfl (Nat.le_of_ble_eq_true rfl) dX8_init_49 (fun H locs hI => ?_)
  have hI : zI D tc _ s.heap [(p0, .inr (10, [.ref q1, .ref q2, .ref q3, .ref q4, .ref q12, .null, .null, .null, .int 0, .long 0])), (q1, .inl (tc 4, 3, .inr (.inr (.inr (.inr (fun _ => none)))))), (q2, .inl (tc 3, 6, .inr (.inr (.inr (.inr (fun _ => none)))))), (q3, .inl (tc 5, 8, .inr (.inr (.inr (.inr (fun _ => none)))))), (q4, .inr (4, [.ref q5, .ref q6, .long 0, .int 0, .int 0])), (q5, .inr (3, [.int 200, .ref q7, .ref q8])), (q6, .inr (2, [.ref q11, .int 1])), (q7, .inr (2, [.ref q9, .int 1])), (q8, .inr (2, [.ref q10, .int 1])), (q9, .inl (tc 1, 16, .inr (.inl (vp_updL (fun _ => 0) (0 : Int32).toNatClampNeg 4000)))), (q10, .inl (tc 1, 16, .inr (.inl (vp_updL (fun _ => 0) (0 : Int32).toNatClampNeg 20)))), (q11, .inl (tc 1, 16, .inr (.inl (vp_updL (fun _ => 0) (0 : Int32).toNatClampNeg 20)))), (q12, .inr (8, [.int 200, .int 5000, .int 600, .long 0, .long 0, .int 0, .long 0, .long 0, .long 0, .long 0]))] L κ g _ _ := hI
  refine lv_aload_n hx hb dX8_init_52 rfl (lv_at hl 0 rfl) ?_
  refine z_new (ci := 7) (fs := [.int 0, .int 0, .int 0, .int 0, .int 0, .int 0, .int 0]) (C := RX5) (T := TX5) (N := 7) hM hI hinX5 tyX5 tyX5_ok (by decide +kernel) (by decide +kernel) (by decide +kernel) rfl (by decide +kernel) (Nat.le_of_ble_eq_true rfl) (Nat.le_of_ble_eq_true rfl) dX8_init_53 (fun q13 H hI => ?_)
  have hI : zI D tc _ s.heap [(p0, .inr (10, [.ref q1, .ref q2, .ref q3, .ref q4, .ref q12, .null, .null, .null, .int 0, .long 0])), (q1, .inl (tc 4, 3, .inr (.inr (.inr (.inr (fun _ => none)))))), (q2, .inl (tc 3, 6, .inr (.inr (.inr (.inr (fun _ => none)))))), (q3, .inl (tc 5, 8, .inr (.inr (.inr (.inr (fun _ => none)))))), (q4, .inr (4, [.ref q5, .ref q6, .long 0, .int 0, .int 0])), (q5, .inr (3, [.int 200, .ref q7, .ref q8])), (q6, .inr (2, [.ref q11, .int 1])), (q7, .inr (2, [.ref q9, .int 1])), (q8, .inr (2, [.ref q10, .int 1])), (q9, .inl (tc 1, 16, .inr (.inl (vp_updL (fun _ => 0) (0 : Int32).toNatClampNeg 4000)))), (q10, .inl (tc 1, 16, .inr (.inl (vp_updL (fun _ => 0) (0 : Int32).toNatClampNeg 20)))), (q11, .inl (tc 1, 16, .inr (.inl (vp_updL (fun _ => 0) (0 : Int32).toNatClampNeg 20)))), (q12, .inr (8, [.int 200, .int 5000, .int 600, .long 0, .long 0, .int 0, .long 0, .long 0, .long 0, .long 0])), (q13, .inr (7, [.int 0, .int 0, .int 0, .int 0, .int 0, .int 0, .int 0]))] L κ g _ _ := hI
  refine lv_dup hx hb dX8_init_56 rfl ?_
  refine z_cvX (Xc := ([(q13, .inr (7, [.int 0, .int 0, .int 0, .int 0, .int 0, .int 0, .int 0]))] : va_W)) (wr := ([(p0, .inr (10, [.ref q1, .ref q2, .ref q3, .ref q4, .ref q12, .null, .null, .null, .int 0, .long 0])), (q1, .inl (tc 4, 3, .inr (.inr (.inr (.inr (fun _ => none)))))), (q2, .inl (tc 3, 6, .inr (.inr (.inr (.inr (fun _ => none)))))), (q3, .inl (tc 5, 8, .inr (.inr (.inr (.inr (fun _ => none)))))), (q4, .inr (4, [.ref q5, .ref q6, .long 0, .int 0, .int 0])), (q5, .inr (3, [.int 200, .ref q7, .ref q8])), (q6, .inr (2, [.ref q11, .int 1])), (q7, .inr (2, [.ref q9, .int 1])), (q8, .inr (2, [.ref q10, .int 1])), (q9, .inl (tc 1, 16, .inr (.inl (vp_updL (fun _ => 0) (0 : Int32).toNatClampNeg 4000)))), (q10, .inl (tc 1, 16, .inr (.inl (vp_updL (fun _ => 0) (0 : Int32).toNatClampNeg 20)))), (q11, .inl (tc 1, 16, .inr (.inl (vp_updL (fun _ => 0) (0 : Int32).toNatClampNeg 20)))), (q12, .inr (8, [.int 200, .int 5000, .int 600, .long 0, .long 0, .int 0, .long 0, .long 0, .long 0, .long 0]))] : va_W)) (rx := ([(q13, .inr (7, [.int 0, .int 0, .int 0, .int 0, .int 0, .int 0, .int 45]))] : va_W)) [13] [0, 1, 2, 3, 4, 5, 6, 7, 8, 9, 10, 11, 12] rfl rfl rfl rfl (by decide) hI (va_runIN (As := []) (rest := [.ref q13, .ref p0]) ⟨hx, hb, hml, hown, hts⟩ (x_X5_init l D tc z0 _ κ g _ q13 ) ⟨va_cnB 0 hts gX8_init_X5_init_n43 rfl rfl rfl (hE.1 (.methodLinkNest RX8 43 yX5_init "Wattgovern") (by decide +kernel) rfl) (hts (.initialized yX5_init.cls) (by decide +kernel)) (by decide +kernel) ⟨Nat.le_of_ble_eq_true rfl, Nat.le_of_ble_eq_true rfl⟩, rfl, (hts (.instanceMethod yX5_init) (by decide +kernel))⟩ (z_pre (Xc := ([(q13, .inr (7, [.int 0, .int 0, .int 0, .int 0, .int 0, .int 0, .int 0]))] : va_W)) hK hE hI [13] rfl rfl) rfl rfl hl.1 rfl (lv_room (Nat.le_of_ble_eq_true rfl)) dX8_init_57 ⟨Nat.le_of_ble_eq_true rfl, Nat.le_of_ble_eq_true rfl⟩) (fun u H locs hw hI => ?_)
  obtain rfl := hw
  have hI : zI D tc _ s.heap [(p0, .inr (10, [.ref q1, .ref q2, .ref q3, .ref q4, .ref q12, .null, .null, .null, .int 0, .long 0])), (q1, .inl (tc 4, 3, .inr (.inr (.inr (.inr (fun _ => none)))))), (q2, .inl (tc 3, 6, .inr (.inr (.inr (.inr (fun _ => none)))))), (q3, .inl (tc 5, 8, .inr (.inr (.inr (.inr (fun _ => none)))))), (q4, .inr (4, [.ref q5, .ref q6, .long 0, .int 0, .int 0])), (q5, .inr (3, [.int 200, .ref q7, .ref q8])), (q6, .inr (2, [.ref q11, .int 1])), (q7, .inr (2, [.ref q9, .int 1])), (q8, .inr (2, [.ref q10, .int 1])), (q9, .inl (tc 1, 16, .inr (.inl (vp_updL (fun _ => 0) (0 : Int32).toNatClampNeg 4000)))), (q10, .inl (tc 1, 16, .inr (.inl (vp_updL (fun _ => 0) (0 : Int32).toNatClampNeg 20)))), (q11, .inl (tc 1, 16, .inr (.inl (vp_updL (fun _ => 0) (0 : Int32).toNatClampNeg 20)))), (q12, .inr (8, [.int 200, .int 5000, .int 600, .long 0, .long 0, .int 0, .long 0, .long 0, .long 0, .long 0])), (q13, .inr (7, [.int 0, .int 0, .int 0, .int 0, .int 0, .int 0, .int 45]))] L κ g _ _ := hI
  refine z_putXF (i := 0) (j := 5) hM hI hin2 rfl hinX8 tyX8 tyX8_ok nmX8 rfl (by decide) (by decide +kernel) (fun _ h9 => h9) rfl rfl rfl rfl rfl (Nat.le_of_ble_eq_true rfl) dX8_init_60 (fun H locs hI => ?_)
  have hI : zI D tc _ s.heap [(p0, .inr (10, [.ref q1, .ref q2, .ref q3, .ref q4, .ref q12, .ref q13, .null, .null, .int 0, .long 0])), (q1, .inl (tc 4, 3, .inr (.inr (.inr (.inr (fun _ => none)))))), (q2, .inl (tc 3, 6, .inr (.inr (.inr (.inr (fun _ => none)))))), (q3, .inl (tc 5, 8, .inr (.inr (.inr (.inr (fun _ => none)))))), (q4, .inr (4, [.ref q5, .ref q6, .long 0, .int 0, .int 0])), (q5, .inr (3, [.int 200, .ref q7, .ref q8])), (q6, .inr (2, [.ref q11, .int 1])), (q7, .inr (2, [.ref q9, .int 1])), (q8, .inr (2, [.ref q10, .int 1])), (q9, .inl (tc 1, 16, .inr (.inl (vp_updL (fun _ => 0) (0 : Int32).toNatClampNeg 4000)))), (q10, .inl (tc 1, 16, .inr (.inl (vp_updL (fun _ => 0) (0 : Int32).toNatClampNeg 20)))), (q11, .inl (tc 1, 16, .inr (.inl (vp_updL (fun _ => 0) (0 : Int32).toNatClampNeg 20)))), (q12, .inr (8, [.int 200, .int 5000, .int 600, .long 0, .long 0, .int 0, .long 0, .long 0, .long 0, .long 0])), (q13, .inr (7, [.int 0, .int 0, .int 0, .int 0, .int 0, .int 0, .int 45]))] L κ g _ _ := hI
  refine lv_aload_n hx hb dX8_init_63 rfl (lv_at hl 0 rfl) ?_
  refine z_new (ci := 2) (fs := [.null, .int 0]) (C := RX0) (T := TX0) (N := 2) hM hI hinX0 tyX0 tyX0_ok (by decide +kernel) (by decide +kernel) (by decide +kernel) rfl (by decide +kernel) (Nat.le_of_ble_eq_true rfl) (Nat.le_of_ble_eq_true rfl) dX8_init_64 (fun q14 H hI => ?_)
  have hI : zI D tc _ s.heap [(p0, .inr (10, [.ref q1, .ref q2, .ref q3, .ref q4, .ref q12, .ref q13, .null, .null, .int 0, .long 0])), (q1, .inl (tc 4, 3, .inr (.inr (.inr (.inr (fun _ => none)))))), (q2, .inl (tc 3, 6, .inr (.inr (.inr (.inr (fun _ => none)))))), (q3, .inl (tc 5, 8, .inr (.inr (.inr (.inr (fun _ => none)))))), (q4, .inr (4, [.ref q5, .ref q6, .long 0, .int 0, .int 0])), (q5, .inr (3, [.int 200, .ref q7, .ref q8])), (q6, .inr (2, [.ref q11, .int 1])), (q7, .inr (2, [.ref q9, .int 1])), (q8, .inr (2, [.ref q10, .int 1])), (q9, .inl (tc 1, 16, .inr (.inl (vp_updL (fun _ => 0) (0 : Int32).toNatClampNeg 4000)))), (q10, .inl (tc 1, 16, .inr (.inl (vp_updL (fun _ => 0) (0 : Int32).toNatClampNeg 20)))), (q11, .inl (tc 1, 16, .inr (.inl (vp_updL (fun _ => 0) (0 : Int32).toNatClampNeg 20)))), (q12, .inr (8, [.int 200, .int 5000, .int 600, .long 0, .long 0, .int 0, .long 0, .long 0, .long 0, .long 0])), (q13, .inr (7, [.int 0, .int 0, .int 0, .int 0, .int 0, .int 0, .int 45])), (q14, .inr (2, [.null, .int 0]))] L κ g _ _ := hI
  refine lv_dup hx hb dX8_init_67 rfl ?_
  refine z_cvE (sel := fun u : Nat × zS => u.2) (rxf := fun u : Nat × zS => ([(q14, .inr (2, [.ref u.1, .int 0])), (u.1, .inl (tc 1, 16, .inr (.inl (fun _ => 0))))] : va_W)) (Xc := ([(q14, .inr (2, [.null, .int 0]))] : va_W)) (wr := ([(p0, .inr (10, [.ref q1, .ref q2, .ref q3, .ref q4, .ref q12, .ref q13, .null, .null, .int 0, .long 0])), (q1, .inl (tc 4, 3, .inr (.inr (.inr (.inr (fun _ => none)))))), (q2, .inl (tc 3, 6, .inr (.inr (.inr (.inr (fun _ => none)))))), (q3, .inl (tc 5, 8, .inr (.inr (.inr (.inr (fun _ => none)))))), (q4, .inr (4, [.ref q5, .ref q6, .long 0, .int 0, .int 0])), (q5, .inr (3, [.int 200, .ref q7, .ref q8])), (q6, .inr (2, [.ref q11, .int 1])), (q7, .inr (2, [.ref q9, .int 1])), (q8, .inr (2, [.ref q10, .int 1])), (q9, .inl (tc 1, 16, .inr (.inl (vp_updL (fun _ => 0) (0 : Int32).toNatClampNeg 4000)))), (q10, .inl (tc 1, 16, .inr (.inl (vp_updL (fun _ => 0) (0 : Int32).toNatClampNeg 20)))), (q11, .inl (tc 1, 16, .inr (.inl (vp_updL (fun _ => 0) (0 : Int32).toNatClampNeg 20)))), (q12, .inr (8, [.int 200, .int 5000, .int 600, .long 0, .long 0, .int 0, .long 0, .long 0, .long 0, .long 0])), (q13, .inr (7, [.int 0, .int 0, .int 0, .int 0, .int 0, .int 0, .int 45]))] : va_W)) [14] [0, 1, 2, 3, 4, 5, 6, 7, 8, 9, 10, 11, 12, 13] rfl rfl rfl rfl (by decide) hI (va_runIN (As := []) (rest := [.ref q14, .ref p0]) ⟨hx, hb, hml, hown, hts⟩ (x_X0_init l D tc z0 _ κ g _ q14 ) ⟨va_cnB 0 hts gX8_init_X0_init_n50 rfl rfl rfl (hE.1 (.methodLinkNest RX8 50 yX0_init "Wattgovern") (by decide +kernel) rfl) (hts (.initialized yX0_init.cls) (by decide +kernel)) (by decide +kernel) ⟨Nat.le_of_ble_eq_true rfl, Nat.le_of_ble_eq_true rfl⟩, rfl, (hts (.instanceMethod yX0_init) (by decide +kernel))⟩ (z_pre (Xc := ([(q14, .inr (2, [.null, .int 0]))] : va_W)) hK hE hI [14] rfl rfl) rfl rfl hl.1 rfl (lv_room (Nat.le_of_ble_eq_true rfl)) dX8_init_68 ⟨Nat.le_of_ble_eq_true rfl, Nat.le_of_ble_eq_true rfl⟩) (fun u H locs hw hI => ?_)
  obtain ⟨q15, u⟩ := u
  dsimp only at hw hI
  obtain rfl := hw
  have hI : zI D tc _ s.heap [(p0, .inr (10, [.ref q1, .ref q2, .ref q3, .ref q4, .ref q12, .ref q13, .null, .null, .int 0, .long 0])), (q1, .inl (tc 4, 3, .inr (.inr (.inr (.inr (fun _ => none)))))), (q2, .inl (tc 3, 6, .inr (.inr (.inr (.inr (fun _ => none)))))), (q3, .inl (tc 5, 8, .inr (.inr (.inr (.inr (fun _ => none)))))), (q4, .inr (4, [.ref q5, .ref q6, .long 0, .int 0, .int 0])), (q5, .inr (3, [.int 200, .ref q7, .ref q8])), (q6, .inr (2, [.ref q11, .int 1])), (q7, .inr (2, [.ref q9, .int 1])), (q8, .inr (2, [.ref q10, .int 1])), (q9, .inl (tc 1, 16, .inr (.inl (vp_updL (fun _ => 0) (0 : Int32).toNatClampNeg 4000)))), (q10, .inl (tc 1, 16, .inr (.inl (vp_updL (fun _ => 0) (0 : Int32).toNatClampNeg 20)))), (q11, .inl (tc 1, 16, .inr (.inl (vp_updL (fun _ => 0) (0 : Int32).toNatClampNeg 20)))), (q12, .inr (8, [.int 200, .int 5000, .int 600, .long 0, .long 0, .int 0, .long 0, .long 0, .long 0, .long 0])), (q13, .inr (7, [.int 0, .int 0, .int 0, .int 0, .int 0, .int 0, .int 45])), (q14, .inr (2, [.ref q15, .int 0])), (q15, .inl (tc 1, 16, .inr (.inl (fun _ => 0))))] L κ g _ _ := hI
  refine z_putXF (i := 0) (j := 6) hM hI hin2 rfl hinX8 tyX8 tyX8_ok nmX8 rfl (by decide) (by decide +kernel) (fun _ h9 => h9) rfl rfl rfl rfl rfl (Nat.le_of_ble_eq_true rfl) dX8_init_71 (fun H locs hI => ?_)
  have hI : zI D tc _ s.heap [(p0, .inr (10, [.ref q1, .ref q2, .ref q3, .ref q4, .ref q12, .ref q13, .ref q14, .null, .int 0, .long 0])), (q1, .inl (tc 4, 3, .inr (.inr (.inr (.inr (fun _ => none)))))), (q2, .inl (tc 3, 6, .inr (.inr (.inr (.inr (fun _ => none)))))), (q3, .inl (tc 5, 8, .inr (.inr (.inr (.inr (fun _ => none)))))), (q4, .inr (4, [.ref q5, .ref q6, .long 0, .int 0, .int 0])), (q5, .inr (3, [.int 200, .ref q7, .ref q8])), (q6, .inr (2, [.ref q11, .int 1])), (q7, .inr (2, [.ref q9, .int 1])), (q8, .inr (2, [.ref q10, .int 1])), (q9, .inl (tc 1, 16, .inr (.inl (vp_updL (fun _ => 0) (0 : Int32).toNatClampNeg 4000)))), (q10, .inl (tc 1, 16, .inr (.inl (vp_updL (fun _ => 0) (0 : Int32).toNatClampNeg 20)))), (q11, .inl (tc 1, 16, .inr (.inl (vp_updL (fun _ => 0) (0 : Int32).toNatClampNeg 20)))), (q12, .inr (8, [.int 200, .int 5000, .int 600, .long 0, .long 0, .int 0, .long 0, .long 0, .long 0, .long 0])), (q13, .inr (7, [.int 0, .int 0, .int 0, .int 0, .int 0, .int 0, .int 45])), (q14, .inr (2, [.ref q15, .int 0])), (q15, .inl (tc 1, 16, .inr (.inl (fun _ => 0))))] L κ g _ _ := hI
  refine lv_aload_n hx hb dX8_init_74 rfl (lv_at hl 0 rfl) ?_
  refine z_new (ci := 2) (fs := [.null, .int 0]) (C := RX0) (T := TX0) (N := 2) hM hI hinX0 tyX0 tyX0_ok (by decide +kernel) (by decide +kernel) (by decide +kernel) rfl (by decide +kernel) (Nat.le_of_ble_eq_true rfl) (Nat.le_of_ble_eq_true rfl) dX8_init_75 (fun q16 H hI => ?_)
  have hI : zI D tc _ s.heap [(p0, .inr (10, [.ref q1, .ref q2, .ref q3, .ref q4, .ref q12, .ref q13, .ref q14, .null, .int 0, .long 0])), (q1, .inl (tc 4, 3, .inr (.inr (.inr (.inr (fun _ => none)))))), (q2, .inl (tc 3, 6, .inr (.inr (.inr (.inr (fun _ => none)))))), (q3, .inl (tc 5, 8, .inr (.inr (.inr (.inr (fun _ => none)))))), (q4, .inr (4, [.ref q5, .ref q6, .long 0, .int 0, .int 0])), (q5, .inr (3, [.int 200, .ref q7, .ref q8])), (q6, .inr (2, [.ref q11, .int 1])), (q7, .inr (2, [.ref q9, .int 1])), (q8, .inr (2, [.ref q10, .int 1])), (q9, .inl (tc 1, 16, .inr (.inl (vp_updL (fun _ => 0) (0 : Int32).toNatClampNeg 4000)))), (q10, .inl (tc 1, 16, .inr (.inl (vp_updL (fun _ => 0) (0 : Int32).toNatClampNeg 20)))), (q11, .inl (tc 1, 16, .inr (.inl (vp_updL (fun _ => 0) (0 : Int32).toNatClampNeg 20)))), (q12, .inr (8, [.int 200, .int 5000, .int 600, .long 0, .long 0, .int 0, .long 0, .long 0, .long 0, .long 0])), (q13, .inr (7, [.int 0, .int 0, .int 0, .int 0, .int 0, .int 0, .int 45])), (q14, .inr (2, [.ref q15, .int 0])), (q15, .inl (tc 1, 16, .inr (.inl (fun _ => 0)))), (q16, .inr (2, [.null, .int 0]))] L κ g _ _ := hI
  refine lv_dup hx hb dX8_init_78 rfl ?_
  refine z_cvE (sel := fun u : Nat × zS => u.2) (rxf := fun u : Nat × zS => ([(q16, .inr (2, [.ref u.1, .int 0])), (u.1, .inl (tc 1, 16, .inr (.inl (fun _ => 0))))] : va_W)) (Xc := ([(q16, .inr (2, [.null, .int 0]))] : va_W)) (wr := ([(p0, .inr (10, [.ref q1, .ref q2, .ref q3, .ref q4, .ref q12, .ref q13, .ref q14, .null, .int 0, .long 0])), (q1, .inl (tc 4, 3, .inr (.inr (.inr (.inr (fun _ => none)))))), (q2, .inl (tc 3, 6, .inr (.inr (.inr (.inr (fun _ => none)))))), (q3, .inl (tc 5, 8, .inr (.inr (.inr (.inr (fun _ => none)))))), (q4, .inr (4, [.ref q5, .ref q6, .long 0, .int 0, .int 0])), (q5, .inr (3, [.int 200, .ref q7, .ref q8])), (q6, .inr (2, [.ref q11, .int 1])), (q7, .inr (2, [.ref q9, .int 1])), (q8, .inr (2, [.ref q10, .int 1])), (q9, .inl (tc 1, 16, .inr (.inl (vp_updL (fun _ => 0) (0 : Int32).toNatClampNeg 4000)))), (q10, .inl (tc 1, 16, .inr (.inl (vp_updL (fun _ => 0) (0 : Int32).toNatClampNeg 20)))), (q11, .inl (tc 1, 16, .inr (.inl (vp_updL (fun _ => 0) (0 : Int32).toNatClampNeg 20)))), (q12, .inr (8, [.int 200, .int 5000, .int 600, .long 0, .long 0, .int 0, .long 0, .long 0, .long 0, .long 0])), (q13, .inr (7, [.int 0, .int 0, .int 0, .int 0, .int 0, .int 0, .int 45])), (q14, .inr (2, [.ref q15, .int 0])), (q15, .inl (tc 1, 16, .inr (.inl (fun _ => 0))))] : va_W)) [16] [0, 1, 2, 3, 4, 5, 6, 7, 8, 9, 10, 11, 12, 13, 14, 15] rfl rfl rfl rfl (by decide) hI (va_runIN (As := []) (rest := [.ref q16, .ref p0]) ⟨hx, hb, hml, hown, hts⟩ (x_X0_init l D tc z0 _ κ g _ q16 ) ⟨va_cnB 0 hts gX8_init_X0_init_n50 rfl rfl rfl (hE.1 (.methodLinkNest RX8 50 yX0_init "Wattgovern") (by decide +kernel) rfl) (hts (.initialized yX0_init.cls) (by decide +kernel)) (by decide +kernel) ⟨Nat.le_of_ble_eq_true rfl, Nat.le_of_ble_eq_true rfl⟩, rfl, (hts (.instanceMethod yX0_init) (by decide +kernel))⟩ (z_pre (Xc := ([(q16, .inr (2, [.null, .int 0]))] : va_W)) hK hE hI [16] rfl rfl) rfl rfl hl.1 rfl (lv_room (Nat.le_of_ble_eq_true rfl)) dX8_init_79 ⟨Nat.le_of_ble_eq_true rfl, Nat.le_of_ble_eq_true rfl⟩) (fun u H locs hw hI => ?_)
  obtain ⟨q17, u⟩ := u
  dsimp only at hw hI
  obtain rfl := hw
  have hI : zI D tc _ s.heap [(p0, .inr (10, [.ref q1, .ref q2, .ref q3, .ref q4, .ref q12, .ref q13, .ref q14, .null, .int 0, .long 0])), (q1, .inl (tc 4, 3, .inr (.inr (.inr (.inr (fun _ => none)))))), (q2, .inl (tc 3, 6, .inr (.inr (.inr (.inr (fun _ => none)))))), (q3, .inl (tc 5, 8, .inr (.inr (.inr (.inr (fun _ => none)))))), (q4, .inr (4, [.ref q5, .ref q6, .long 0, .int 0, .int 0])), (q5, .inr (3, [.int 200, .ref q7, .ref q8])), (q6, .inr (2, [.ref q11, .int 1])), (q7, .inr (2, [.ref q9, .int 1])), (q8, .inr (2, [.ref q10, .int 1])), (q9, .inl (tc 1, 16, .inr (.inl (vp_updL (fun _ => 0) (0 : Int32).toNatClampNeg 4000)))), (q10, .inl (tc 1, 16, .inr (.inl (vp_updL (fun _ => 0) (0 : Int32).toNatClampNeg 20)))), (q11, .inl (tc 1, 16, .inr (.inl (vp_updL (fun _ => 0) (0 : Int32).toNatClampNeg 20)))), (q12, .inr (8, [.int 200, .int 5000, .int 600, .long 0, .long 0, .int 0, .long 0, .long 0, .long 0, .long 0])), (q13, .inr (7, [.int 0, .int 0, .int 0, .int 0, .int 0, .int 0, .int 45])), (q14, .inr (2, [.ref q15, .int 0])), (q15, .inl (tc 1, 16, .inr (.inl (fun _ => 0)))), (q16, .inr (2, [.ref q17, .int 0])), (q17, .inl (tc 1, 16, .inr (.inl (fun _ => 0))))] L κ g _ _ := hI
  refine z_putXF (i := 0) (j := 7) hM hI hin2 rfl hinX8 tyX8 tyX8_ok nmX8 rfl (by decide) (by decide +kernel) (fun _ h9 => h9) rfl rfl rfl rfl rfl (Nat.le_of_ble_eq_true rfl) dX8_init_82 (fun H locs hI => ?_)
  have hI : zI D tc _ s.heap [(p0, .inr (10, [.ref q1, .ref q2, .ref q3, .ref q4, .ref q12, .ref q13, .ref q14, .ref q16, .int 0, .long 0])), (q1, .inl (tc 4, 3, .inr (.inr (.inr (.inr (fun _ => none)))))), (q2, .inl (tc 3, 6, .inr (.inr (.inr (.inr (fun _ => none)))))), (q3, .inl (tc 5, 8, .inr (.inr (.inr (.inr (fun _ => none)))))), (q4, .inr (4, [.ref q5, .ref q6, .long 0, .int 0, .int 0])), (q5, .inr (3, [.int 200, .ref q7, .ref q8])), (q6, .inr (2, [.ref q11, .int 1])), (q7, .inr (2, [.ref q9, .int 1])), (q8, .inr (2, [.ref q10, .int 1])), (q9, .inl (tc 1, 16, .inr (.inl (vp_updL (fun _ => 0) (0 : Int32).toNatClampNeg 4000)))), (q10, .inl (tc 1, 16, .inr (.inl (vp_updL (fun _ => 0) (0 : Int32).toNatClampNeg 20)))), (q11, .inl (tc 1, 16, .inr (.inl (vp_updL (fun _ => 0) (0 : Int32).toNatClampNeg 20)))), (q12, .inr (8, [.int 200, .int 5000, .int 600, .long 0, .long 0, .int 0, .long 0, .long 0, .long 0, .long 0])), (q13, .inr (7, [.int 0, .int 0, .int 0, .int 0, .int 0, .int 0, .int 45])), (q14, .inr (2, [.ref q15, .int 0])), (q15, .inl (tc 1, 16, .inr (.inl (fun _ => 0)))), (q16, .inr (2, [.ref q17, .int 0])), (q17, .inl (tc 1, 16, .inr (.inl (fun _ => 0))))] L κ g _ _ := hI
  refine lv_aload_n hx hb dX8_init_85 rfl (lv_at hl 0 rfl) ?_
  refine lv_iconst (v := 0) hx hb dX8_init_86 (by decide) ?_
  refine z_putX (i := 0) (j := 8) hM hI rfl hinX8 tyX8 tyX8_ok nmX8 rfl (by decide) (by decide +kernel) (fun _ h9 => h9) rfl rfl rfl rfl (Nat.le_of_ble_eq_true rfl) dX8_init_87 (fun H locs hI => ?_)
  have hI : zI D tc _ s.heap [(p0, .inr (10, [.ref q1, .ref q2, .ref q3, .ref q4, .ref q12, .ref q13, .ref q14, .ref q16, .int 0, .long 0])), (q1, .inl (tc 4, 3, .inr (.inr (.inr (.inr (fun _ => none)))))), (q2, .inl (tc 3, 6, .inr (.inr (.inr (.inr (fun _ => none)))))), (q3, .inl (tc 5, 8, .inr (.inr (.inr (.inr (fun _ => none)))))), (q4, .inr (4, [.ref q5, .ref q6, .long 0, .int 0, .int 0])), (q5, .inr (3, [.int 200, .ref q7, .ref q8])), (q6, .inr (2, [.ref q11, .int 1])), (q7, .inr (2, [.ref q9, .int 1])), (q8, .inr (2, [.ref q10, .int 1])), (q9, .inl (tc 1, 16, .inr (.inl (vp_updL (fun _ => 0) (0 : Int32).toNatClampNeg 4000)))), (q10, .inl (tc 1, 16, .inr (.inl (vp_updL (fun _ => 0) (0 : Int32).toNatClampNeg 20)))), (q11, .inl (tc 1, 16, .inr (.inl (vp_updL (fun _ => 0) (0 : Int32).toNatClampNeg 20)))), (q12, .inr (8, [.int 200, .int 5000, .int 600, .long 0, .long 0, .int 0, .long 0, .long 0, .long 0, .long 0])), (q13, .inr (7, [.int 0, .int 0, .int 0, .int 0, .int 0, .int 0, .int 45])), (q14, .inr (2, [.ref q15, .int 0])), (q15, .inl (tc 1, 16, .inr (.inl (fun _ => 0)))), (q16, .inr (2, [.ref q17, .int 0])), (q17, .inl (tc 1, 16, .inr (.inl (fun _ => 0))))] L κ g _ _ := hI
  refine lv_aload_n hx hb dX8_init_90 rfl (lv_at hl 0 rfl) ?_
  refine lv_lconst (v := 0) hx hb dX8_init_91 (by decide) ?_
  refine z_putX (i := 0) (j := 9) hM hI rfl hinX8 tyX8 tyX8_ok nmX8 rfl (by decide) (by decide +kernel) (fun _ h9 => h9) rfl rfl rfl rfl (Nat.le_of_ble_eq_true rfl) dX8_init_92 (fun H locs hI => ?_)
  have hI : zI D tc _ s.heap [(p0, .inr (10, [.ref q1, .ref q2, .ref q3, .ref q4, .ref q12, .ref q13, .ref q14, .ref q16, .int 0, .long 0])), (q1, .inl (tc 4, 3, .inr (.inr (.inr (.inr (fun _ => none)))))), (q2, .inl (tc 3, 6, .inr (.inr (.inr (.inr (fun _ => none)))))), (q3, .inl (tc 5, 8, .inr (.inr (.inr (.inr (fun _ => none)))))), (q4, .inr (4, [.ref q5, .ref q6, .long 0, .int 0, .int 0])), (q5, .inr (3, [.int 200, .ref q7, .ref q8])), (q6, .inr (2, [.ref q11, .int 1])), (q7, .inr (2, [.ref q9, .int 1])), (q8, .inr (2, [.ref q10, .int 1])), (q9, .inl (tc 1, 16, .inr (.inl (vp_updL (fun _ => 0) (0 : Int32).toNatClampNeg 4000)))), (q10, .inl (tc 1, 16, .inr (.inl (vp_updL (fun _ => 0) (0 : Int32).toNatClampNeg 20)))), (q11, .inl (tc 1, 16, .inr (.inl (vp_updL (fun _ => 0) (0 : Int32).toNatClampNeg 20)))), (q12, .inr (8, [.int 200, .int 5000, .int 600, .long 0, .long 0, .int 0, .long 0, .long 0, .long 0, .long 0])), (q13, .inr (7, [.int 0, .int 0, .int 0, .int 0, .int 0, .int 0, .int 45])), (q14, .inr (2, [.ref q15, .int 0])), (q15, .inl (tc 1, 16, .inr (.inl (fun _ => 0)))), (q16, .inr (2, [.ref q17, .int 0])), (q17, .inl (tc 1, 16, .inr (.inl (fun _ => 0))))] L κ g _ _ := hI
  refine lv_iconst (v := 0) hx hb dX8_init_95 (by decide) ?_
  refine lv_istore_n (lv' := [(1, .int 0), (0, .ref p0)]) hx hb dX8_init_96 rfl hl (by decide) rfl (fun ls hl => ?_)
  refine lv_iload_n hx hb dX8_init_97 rfl (lv_at hl 0 rfl) ?_
  refine lv_aload_n hx hb dX8_init_98 rfl (lv_at hl 1 rfl) ?_
  refine z_getX (i := 0) (j := 0) hM hI rfl hinX8 rfl (by decide) (by decide +kernel) (fun _ h9 => h9) rfl dX8_init_99 ?_
  refine z_alenX (i := 1) (v := 3) hM hI rfl rfl (show Int32.ofNat 3 = 3 by decide) dX8_init_102 ?_
  refine lv_icmp_ge (tgt := 125) hx hb dX8_init_103 (by decide) (fun h9 => by first | exact absurd h9 (by decide) | exact absurd (by decide) h9) (fun _ => ?_)
  refine lv_aload_n hx hb dX8_init_106 rfl (lv_at hl 1 rfl) ?_
  refine z_getX (i := 0) (j := 0) hM hI rfl hinX8 rfl (by decide) (by decide +kernel) (fun _ h9 => h9) rfl dX8_init_107 ?_
  refine lv_iload_n hx hb dX8_init_110 rfl (lv_at hl 0 rfl) ?_
  refine z_new (ci := 6) (fs := [.int 0, .int 0]) (C := RX4) (T := TX4) (N := 2) hM hI hinX4 tyX4 tyX4_ok (by decide +kernel) (by decide +kernel) (by decide +kernel) rfl (by decide +kernel) (Nat.le_of_ble_eq_true rfl) (Nat.le_of_ble_eq_true rfl) dX8_init_111 (fun q18 H hI => ?_)
  have hI : zI D tc _ s.heap [(p0, .inr (10, [.ref q1, .ref q2, .ref q3, .ref q4, .ref q12, .ref q13, .ref q14, .ref q16, .int 0, .long 0])), (q1, .inl (tc 4, 3, .inr (.inr (.inr (.inr (fun _ => none)))))), (q2, .inl (tc 3, 6, .inr (.inr (.inr (.inr (fun _ => none)))))), (q3, .inl (tc 5, 8, .inr (.inr (.inr (.inr (fun _ => none)))))), (q4, .inr (4, [.ref q5, .ref q6, .long 0, .int 0, .int 0])), (q5, .inr (3, [.int 200, .ref q7, .ref q8])), (q6, .inr (2, [.ref q11, .int 1])), (q7, .inr (2, [.ref q9, .int 1])), (q8, .inr (2, [.ref q10, .int 1])), (q9, .inl (tc 1, 16, .inr (.inl (vp_updL (fun _ => 0) (0 : Int32).toNatClampNeg 4000)))), (q10, .inl (tc 1, 16, .inr (.inl (vp_updL (fun _ => 0) (0 : Int32).toNatClampNeg 20)))), (q11, .inl (tc 1, 16, .inr (.inl (vp_updL (fun _ => 0) (0 : Int32).toNatClampNeg 20)))), (q12, .inr (8, [.int 200, .int 5000, .int 600, .long 0, .long 0, .int 0, .long 0, .long 0, .long 0, .long 0])), (q13, .inr (7, [.int 0, .int 0, .int 0, .int 0, .int 0, .int 0, .int 45])), (q14, .inr (2, [.ref q15, .int 0])), (q15, .inl (tc 1, 16, .inr (.inl (fun _ => 0)))), (q16, .inr (2, [.ref q17, .int 0])), (q17, .inl (tc 1, 16, .inr (.inl (fun _ => 0)))), (q18, .inr (6, [.int 0, .int 0]))] L κ g _ _ := hI
  refine lv_dup hx hb dX8_init_114 rfl ?_
  refine z_cvX (Xc := ([(q18, .inr (6, [.int 0, .int 0]))] : va_W)) (wr := ([(p0, .inr (10, [.ref q1, .ref q2, .ref q3, .ref q4, .ref q12, .ref q13, .ref q14, .ref q16, .int 0, .long 0])), (q1, .inl (tc 4, 3, .inr (.inr (.inr (.inr (fun _ => none)))))), (q2, .inl (tc 3, 6, .inr (.inr (.inr (.inr (fun _ => none)))))), (q3, .inl (tc 5, 8, .inr (.inr (.inr (.inr (fun _ => none)))))), (q4, .inr (4, [.ref q5, .ref q6, .long 0, .int 0, .int 0])), (q5, .inr (3, [.int 200, .ref q7, .ref q8])), (q6, .inr (2, [.ref q11, .int 1])), (q7, .inr (2, [.ref q9, .int 1])), (q8, .inr (2, [.ref q10, .int 1])), (q9, .inl (tc 1, 16, .inr (.inl (vp_updL (fun _ => 0) (0 : Int32).toNatClampNeg 4000)))), (q10, .inl (tc 1, 16, .inr (.inl (vp_updL (fun _ => 0) (0 : Int32).toNatClampNeg 20)))), (q11, .inl (tc 1, 16, .inr (.inl (vp_updL (fun _ => 0) (0 : Int32).toNatClampNeg 20)))), (q12, .inr (8, [.int 200, .int 5000, .int 600, .long 0, .long 0, .int 0, .long 0, .long 0, .long 0, .long 0])), (q13, .inr (7, [.int 0, .int 0, .int 0, .int 0, .int 0, .int 0, .int 45])), (q14, .inr (2, [.ref q15, .int 0])), (q15, .inl (tc 1, 16, .inr (.inl (fun _ => 0)))), (q16, .inr (2, [.ref q17, .int 0])), (q17, .inl (tc 1, 16, .inr (.inl (fun _ => 0))))] : va_W)) (rx := ([(q18, .inr (6, [.int 500, .int 500]))] : va_W)) [18] [0, 1, 2, 3, 4, 5, 6, 7, 8, 9, 10, 11, 12, 13, 14, 15, 16, 17] rfl rfl rfl rfl (by decide) hI (va_runIN (As := []) (rest := [.ref q18, .int 0, .ref q1]) ⟨hx, hb, hml, hown, hts⟩ (x_X4_init l D tc z0 _ κ g _ q18 ) ⟨va_cnB 0 hts gX8_init_X4_init_n66 rfl rfl rfl (hE.1 (.methodLinkNest RX8 66 yX4_init "Wattgovern") (by decide +kernel) rfl) (hts (.initialized yX4_init.cls) (by decide +kernel)) (by decide +kernel) ⟨Nat.le_of_ble_eq_true rfl, Nat.le_of_ble_eq_true rfl⟩, rfl, (hts (.instanceMethod yX4_init) (by decide +kernel))⟩ (z_pre (Xc := ([(q18, .inr (6, [.int 0, .int 0]))] : va_W)) hK hE hI [18] rfl rfl) rfl rfl hl.1 rfl (lv_room (Nat.le_of_ble_eq_true rfl)) dX8_init_115 ⟨Nat.le_of_ble_eq_true rfl, Nat.le_of_ble_eq_true rfl⟩) (fun u H locs hw hI => ?_)
  obtain rfl := hw
  have hI : zI D tc _ s.heap [(p0, .inr (10, [.ref q1, .ref q2, .ref q3, .ref q4, .ref q12, .ref q13, .ref q14, .ref q16, .int 0, .long 0])), (q1, .inl (tc 4, 3, .inr (.inr (.inr (.inr (fun _ => none)))))), (q2, .inl (tc 3, 6, .inr (.inr (.inr (.inr (fun _ => none)))))), (q3, .inl (tc 5, 8, .inr (.inr (.inr (.inr (fun _ => none)))))), (q4, .inr (4, [.ref q5, .ref q6, .long 0, .int 0, .int 0])), (q5, .inr (3, [.int 200, .ref q7, .ref q8])), (q6, .inr (2, [.ref q11, .int 1])), (q7, .inr (2, [.ref q9, .int 1])), (q8, .inr (2, [.ref q10, .int 1])), (q9, .inl (tc 1, 16, .inr (.inl (vp_updL (fun _ => 0) (0 : Int32).toNatClampNeg 4000)))), (q10, .inl (tc 1, 16, .inr (.inl (vp_updL (fun _ => 0) (0 : Int32).toNatClampNeg 20)))), (q11, .inl (tc 1, 16, .inr (.inl (vp_updL (fun _ => 0) (0 : Int32).toNatClampNeg 20)))), (q12, .inr (8, [.int 200, .int 5000, .int 600, .long 0, .long 0, .int 0, .long 0, .long 0, .long 0, .long 0])), (q13, .inr (7, [.int 0, .int 0, .int 0, .int 0, .int 0, .int 0, .int 45])), (q14, .inr (2, [.ref q15, .int 0])), (q15, .inl (tc 1, 16, .inr (.inl (fun _ => 0)))), (q16, .inr (2, [.ref q17, .int 0])), (q17, .inl (tc 1, 16, .inr (.inl (fun _ => 0)))), (q18, .inr (6, [.int 500, .int 500]))] L κ g _ _ := hI
  refine z_aastE (i := 1) (i2 := 18) hM hI rfl rfl rfl rfl (vp_in_c 0 3 (by decide)) dX8_init_118 (fun H locs hI => ?_)
  have hI : zI D tc _ s.heap [(p0, .inr (10, [.ref q1, .ref q2, .ref q3, .ref q4, .ref q12, .ref q13, .ref q14, .ref q16, .int 0, .long 0])), (q1, .inl (tc 4, 3, .inr (.inr (.inr (.inr (va_up (fun _ => none) (0 : Int32).toNatClampNeg (some q18))))))), (q2, .inl (tc 3, 6, .inr (.inr (.inr (.inr (fun _ => none)))))), (q3, .inl (tc 5, 8, .inr (.inr (.inr (.inr (fun _ => none)))))), (q4, .inr (4, [.ref q5, .ref q6, .long 0, .int 0, .int 0])), (q5, .inr (3, [.int 200, .ref q7, .ref q8])), (q6, .inr (2, [.ref q11, .int 1])), (q7, .inr (2, [.ref q9, .int 1])), (q8, .inr (2, [.ref q10, .int 1])), (q9, .inl (tc 1, 16, .inr (.inl (vp_updL (fun _ => 0) (0 : Int32).toNatClampNeg 4000)))), (q10, .inl (tc 1, 16, .inr (.inl (vp_updL (fun _ => 0) (0 : Int32).toNatClampNeg 20)))), (q11, .inl (tc 1, 16, .inr (.inl (vp_updL (fun _ => 0) (0 : Int32).toNatClampNeg 20)))), (q12, .inr (8, [.int 200, .int 5000, .int 600, .long 0, .long 0, .int 0, .long 0, .long 0, .long 0, .long 0])), (q13, .inr (7, [.int 0, .int 0, .int 0, .int 0, .int 0, .int 0, .int 45])), (q14, .inr (2, [.ref q15, .int 0])), (q15, .inl (tc 1, 16, .inr (.inl (fun _ => 0)))), (q16, .inr (2, [.ref q17, .int 0])), (q17, .inl (tc 1, 16, .inr (.inl (fun _ => 0)))), (q18, .inr (6, [.int 500, .int 500]))] L κ g _ _ := hI
  refine lv_iinc (v := 1) (lv' := [(1, .int 1), (0, .ref p0)]) hx hb dX8_init_119 hl (k := 0) rfl (by decide) (by decide) rfl (fun ls hl => ?_)
  refine lv_goto (tgt := 97) hx hb dX8_init_122 (by decide) ?_
  refine lv_iload_n hx hb dX8_init_97 rfl (lv_at hl 0 rfl) ?_
  refine lv_aload_n hx hb dX8_init_98 rfl (lv_at hl 1 rfl) ?_
  refine z_getX (i := 0) (j := 0) hM hI rfl hinX8 rfl (by decide) (by decide +kernel) (fun _ h9 => h9) rfl dX8_init_99 ?_
  refine z_alenX (i := 1) (v := 3) hM hI rfl rfl (show Int32.ofNat 3 = 3 by decide) dX8_init_102 ?_
  refine lv_icmp_ge (tgt := 125) hx hb dX8_init_103 (by decide) (fun h9 => by first | exact absurd h9 (by decide) | exact absurd (by decide) h9) (fun _ => ?_)
  refine lv_aload_n hx hb dX8_init_106 rfl (lv_at hl 1 rfl) ?_
  refine z_getX (i := 0) (j := 0) hM hI rfl hinX8 rfl (by decide) (by decide +kernel) (fun _ h9 => h9) rfl dX8_init_107 ?_
  refine lv_iload_n hx hb dX8_init_110 rfl (lv_at hl 0 rfl) ?_
  refine z_new (ci := 6) (fs := [.int 0, .int 0]) (C := RX4) (T := TX4) (N := 2) hM hI hinX4 tyX4 tyX4_ok (by decide +kernel) (by decide +kernel) (by decide +kernel) rfl (by decide +kernel) (Nat.le_of_ble_eq_true rfl) (Nat.le_of_ble_eq_true rfl) dX8_init_111 (fun q19 H hI => ?_)
  have hI : zI D tc _ s.heap [(p0, .inr (10, [.ref q1, .ref q2, .ref q3, .ref q4, .ref q12, .ref q13, .ref q14, .ref q16, .int 0, .long 0])), (q1, .inl (tc 4, 3, .inr (.inr (.inr (.inr (va_up (fun _ => none) (0 : Int32).toNatClampNeg (some q18))))))), (q2, .inl (tc 3, 6, .inr (.inr (.inr (.inr (fun _ => none)))))), (q3, .inl (tc 5, 8, .inr (.inr (.inr (.inr (fun _ => none)))))), (q4, .inr (4, [.ref q5, .ref q6, .long 0, .int 0, .int 0])), (q5, .inr (3, [.int 200, .ref q7, .ref q8])), (q6, .inr (2, [.ref q11, .int 1])), (q7, .inr (2, [.ref q9, .int 1])), (q8, .inr (2, [.ref q10, .int 1])), (q9, .inl (tc 1, 16, .inr (.inl (vp_updL (fun _ => 0) (0 : Int32).toNatClampNeg 4000)))), (q10, .inl (tc 1, 16, .inr (.inl (vp_updL (fun _ => 0) (0 : Int32).toNatClampNeg 20)))), (q11, .inl (tc 1, 16, .inr (.inl (vp_updL (fun _ => 0) (0 : Int32).toNatClampNeg 20)))), (q12, .inr (8, [.int 200, .int 5000, .int 600, .long 0, .long 0, .int 0, .long 0, .long 0, .long 0, .long 0])), (q13, .inr (7, [.int 0, .int 0, .int 0, .int 0, .int 0, .int 0, .int 45])), (q14, .inr (2, [.ref q15, .int 0])), (q15, .inl (tc 1, 16, .inr (.inl (fun _ => 0)))), (q16, .inr (2, [.ref q17, .int 0])), (q17, .inl (tc 1, 16, .inr (.inl (fun _ => 0)))), (q18, .inr (6, [.int 500, .int 500])), (q19, .inr (6, [.int 0, .int 0]))] L κ g _ _ := hI
  refine lv_dup hx hb dX8_init_114 rfl ?_
  refine z_cvX (Xc := ([(q19, .inr (6, [.int 0, .int 0]))] : va_W)) (wr := ([(p0, .inr (10, [.ref q1, .ref q2, .ref q3, .ref q4, .ref q12, .ref q13, .ref q14, .ref q16, .int 0, .long 0])), (q1, .inl (tc 4, 3, .inr (.inr (.inr (.inr (va_up (fun _ => none) (0 : Int32).toNatClampNeg (some q18))))))), (q2, .inl (tc 3, 6, .inr (.inr (.inr (.inr (fun _ => none)))))), (q3, .inl (tc 5, 8, .inr (.inr (.inr (.inr (fun _ => none)))))), (q4, .inr (4, [.ref q5, .ref q6, .long 0, .int 0, .int 0])), (q5, .inr (3, [.int 200, .ref q7, .ref q8])), (q6, .inr (2, [.ref q11, .int 1])), (q7, .inr (2, [.ref q9, .int 1])), (q8, .inr (2, [.ref q10, .int 1])), (q9, .inl (tc 1, 16, .inr (.inl (vp_updL (fun _ => 0) (0 : Int32).toNatClampNeg 4000)))), (q10, .inl (tc 1, 16, .inr (.inl (vp_updL (fun _ => 0) (0 : Int32).toNatClampNeg 20)))), (q11, .inl (tc 1, 16, .inr (.inl (vp_updL (fun _ => 0) (0 : Int32).toNatClampNeg 20)))), (q12, .inr (8, [.int 200, .int 5000, .int 600, .long 0, .long 0, .int 0, .long 0, .long 0, .long 0, .long 0])), (q13, .inr (7, [.int 0, .int 0, .int 0, .int 0, .int 0, .int 0, .int 45])), (q14, .inr (2, [.ref q15, .int 0])), (q15, .inl (tc 1, 16, .inr (.inl (fun _ => 0)))), (q16, .inr (2, [.ref q17, .int 0])), (q17, .inl (tc 1, 16, .inr (.inl (fun _ => 0)))), (q18, .inr (6, [.int 500, .int 500]))] : va_W)) (rx := ([(q19, .inr (6, [.int 500, .int 500]))] : va_W)) [19] [0, 1, 2, 3, 4, 5, 6, 7, 8, 9, 10, 11, 12, 13, 14, 15, 16, 17, 18] rfl rfl rfl rfl (by decide) hI (va_runIN (As := []) (rest := [.ref q19, .int 1, .ref q1]) ⟨hx, hb, hml, hown, hts⟩ (x_X4_init l D tc z0 _ κ g _ q19 ) ⟨va_cnB 0 hts gX8_init_X4_init_n66 rfl rfl rfl (hE.1 (.methodLinkNest RX8 66 yX4_init "Wattgovern") (by decide +kernel) rfl) (hts (.initialized yX4_init.cls) (by decide +kernel)) (by decide +kernel) ⟨Nat.le_of_ble_eq_true rfl, Nat.le_of_ble_eq_true rfl⟩, rfl, (hts (.instanceMethod yX4_init) (by decide +kernel))⟩ (z_pre (Xc := ([(q19, .inr (6, [.int 0, .int 0]))] : va_W)) hK hE hI [19] rfl rfl) rfl rfl hl.1 rfl (lv_room (Nat.le_of_ble_eq_true rfl)) dX8_init_115 ⟨Nat.le_of_ble_eq_true rfl, Nat.le_of_ble_eq_true rfl⟩) (fun u H locs hw hI => ?_)
  obtain rfl := hw
  have hI : zI D tc _ s.heap [(p0, .inr (10, [.ref q1, .ref q2, .ref q3, .ref q4, .ref q12, .ref q13, .ref q14, .ref q16, .int 0, .long 0])), (q1, .inl (tc 4, 3, .inr (.inr (.inr (.inr (va_up (fun _ => none) (0 : Int32).toNatClampNeg (some q18))))))), (q2, .inl (tc 3, 6, .inr (.inr (.inr (.inr (fun _ => none)))))), (q3, .inl (tc 5, 8, .inr (.inr (.inr (.inr (fun _ => none)))))), (q4, .inr (4, [.ref q5, .ref q6, .long 0, .int 0, .int 0])), (q5, .inr (3, [.int 200, .ref q7, .ref q8])), (q6, .inr (2, [.ref q11, .int 1])), (q7, .inr (2, [.ref q9, .int 1])), (q8, .inr (2, [.ref q10, .int 1])), (q9, .inl (tc 1, 16, .inr (.inl (vp_updL (fun _ => 0) (0 : Int32).toNatClampNeg 4000)))), (q10, .inl (tc 1, 16, .inr (.inl (vp_updL (fun _ => 0) (0 : Int32).toNatClampNeg 20)))), (q11, .inl (tc 1, 16, .inr (.inl (vp_updL (fun _ => 0) (0 : Int32).toNatClampNeg 20)))), (q12, .inr (8, [.int 200, .int 5000, .int 600, .long 0, .long 0, .int 0, .long 0, .long 0, .long 0, .long 0])), (q13, .inr (7, [.int 0, .int 0, .int 0, .int 0, .int 0, .int 0, .int 45])), (q14, .inr (2, [.ref q15, .int 0])), (q15, .inl (tc 1, 16, .inr (.inl (fun _ => 0)))), (q16, .inr (2, [.ref q17, .int 0])), (q17, .inl (tc 1, 16, .inr (.inl (fun _ => 0)))), (q18, .inr (6, [.int 500, .int 500])), (q19, .inr (6, [.int 500, .int 500]))] L κ g _ _ := hI
  refine z_aastE (i := 1) (i2 := 19) hM hI rfl rfl rfl rfl (vp_in_c 1 3 (by decide)) dX8_init_118 (fun H locs hI => ?_)
  have hI : zI D tc _ s.heap [(p0, .inr (10, [.ref q1, .ref q2, .ref q3, .ref q4, .ref q12, .ref q13, .ref q14, .ref q16, .int 0, .long 0])), (q1, .inl (tc 4, 3, .inr (.inr (.inr (.inr (va_up (va_up (fun _ => none) (0 : Int32).toNatClampNeg (some q18)) (1 : Int32).toNatClampNeg (some q19))))))), (q2, .inl (tc 3, 6, .inr (.inr (.inr (.inr (fun _ => none)))))), (q3, .inl (tc 5, 8, .inr (.inr (.inr (.inr (fun _ => none)))))), (q4, .inr (4, [.ref q5, .ref q6, .long 0, .int 0, .int 0])), (q5, .inr (3, [.int 200, .ref q7, .ref q8])), (q6, .inr (2, [.ref q11, .int 1])), (q7, .inr (2, [.ref q9, .int 1])), (q8, .inr (2, [.ref q10, .int 1])), (q9, .inl (tc 1, 16, .inr (.inl (vp_updL (fun _ => 0) (0 : Int32).toNatClampNeg 4000)))), (q10, .inl (tc 1, 16, .inr (.inl (vp_updL (fun _ => 0) (0 : Int32).toNatClampNeg 20)))), (q11, .inl (tc 1, 16, .inr (.inl (vp_updL (fun _ => 0) (0 : Int32).toNatClampNeg 20)))), (q12, .inr (8, [.int 200, .int 5000, .int 600, .long 0, .long 0, .int 0, .long 0, .long 0, .long 0, .long 0])), (q13, .inr (7, [.int 0, .int 0, .int 0, .int 0, .int 0, .int 0, .int 45])), (q14, .inr (2, [.ref q15, .int 0])), (q15, .inl (tc 1, 16, .inr (.inl (fun _ => 0)))), (q16, .inr (2, [.ref q17, .int 0])), (q17, .inl (tc 1, 16, .inr (.inl (fun _ => 0)))), (q18, .inr (6, [.int 500, .int 500])), (q19, .inr (6, [.int 500, .int 500]))] L κ g _ _ := hI
  refine lv_iinc (v := 2) (lv' := [(1, .int 2), (0, .ref p0)]) hx hb dX8_init_119 hl (k := 0) rfl (by decide) (by decide) rfl (fun ls hl => ?_)
  refine lv_goto (tgt := 97) hx hb dX8_init_122 (by decide) ?_
  refine lv_iload_n hx hb dX8_init_97 rfl (lv_at hl 0 rfl) ?_
  refine lv_aload_n hx hb dX8_init_98 rfl (lv_at hl 1 rfl) ?_
  refine z_getX (i := 0) (j := 0) hM hI rfl hinX8 rfl (by decide) (by decide +kernel) (fun _ h9 => h9) rfl dX8_init_99 ?_
  refine z_alenX (i := 1) (v := 3) hM hI rfl rfl (show Int32.ofNat 3 = 3 by decide) dX8_init_102 ?_
  refine lv_icmp_ge (tgt := 125) hx hb dX8_init_103 (by decide) (fun h9 => by first | exact absurd h9 (by decide) | exact absurd (by decide) h9) (fun _ => ?_)
  refine lv_aload_n hx hb dX8_init_106 rfl (lv_at hl 1 rfl) ?_
  refine z_getX (i := 0) (j := 0) hM hI rfl hinX8 rfl (by decide) (by decide +kernel) (fun _ h9 => h9) rfl dX8_init_107 ?_
  refine lv_iload_n hx hb dX8_init_110 rfl (lv_at hl 0 rfl) ?_
  refine z_new (ci := 6) (fs := [.int 0, .int 0]) (C := RX4) (T := TX4) (N := 2) hM hI hinX4 tyX4 tyX4_ok (by decide +kernel) (by decide +kernel) (by decide +kernel) rfl (by decide +kernel) (Nat.le_of_ble_eq_true rfl) (Nat.le_of_ble_eq_true rfl) dX8_init_111 (fun q20 H hI => ?_)
  have hI : zI D tc _ s.heap [(p0, .inr (10, [.ref q1, .ref q2, .ref q3, .ref q4, .ref q12, .ref q13, .ref q14, .ref q16, .int 0, .long 0])), (q1, .inl (tc 4, 3, .inr (.inr (.inr (.inr (va_up (va_up (fun _ => none) (0 : Int32).toNatClampNeg (some q18)) (1 : Int32).toNatClampNeg (some q19))))))), (q2, .inl (tc 3, 6, .inr (.inr (.inr (.inr (fun _ => none)))))), (q3, .inl (tc 5, 8, .inr (.inr (.inr (.inr (fun _ => none)))))), (q4, .inr (4, [.ref q5, .ref q6, .long 0, .int 0, .int 0])), (q5, .inr (3, [.int 200, .ref q7, .ref q8])), (q6, .inr (2, [.ref q11, .int 1])), (q7, .inr (2, [.ref q9, .int 1])), (q8, .inr (2, [.ref q10, .int 1])), (q9, .inl (tc 1, 16, .inr (.inl (vp_updL (fun _ => 0) (0 : Int32).toNatClampNeg 4000)))), (q10, .inl (tc 1, 16, .inr (.inl (vp_updL (fun _ => 0) (0 : Int32).toNatClampNeg 20)))), (q11, .inl (tc 1, 16, .inr (.inl (vp_updL (fun _ => 0) (0 : Int32).toNatClampNeg 20)))), (q12, .inr (8, [.int 200, .int 5000, .int 600, .long 0, .long 0, .int 0, .long 0, .long 0, .long 0, .long 0])), (q13, .inr (7, [.int 0, .int 0, .int 0, .int 0, .int 0, .int 0, .int 45])), (q14, .inr (2, [.ref q15, .int 0])), (q15, .inl (tc 1, 16, .inr (.inl (fun _ => 0)))), (q16, .inr (2, [.ref q17, .int 0])), (q17, .inl (tc 1, 16, .inr (.inl (fun _ => 0)))), (q18, .inr (6, [.int 500, .int 500])), (q19, .inr (6, [.int 500, .int 500])), (q20, .inr (6, [.int 0, .int 0]))] L κ g _ _ := hI
  refine lv_dup hx hb dX8_init_114 rfl ?_
  refine z_cvX (Xc := ([(q20, .inr (6, [.int 0, .int 0]))] : va_W)) (wr := ([(p0, .inr (10, [.ref q1, .ref q2, .ref q3, .ref q4, .ref q12, .ref q13, .ref q14, .ref q16, .int 0, .long 0])), (q1, .inl (tc 4, 3, .inr (.inr (.inr (.inr (va_up (va_up (fun _ => none) (0 : Int32).toNatClampNeg (some q18)) (1 : Int32).toNatClampNeg (some q19))))))), (q2, .inl (tc 3, 6, .inr (.inr (.inr (.inr (fun _ => none)))))), (q3, .inl (tc 5, 8, .inr (.inr (.inr (.inr (fun _ => none)))))), (q4, .inr (4, [.ref q5, .ref q6, .long 0, .int 0, .int 0])), (q5, .inr (3, [.int 200, .ref q7, .ref q8])), (q6, .inr (2, [.ref q11, .int 1])), (q7, .inr (2, [.ref q9, .int 1])), (q8, .inr (2, [.ref q10, .int 1])), (q9, .inl (tc 1, 16, .inr (.inl (vp_updL (fun _ => 0) (0 : Int32).toNatClampNeg 4000)))), (q10, .inl (tc 1, 16, .inr (.inl (vp_updL (fun _ => 0) (0 : Int32).toNatClampNeg 20)))), (q11, .inl (tc 1, 16, .inr (.inl (vp_updL (fun _ => 0) (0 : Int32).toNatClampNeg 20)))), (q12, .inr (8, [.int 200, .int 5000, .int 600, .long 0, .long 0, .int 0, .long 0, .long 0, .long 0, .long 0])), (q13, .inr (7, [.int 0, .int 0, .int 0, .int 0, .int 0, .int 0, .int 45])), (q14, .inr (2, [.ref q15, .int 0])), (q15, .inl (tc 1, 16, .inr (.inl (fun _ => 0)))), (q16, .inr (2, [.ref q17, .int 0])), (q17, .inl (tc 1, 16, .inr (.inl (fun _ => 0)))), (q18, .inr (6, [.int 500, .int 500])), (q19, .inr (6, [.int 500, .int 500]))] : va_W)) (rx := ([(q20, .inr (6, [.int 500, .int 500]))] : va_W)) [20] [0, 1, 2, 3, 4, 5, 6, 7, 8, 9, 10, 11, 12, 13, 14, 15, 16, 17, 18, 19] rfl rfl rfl rfl (by decide) hI (va_runIN (As := []) (rest := [.ref q20, .int 2, .ref q1]) ⟨hx, hb, hml, hown, hts⟩ (x_X4_init l D tc z0 _ κ g _ q20 ) ⟨va_cnB 0 hts gX8_init_X4_init_n66 rfl rfl rfl (hE.1 (.methodLinkNest RX8 66 yX4_init "Wattgovern") (by decide +kernel) rfl) (hts (.initialized yX4_init.cls) (by decide +kernel)) (by decide +kernel) ⟨Nat.le_of_ble_eq_true rfl, Nat.le_of_ble_eq_true rfl⟩, rfl, (hts (.instanceMethod yX4_init) (by decide +kernel))⟩ (z_pre (Xc := ([(q20, .inr (6, [.int 0, .int 0]))] : va_W)) hK hE hI [20] rfl rfl) rfl rfl hl.1 rfl (lv_room (Nat.le_of_ble_eq_true rfl)) dX8_init_115 ⟨Nat.le_of_ble_eq_true rfl, Nat.le_of_ble_eq_true rfl⟩) (fun u H locs hw hI => ?_)
  obtain rfl := hw
  have hI : zI D tc _ s.heap [(p0, .inr (10, [.ref q1, .ref q2, .ref q3, .ref q4, .ref q12, .ref q13, .ref q14, .ref q16, .int 0, .long 0])), (q1, .inl (tc 4, 3, .inr (.inr (.inr (.inr (va_up (va_up (fun _ => none) (0 : Int32).toNatClampNeg (some q18)) (1 : Int32).toNatClampNeg (some q19))))))), (q2, .inl (tc 3, 6, .inr (.inr (.inr (.inr (fun _ => none)))))), (q3, .inl (tc 5, 8, .inr (.inr (.inr (.inr (fun _ => none)))))), (q4, .inr (4, [.ref q5, .ref q6, .long 0, .int 0, .int 0])), (q5, .inr (3, [.int 200, .ref q7, .ref q8])), (q6, .inr (2, [.ref q11, .int 1])), (q7, .inr (2, [.ref q9, .int 1])), (q8, .inr (2, [.ref q10, .int 1])), (q9, .inl (tc 1, 16, .inr (.inl (vp_updL (fun _ => 0) (0 : Int32).toNatClampNeg 4000)))), (q10, .inl (tc 1, 16, .inr (.inl (vp_updL (fun _ => 0) (0 : Int32).toNatClampNeg 20)))), (q11, .inl (tc 1, 16, .inr (.inl (vp_updL (fun _ => 0) (0 : Int32).toNatClampNeg 20)))), (q12, .inr (8, [.int 200, .int 5000, .int 600, .long 0, .long 0, .int 0, .long 0, .long 0, .long 0, .long 0])), (q13, .inr (7, [.int 0, .int 0, .int 0, .int 0, .int 0, .int 0, .int 45])), (q14, .inr (2, [.ref q15, .int 0])), (q15, .inl (tc 1, 16, .inr (.inl (fun _ => 0)))), (q16, .inr (2, [.ref q17, .int 0])), (q17, .inl (tc 1, 16, .inr (.inl (fun _ => 0)))), (q18, .inr (6, [.int 500, .int 500])), (q19, .inr (6, [.int 500, .int 500])), (q20, .inr (6, [.int 500, .int 500]))] L κ g _ _ := hI
  refine z_aastE (i := 1) (i2 := 20) hM hI rfl rfl rfl rfl (vp_in_c 2 3 (by decide)) dX8_init_118 (fun H locs hI => ?_)
  have hI : zI D tc _ s.heap [(p0, .inr (10, [.ref q1, .ref q2, .ref q3, .ref q4, .ref q12, .ref q13, .ref q14, .ref q16, .int 0, .long 0])), (q1, .inl (tc 4, 3, .inr (.inr (.inr (.inr (va_up (va_up (va_up (fun _ => none) (0 : Int32).toNatClampNeg (some q18)) (1 : Int32).toNatClampNeg (some q19)) (2 : Int32).toNatClampNeg (some q20))))))), (q2, .inl (tc 3, 6, .inr (.inr (.inr (.inr (fun _ => none)))))), (q3, .inl (tc 5, 8, .inr (.inr (.inr (.inr (fun _ => none)))))), (q4, .inr (4, [.ref q5, .ref q6, .long 0, .int 0, .int 0])), (q5, .inr (3, [.int 200, .ref q7, .ref q8])), (q6, .inr (2, [.ref q11, .int 1])), (q7, .inr (2, [.ref q9, .int 1])), (q8, .inr (2, [.ref q10, .int 1])), (q9, .inl (tc 1, 16, .inr (.inl (vp_updL (fun _ => 0) (0 : Int32).toNatClampNeg 4000)))), (q10, .inl (tc 1, 16, .inr (.inl (vp_updL (fun _ => 0) (0 : Int32).toNatClampNeg 20)))), (q11, .inl (tc 1, 16, .inr (.inl (vp_updL (fun _ => 0) (0 : Int32).toNatClampNeg 20)))), (q12, .inr (8, [.int 200, .int 5000, .int 600, .long 0, .long 0, .int 0, .long 0, .long 0, .long 0, .long 0])), (q13, .inr (7, [.int 0, .int 0, .int 0, .int 0, .int 0, .int 0, .int 45])), (q14, .inr (2, [.ref q15, .int 0])), (q15, .inl (tc 1, 16, .inr (.inl (fun _ => 0)))), (q16, .inr (2, [.ref q17, .int 0])), (q17, .inl (tc 1, 16, .inr (.inl (fun _ => 0)))), (q18, .inr (6, [.int 500, .int 500])), (q19, .inr (6, [.int 500, .int 500])), (q20, .inr (6, [.int 500, .int 500]))] L κ g _ _ := hI
  refine lv_iinc (v := 3) (lv' := [(1, .int 3), (0, .ref p0)]) hx hb dX8_init_119 hl (k := 0) rfl (by decide) (by decide) rfl (fun ls hl => ?_)
  refine lv_goto (tgt := 97) hx hb dX8_init_122 (by decide) ?_
  refine lv_iload_n hx hb dX8_init_97 rfl (lv_at hl 0 rfl) ?_
  refine lv_aload_n hx hb dX8_init_98 rfl (lv_at hl 1 rfl) ?_
  refine z_getX (i := 0) (j := 0) hM hI rfl hinX8 rfl (by decide) (by decide +kernel) (fun _ h9 => h9) rfl dX8_init_99 ?_
  refine z_alenX (i := 1) (v := 3) hM hI rfl rfl (show Int32.ofNat 3 = 3 by decide) dX8_init_102 ?_
  refine lv_icmp_ge (tgt := 125) hx hb dX8_init_103 (by decide) (fun _ => ?_) (fun h9 => by first | exact absurd h9 (by decide) | exact absurd (by decide) h9)
  have hI := z_part (X' := ([(p0, .inr (10, [.ref q1, .ref q2, .ref q3, .ref q4, .ref q12, .ref q13, .ref q14, .ref q16, .int 0, .long 0])), (q1, .inl (tc 4, 3, .inr (.inr (.inr (.inr (va_up (va_up (va_up (fun _ => none) (0 : Int32).toNatClampNeg (some q18)) (1 : Int32).toNatClampNeg (some q19)) (2 : Int32).toNatClampNeg (some q20))))))), (q2, .inl (tc 3, 6, .inr (.inr (.inr (.inr (fun _ => none)))))), (q3, .inl (tc 5, 8, .inr (.inr (.inr (.inr (fun _ => none)))))), (q4, .inr (4, [.ref q5, .ref q6, .long 0, .int 0, .int 0])), (q12, .inr (8, [.int 200, .int 5000, .int 600, .long 0, .long 0, .int 0, .long 0, .long 0, .long 0, .long 0])), (q5, .inr (3, [.int 200, .ref q7, .ref q8])), (q13, .inr (7, [.int 0, .int 0, .int 0, .int 0, .int 0, .int 0, .int 45])), (q6, .inr (2, [.ref q11, .int 1])), (q14, .inr (2, [.ref q15, .int 0])), (q7, .inr (2, [.ref q9, .int 1])), (q16, .inr (2, [.ref q17, .int 0])), (q8, .inr (2, [.ref q10, .int 1])), (q18, .inr (6, [.int 500, .int 500])), (q9, .inl (tc 1, 16, .inr (.inl (vp_updL (fun _ => 0) (0 : Int32).toNatClampNeg 4000)))), (q19, .inr (6, [.int 500, .int 500])), (q10, .inl (tc 1, 16, .inr (.inl (vp_updL (fun _ => 0) (0 : Int32).toNatClampNeg 20)))), (q20, .inr (6, [.int 500, .int 500])), (q11, .inl (tc 1, 16, .inr (.inl (vp_updL (fun _ => 0) (0 : Int32).toNatClampNeg 20)))), (q15, .inl (tc 1, 16, .inr (.inl (fun _ => 0)))), (q17, .inl (tc 1, 16, .inr (.inl (fun _ => 0))))] : va_W)) [0, 1, 2, 3, 4, 12, 5, 13, 6, 14, 7, 16, 8, 18, 9, 19, 10, 20, 11, 15, 17] rfl rfl hI
  exact W.vret hx hb hr (fun t ht hW => ⟨⟨(q1, q2, q3, q4, q12, q5, q13, q6, q14, q7, q16, q8, q18, q9, q19, q10, q20, q11, q15, q17, (L, κ, g)), rfl, rfl, z_end hK hI ht hW⟩, z_F hI ht⟩) (z_locs hI) dX8_init_125
