set_option maxHeartbeats 4000000 in
set_option maxRecDepth 100000 in
theorem x_Jx4a65c_init (l : Launch) (D : va_G) (tc : Nat → ClassId) (z0 : Nat) (L : List Nat) (κ : Nat → Nat) (g : Nat → Nat → Value) (sz : Nat) (q : Nat) : Met l yJx4a65c_init_da8c8 wsJx4a65c_init_da8c8 ({ frames := 3, cells := 0, slots := 0, locals := 60 }) (zPc D tc z0 [.ref q] ([(q, .inr (1, [.int 0, .null, .int 0]))] : va_W) (L, κ, g) sz) (va_Qv (fun (u : zS) => u = (L, κ, g)) (fun (u : zS) (t : State) => zB D tc (zA ([(q, .inr (1, [.int 0, .null, .int 0]))] : va_W) L sz) [(q, .inr (1, [.int 0, .ref z0, .int 0]))] u t) (zA ([(q, .inr (1, [.int 0, .null, .int 0]))] : va_W) L sz)) 0 0 (zA ([(q, .inr (1, [.int 0, .null, .int 0]))] : va_W) L sz) := by
  refine Met.ofW (cc := cJx4a65c_init_da8c8) (maxL := 1) (ret := none) (by decide) rfl ?_
  intro p e9 s m args below meth c s₁ B hml hv
  obtain ⟨rfl, rfl, hK, hE, hI⟩ := hv.opn
  have hx := B.exec
  have hb := B.bytes
  have hr := B.returns
  have hts := atoms_spec (ws := wsJx4a65c_init_da8c8) B.pre
  have hown : s.vm.findClass RJx4a65c = some m.cls := findClass_of_methodNamed B.named
  have hlocks := B.notSynchronized
  have hM : zM p s m c cJx4a65c_init_da8c8 _ wsJx4a65c_init_da8c8 RJx4a65c D tc := ⟨hx, hb, hts, hown, hK⟩
  have hin2 : meth.name = "<init>" := (name_of_methodNamed B.named B.method).1
  have hl := lv_entry ([.ref q]) (n := 1) (Nat.le_of_ble_eq_true rfl)
  rw [lg_entry_eq]
  generalize (lg_sl ([.ref q]) ++ List.replicate (1 - (lg_sl ([.ref q])).length) Slot.unset).toArray = ls at hl ⊢
  have hl : lv_has ls 1 [(0, .ref q)] := hl
  have hin7 : ∀ w ∈ wsJx4a65c0, w ∈ wsJx4a65c_init_da8c8 := by decide +kernel
  obtain ⟨-, -, -, -, -, -, ⟨hz1, hz2⟩, -⟩ := id hE
  refine lv_aload_n hx hb dJx4a65c_init_da8c8_0 rfl (lv_at hl 0 rfl) ?_
  refine z_cvX (Xc := [(q, .inr (1, [.int 0, .null, .int 0]))]) (wr := []) (rx := [(q, .inr (1, [.int 0, .null, .int 0]))]) [0] [] rfl rfl rfl rfl (by decide) hI (va_runI (As := []) (rest := []) ⟨hx, hb, hml, hown, hts⟩ (c_Jxc12de_init_da8c8 l D tc z0 _ κ g _ q) (cwI 0 hts gJx4a65c_init_da8c8_Jxc12de_init_da8c8 rfl rfl rfl (hts (.initialized RJxc12de) (by decide +kernel)) (hts (.methodLink RJx4a65c 1 yJxc12de_init_da8c8) (by decide +kernel)) (hts (.instanceMethod yJxc12de_init_da8c8) (by decide +kernel)) rfl (by decide +kernel) ⟨Nat.le_of_ble_eq_true rfl, Nat.le_of_ble_eq_true rfl⟩) (z_pre (Xc := [(q, .inr (1, [.int 0, .null, .int 0]))]) hK hE hI [0] rfl rfl) rfl rfl hl.1 rfl (lv_room (Nat.le_of_ble_eq_true rfl)) dJx4a65c_init_da8c8_1 ⟨Nat.le_of_ble_eq_true rfl, Nat.le_of_ble_eq_true rfl⟩) (fun u H locs hw hI => ?_)
  obtain rfl := hw
  have hI : zI D tc _ s.heap [(q, .inr (1, [.int 0, .null, .int 0]))] L κ g _ _ := hI
  refine lv_aload_n hx hb dJx4a65c_init_da8c8_4 rfl (lv_at hl 0 rfl) ?_
  refine va_gets hx hb hz1 hI.2.1 hown (hts (.fieldLink RJx4a65c 39 "java/util/ArrayList" "DEFAULTCAPACITY_EMPTY_ELEMENTDATA" "[Ljava/lang/Object;") (by decide +kernel)) (fun _ h9 => h9) dJx4a65c_init_da8c8_5 ?_
  refine z_putX (i := 0) (j := 1) hM hI rfl hin7 tyJx4a65c tyJx4a65c_ok nmJx4a65c rfl (by decide) (by decide +kernel) (fun _ h9 => h9) rfl rfl rfl rfl (Nat.le_of_ble_eq_true rfl) dJx4a65c_init_da8c8_8 (fun H locs hI => ?_)
  exact W.vret hx hb hr (fun t ht hW => ⟨⟨(L, κ, g), rfl, rfl, z_end hK hI ht hW⟩, z_F hI ht⟩) (z_locs hI) dJx4a65c_init_da8c8_11

set_option maxHeartbeats 4000000 in
set_option maxRecDepth 100000 in
theorem x_X11_init (l : Launch) (D : va_G) (tc : Nat → ClassId) (z0 : Nat) (L : List Nat) (κ : Nat → Nat) (g : Nat → Nat → Value) (sz : Nat) (p0 : Nat)  : Met l yX11_init wsX11_init ({ frames := 4, cells := 4, slots := 15, locals := 80 }) (zPc D tc z0 [.ref p0] ([(p0, .inr (13, [.null, .null, .null, .null, .int 0, .int 0, .int 0, .int 0, .int 0, .int 0, .int 0, .int 0, .int 0, .int 0, .int 0, .int 0, .int 0, .int 0, .int 0, .long 0, .long 0, .long 0, .long 0, .long 0, .long 0, .int 0, .int 0]))] : va_W) (L, κ, g) sz) (va_Qv (fun (u : (Nat × Nat × Nat × Nat × zS)) => u.2.2.2.2 = (L, κ, g)) (fun (u : (Nat × Nat × Nat × Nat × zS)) (t : State) => zB D tc (zA ([(p0, .inr (13, [.null, .null, .null, .null, .int 0, .int 0, .int 0, .int 0, .int 0, .int 0, .int 0, .int 0, .int 0, .int 0, .int 0, .int 0, .int 0, .int 0, .int 0, .long 0, .long 0, .long 0, .long 0, .long 0, .long 0, .int 0, .int 0]))] : va_W) L sz) ([(p0, .inr (13, [.ref u.1, .ref u.2.1, .ref u.2.2.1, .ref u.2.2.2.1, .int 0, .int 4000, .int 0, .int 200, .int 5000, .int 600, .int 0, .int 0, .int 0, .int 0, .int 0, .int 0, .int 0, .int 0, .int 0, .long 0, .long 0, .long 0, .long 0, .long 0, .long 0, .int 0, .int 45])), (u.1, .inr (1, [.int 0, .ref z0, .int 0])), (u.2.1, .inr (1, [.int 0, .ref z0, .int 0])), (u.2.2.1, .inl (tc 0, 3, .inl (upd (upd (upd (fun _ => 0) (0 : Int32).toNatClampNeg 500) (1 : Int32).toNatClampNeg 500) (2 : Int32).toNatClampNeg 500))), (u.2.2.2.1, .inl (tc 0, 6, .inl (fun _ => 0)))] : va_W) u.2.2.2.2 t) (zA ([(p0, .inr (13, [.null, .null, .null, .null, .int 0, .int 0, .int 0, .int 0, .int 0, .int 0, .int 0, .int 0, .int 0, .int 0, .int 0, .int 0, .int 0, .int 0, .int 0, .long 0, .long 0, .long 0, .long 0, .long 0, .long 0, .int 0, .int 0]))] : va_W) L sz)) 4 15 (zA ([(p0, .inr (13, [.null, .null, .null, .null, .int 0, .int 0, .int 0, .int 0, .int 0, .int 0, .int 0, .int 0, .int 0, .int 0, .int 0, .int 0, .int 0, .int 0, .int 0, .long 0, .long 0, .long 0, .long 0, .long 0, .long 0, .int 0, .int 0]))] : va_W) L sz) := by
  refine Met.ofW (cc := cX11_init) (maxL := 1) (ret := none) (by decide) rfl ?_
  intro p e9 s m args below meth c s₁ B hml hv
  obtain ⟨rfl, rfl, hK, hE, hI⟩ := hv.opn
  have hx := B.exec
  have hb := B.bytes
  have hr := B.returns
  have hts := atoms_spec (ws := wsX11_init) B.pre
  have hown : s.vm.findClass RX11 = some m.cls := findClass_of_methodNamed B.named
  have hlocks := B.notSynchronized
  have hin2 : meth.name = "<init>" := (name_of_methodNamed B.named B.method).1
  have hM : zM p s m c cX11_init _ wsX11_init RX11 D tc := ⟨hx, hb, hts, hown, hK⟩
  have hinJx4a65c : ∀ w ∈ wsJx4a65c0, w ∈ wsX11_init := by decide +kernel
  have hinX11 : ∀ w ∈ wsX110, w ∈ wsX11_init := by decide +kernel
  have hl := lv_entry ([.ref p0]) (n := 1) (Nat.le_of_ble_eq_true rfl)
  rw [lg_entry_eq]
  generalize (lg_sl ([.ref p0]) ++ List.replicate (1 - (lg_sl ([.ref p0])).length) Slot.unset).toArray = ls at hl ⊢
  have hl : lv_has ls 1 [(0, .ref p0)] := hl
  refine lv_aload_n hx hb dX11_init_0 rfl (lv_at hl 0 rfl) ?_
  refine W.objInit hx hb hown (hts (.methodLink RX11 1 objectInit) (by decide +kernel)) (hts (.instanceMethod objectInit) (by decide +kernel)) (hts (.code objectInit ⟨#[0xb1]⟩ 1 none) (by decide +kernel)) rfl (by rw [hml]; exact hl.1) rfl dX11_init_1 (Nat.le_of_ble_eq_true rfl) (Nat.le_of_ble_eq_true rfl) ?_
  refine W.eq (g2 := F0 m 4 ls []) rfl ?_
  refine lv_aload_n hx hb dX11_init_4 rfl (lv_at hl 0 rfl) ?_
  refine z_new (ci := 1) (fs := [.int 0, .null, .int 0]) (C := RJx4a65c) (T := TJx4a65c) (N := 3) hM hI hinJx4a65c tyJx4a65c tyJx4a65c_ok (by decide +kernel) (by decide +kernel) (by decide +kernel) rfl (by decide +kernel) (Nat.le_of_ble_eq_true rfl) (Nat.le_of_ble_eq_true rfl) dX11_init_5 (fun q1 H hI => ?_)
  have hI : zI D tc _ s.heap [(p0, .inr (13, [.null, .null, .null, .null, .int 0, .int 0, .int 0, .int 0, .int 0, .int 0, .int 0, .int 0, .int 0, .int 0, .int 0, .int 0, .int 0, .int 0, .int 0, .long 0, .long 0, .long 0, .long 0, .long 0, .long 0, .int 0, .int 0])), (q1, .inr (1, [.int 0, .null, .int 0]))] L κ g _ _ := hI
  refine lv_dup hx hb dX11_init_8 rfl ?_
  refine z_cvX (Xc := ([(q1, .inr (1, [.int 0, .null, .int 0]))] : va_W)) (wr := ([(p0, .inr (13, [.null, .null, .null, .null, .int 0, .int 0, .int 0, .int 0, .int 0, .int 0, .int 0, .int 0, .int 0, .int 0, .int 0, .int 0, .int 0, .int 0, .int 0, .long 0, .long 0, .long 0, .long 0, .long 0, .long 0, .int 0, .int 0]))] : va_W)) (rx := ([(q1, .inr (1, [.int 0, .ref z0, .int 0]))] : va_W)) [1] [0] rfl rfl rfl rfl (by decide) hI (va_runI (As := []) (rest := [.ref q1, .ref p0]) ⟨hx, hb, hml, hown, hts⟩ (x_Jx4a65c_init l D tc z0 _ κ g _ q1 ) (cwI 0 hts gX11_init_Jx4a65c_init_da8c8 rfl rfl rfl (hts (.initialized RJx4a65c) (by decide +kernel)) (hts (.methodLink RX11 9 yJx4a65c_init_da8c8) (by decide +kernel)) (hts (.instanceMethod yJx4a65c_init_da8c8) (by decide +kernel)) rfl (by decide +kernel) ⟨Nat.le_of_ble_eq_true rfl, Nat.le_of_ble_eq_true rfl⟩) (z_pre (Xc := ([(q1, .inr (1, [.int 0, .null, .int 0]))] : va_W)) hK hE hI [1] rfl rfl) rfl rfl hl.1 rfl (lv_room (Nat.le_of_ble_eq_true rfl)) dX11_init_9 ⟨Nat.le_of_ble_eq_true rfl, Nat.le_of_ble_eq_true rfl⟩) (fun u H locs hw hI => ?_)
  obtain rfl := hw
  have hI : zI D tc _ s.heap [(p0, .inr (13, [.null, .null, .null, .null, .int 0, .int 0, .int 0, .int 0, .int 0, .int 0, .int 0, .int 0, .int 0, .int 0, .int 0, .int 0, .int 0, .int 0, .int 0, .long 0, .long 0, .long 0, .long 0, .long 0, .long 0, .int 0, .int 0])), (q1, .inr (1, [.int 0, .ref z0, .int 0]))] L κ g _ _ := hI
  refine z_putXF (i := 0) (j := 0) hM hI hin2 rfl hinX11 tyX11 tyX11_ok nmX11 rfl (by decide) (by decide +kernel) (fun _ h9 => h9) rfl rfl rfl rfl rfl (Nat.le_of_ble_eq_true rfl) dX11_init_12 (fun H locs hI => ?_)
  have hI : zI D tc _ s.heap [(p0, .inr (13, [.ref q1, .null, .null, .null, .int 0, .int 0, .int 0, .int 0, .int 0, .int 0, .int 0, .int 0, .int 0, .int 0, .int 0, .int 0, .int 0, .int 0, .int 0, .long 0, .long 0, .long 0, .long 0, .long 0, .long 0, .int 0, .int 0])), (q1, .inr (1, [.int 0, .ref z0, .int 0]))] L κ g _ _ := hI
  refine lv_aload_n hx hb dX11_init_15 rfl (lv_at hl 0 rfl) ?_
  refine z_new (ci := 1) (fs := [.int 0, .null, .int 0]) (C := RJx4a65c) (T := TJx4a65c) (N := 3) hM hI hinJx4a65c tyJx4a65c tyJx4a65c_ok (by decide +kernel) (by decide +kernel) (by decide +kernel) rfl (by decide +kernel) (Nat.le_of_ble_eq_true rfl) (Nat.le_of_ble_eq_true rfl) dX11_init_16 (fun q2 H hI => ?_)
  have hI : zI D tc _ s.heap [(p0, .inr (13, [.ref q1, .null, .null, .null, .int 0, .int 0, .int 0, .int 0, .int 0, .int 0, .int 0, .int 0, .int 0, .int 0, .int 0, .int 0, .int 0, .int 0, .int 0, .long 0, .long 0, .long 0, .long 0, .long 0, .long 0, .int 0, .int 0])), (q1, .inr (1, [.int 0, .ref z0, .int 0])), (q2, .inr (1, [.int 0, .null, .int 0]))] L κ g _ _ := hI
  refine lv_dup hx hb dX11_init_19 rfl ?_
  refine z_cvX (Xc := ([(q2, .inr (1, [.int 0, .null, .int 0]))] : va_W)) (wr := ([(p0, .inr (13, [.ref q1, .null, .null, .null, .int 0, .int 0, .int 0, .int 0, .int 0, .int 0, .int 0, .int 0, .int 0, .int 0, .int 0, .int 0, .int 0, .int 0, .int 0, .long 0, .long 0, .long 0, .long 0, .long 0, .long 0, .int 0, .int 0])), (q1, .inr (1, [.int 0, .ref z0, .int 0]))] : va_W)) (rx := ([(q2, .inr (1, [.int 0, .ref z0, .int 0]))] : va_W)) [2] [0, 1] rfl rfl rfl rfl (by decide) hI (va_runI (As := []) (rest := [.ref q2, .ref p0]) ⟨hx, hb, hml, hown, hts⟩ (x_Jx4a65c_init l D tc z0 _ κ g _ q2 ) (cwI 0 hts gX11_init_Jx4a65c_init_da8c8 rfl rfl rfl (hts (.initialized RJx4a65c) (by decide +kernel)) (hts (.methodLink RX11 9 yJx4a65c_init_da8c8) (by decide +kernel)) (hts (.instanceMethod yJx4a65c_init_da8c8) (by decide +kernel)) rfl (by decide +kernel) ⟨Nat.le_of_ble_eq_true rfl, Nat.le_of_ble_eq_true rfl⟩) (z_pre (Xc := ([(q2, .inr (1, [.int 0, .null, .int 0]))] : va_W)) hK hE hI [2] rfl rfl) rfl rfl hl.1 rfl (lv_room (Nat.le_of_ble_eq_true rfl)) dX11_init_20 ⟨Nat.le_of_ble_eq_true rfl, Nat.le_of_ble_eq_true rfl⟩) (fun u H locs hw hI => ?_)
  obtain rfl := hw
  have hI : zI D tc _ s.heap [(p0, .inr (13, [.ref q1, .null, .null, .null, .int 0, .int 0, .int 0, .int 0, .int 0, .int 0, .int 0, .int 0, .int 0, .int 0, .int 0, .int 0, .int 0, .int 0, .int 0, .long 0, .long 0, .long 0, .long 0, .long 0, .long 0, .int 0, .int 0])), (q1, .inr (1, [.int 0, .ref z0, .int 0])), (q2, .inr (1, [.int 0, .ref z0, .int 0]))] L κ g _ _ := hI
  refine z_putXF (i := 0) (j := 1) hM hI hin2 rfl hinX11 tyX11 tyX11_ok nmX11 rfl (by decide) (by decide +kernel) (fun _ h9 => h9) rfl rfl rfl rfl rfl (Nat.le_of_ble_eq_true rfl) dX11_init_23 (fun H locs hI => ?_)
  have hI : zI D tc _ s.heap [(p0, .inr (13, [.ref q1, .ref q2, .null, .null, .int 0, .int 0, .int 0, .int 0, .int 0, .int 0, .int 0, .int 0, .int 0, .int 0, .int 0, .int 0, .int 0, .int 0, .int 0, .long 0, .long 0, .long 0, .long 0, .long 0, .long 0, .int 0, .int 0])), (q1, .inr (1, [.int 0, .ref z0, .int 0])), (q2, .inr (1, [.int 0, .ref z0, .int 0]))] L κ g _ _ := hI
  refine lv_aload_n hx hb dX11_init_26 rfl (lv_at hl 0 rfl) ?_
  refine lv_iconst (v := 3) hx hb dX11_init_27 (by decide) ?_
  refine z_newa (ty := .int) (ti := 0) (n := 3) hM hI (by decide +kernel) rfl rfl (by intro C h; cases h) (3, .inl (fun _ => 0)) (fun cA => rfl) (by decide) (by decide) (by decide) (Nat.le_of_ble_eq_true rfl) (Nat.le_of_ble_eq_true rfl) dX11_init_28 (fun q3 H hI => ?_)
  have hI : zI D tc _ s.heap [(p0, .inr (13, [.ref q1, .ref q2, .null, .null, .int 0, .int 0, .int 0, .int 0, .int 0, .int 0, .int 0, .int 0, .int 0, .int 0, .int 0, .int 0, .int 0, .int 0, .int 0, .long 0, .long 0, .long 0, .long 0, .long 0, .long 0, .int 0, .int 0])), (q1, .inr (1, [.int 0, .ref z0, .int 0])), (q2, .inr (1, [.int 0, .ref z0, .int 0])), (q3, .inl (tc 0, 3, .inl (fun _ => 0)))] L κ g _ _ := hI
  refine lv_dup hx hb dX11_init_30 rfl ?_
  refine lv_iconst (v := 0) hx hb dX11_init_31 (by decide) ?_
  refine lv_sipush (v := 500) hx hb dX11_init_32 (by decide) ?_
  refine z_iastE (i := 3) hM hI rfl (vp_in_c 0 3 (by decide)) dX11_init_35 (fun H locs hI => ?_)
  have hI : zI D tc _ s.heap [(p0, .inr (13, [.ref q1, .ref q2, .null, .null, .int 0, .int 0, .int 0, .int 0, .int 0, .int 0, .int 0, .int 0, .int 0, .int 0, .int 0, .int 0, .int 0, .int 0, .int 0, .long 0, .long 0, .long 0, .long 0, .long 0, .long 0, .int 0, .int 0])), (q1, .inr (1, [.int 0, .ref z0, .int 0])), (q2, .inr (1, [.int 0, .ref z0, .int 0])), (q3, .inl (tc 0, 3, .inl (upd (fun _ => 0) (0 : Int32).toNatClampNeg 500)))] L κ g _ _ := hI
  refine lv_dup hx hb dX11_init_36 rfl ?_
  refine lv_iconst (v := 1) hx hb dX11_init_37 (by decide) ?_
  refine lv_sipush (v := 500) hx hb dX11_init_38 (by decide) ?_
  refine z_iastE (i := 3) hM hI rfl (vp_in_c 1 3 (by decide)) dX11_init_41 (fun H locs hI => ?_)
  have hI : zI D tc _ s.heap [(p0, .inr (13, [.ref q1, .ref q2, .null, .null, .int 0, .int 0, .int 0, .int 0, .int 0, .int 0, .int 0, .int 0, .int 0, .int 0, .int 0, .int 0, .int 0, .int 0, .int 0, .long 0, .long 0, .long 0, .long 0, .long 0, .long 0, .int 0, .int 0])), (q1, .inr (1, [.int 0, .ref z0, .int 0])), (q2, .inr (1, [.int 0, .ref z0, .int 0])), (q3, .inl (tc 0, 3, .inl (upd (upd (fun _ => 0) (0 : Int32).toNatClampNeg 500) (1 : Int32).toNatClampNeg 500)))] L κ g _ _ := hI
  refine lv_dup hx hb dX11_init_42 rfl ?_
  refine lv_iconst (v := 2) hx hb dX11_init_43 (by decide) ?_
  refine lv_sipush (v := 500) hx hb dX11_init_44 (by decide) ?_
  refine z_iastE (i := 3) hM hI rfl (vp_in_c 2 3 (by decide)) dX11_init_47 (fun H locs hI => ?_)
  have hI : zI D tc _ s.heap [(p0, .inr (13, [.ref q1, .ref q2, .null, .null, .int 0, .int 0, .int 0, .int 0, .int 0, .int 0, .int 0, .int 0, .int 0, .int 0, .int 0, .int 0, .int 0, .int 0, .int 0, .long 0, .long 0, .long 0, .long 0, .long 0, .long 0, .int 0, .int 0])), (q1, .inr (1, [.int 0, .ref z0, .int 0])), (q2, .inr (1, [.int 0, .ref z0, .int 0])), (q3, .inl (tc 0, 3, .inl (upd (upd (upd (fun _ => 0) (0 : Int32).toNatClampNeg 500) (1 : Int32).toNatClampNeg 500) (2 : Int32).toNatClampNeg 500)))] L κ g _ _ := hI
  refine z_putXF (i := 0) (j := 2) hM hI hin2 rfl hinX11 tyX11 tyX11_ok nmX11 rfl (by decide) (by decide +kernel) (fun _ h9 => h9) rfl rfl rfl rfl rfl (Nat.le_of_ble_eq_true rfl) dX11_init_48 (fun H locs hI => ?_)
  have hI : zI D tc _ s.heap [(p0, .inr (13, [.ref q1, .ref q2, .ref q3, .null, .int 0, .int 0, .int 0, .int 0, .int 0, .int 0, .int 0, .int 0, .int 0, .int 0, .int 0, .int 0, .int 0, .int 0, .int 0, .long 0, .long 0, .long 0, .long 0, .long 0, .long 0, .int 0, .int 0])), (q1, .inr (1, [.int 0, .ref z0, .int 0])), (q2, .inr (1, [.int 0, .ref z0, .int 0])), (q3, .inl (tc 0, 3, .inl (upd (upd (upd (fun _ => 0) (0 : Int32).toNatClampNeg 500) (1 : Int32).toNatClampNeg 500) (2 : Int32).toNatClampNeg 500)))] L κ g _ _ := hI
  refine lv_aload_n hx hb dX11_init_51 rfl (lv_at hl 0 rfl) ?_
  refine lv_bipush (v := 6) hx hb dX11_init_52 (by decide) ?_
  refine z_newa (ty := .int) (ti := 0) (n := 6) hM hI (by decide +kernel) rfl rfl (by intro C h; cases h) (6, .inl (fun _ => 0)) (fun cA => rfl) (by decide) (by decide) (by decide) (Nat.le_of_ble_eq_true rfl) (Nat.le_of_ble_eq_true rfl) dX11_init_54 (fun q4 H hI => ?_)
  have hI : zI D tc _ s.heap [(p0, .inr (13, [.ref q1, .ref q2, .ref q3, .null, .int 0, .int 0, .int 0, .int 0, .int 0, .int 0, .int 0, .int 0, .int 0, .int 0, .int 0, .int 0, .int 0, .int 0, .int 0, .long 0, .long 0, .long 0, .long 0, .long 0, .long 0, .int 0, .int 0])), (q1, .inr (1, [.int 0, .ref z0, .int 0])), (q2, .inr (1, [.int 0, .ref z0, .int 0])), (q3, .inl (tc 0, 3, .inl (upd (upd (upd (fun _ => 0) (0 : Int32).toNatClampNeg 500) (1 : Int32).toNatClampNeg 500) (2 : Int32).toNatClampNeg 500))), (q4, .inl (tc 0, 6, .inl (fun _ => 0)))] L κ g _ _ := hI
  refine z_putXF (i := 0) (j := 3) hM hI hin2 rfl hinX11 tyX11 tyX11_ok nmX11 rfl (by decide) (by decide +kernel) (fun _ h9 => h9) rfl rfl rfl rfl rfl (Nat.le_of_ble_eq_true rfl) dX11_init_56 (fun H locs hI => ?_)
  have hI : zI D tc _ s.heap [(p0, .inr (13, [.ref q1, .ref q2, .ref q3, .ref q4, .int 0, .int 0, .int 0, .int 0, .int 0, .int 0, .int 0, .int 0, .int 0, .int 0, .int 0, .int 0, .int 0, .int 0, .int 0, .long 0, .long 0, .long 0, .long 0, .long 0, .long 0, .int 0, .int 0])), (q1, .inr (1, [.int 0, .ref z0, .int 0])), (q2, .inr (1, [.int 0, .ref z0, .int 0])), (q3, .inl (tc 0, 3, .inl (upd (upd (upd (fun _ => 0) (0 : Int32).toNatClampNeg 500) (1 : Int32).toNatClampNeg 500) (2 : Int32).toNatClampNeg 500))), (q4, .inl (tc 0, 6, .inl (fun _ => 0)))] L κ g _ _ := hI
  refine lv_aload_n hx hb dX11_init_59 rfl (lv_at hl 0 rfl) ?_
  refine lv_sipush (v := 4000) hx hb dX11_init_60 (by decide) ?_
  refine z_putX (i := 0) (j := 5) hM hI rfl hinX11 tyX11 tyX11_ok nmX11 rfl (by decide) (by decide +kernel) (fun _ h9 => h9) rfl rfl rfl rfl (Nat.le_of_ble_eq_true rfl) dX11_init_63 (fun H locs hI => ?_)
  have hI : zI D tc _ s.heap [(p0, .inr (13, [.ref q1, .ref q2, .ref q3, .ref q4, .int 0, .int 4000, .int 0, .int 0, .int 0, .int 0, .int 0, .int 0, .int 0, .int 0, .int 0, .int 0, .int 0, .int 0, .int 0, .long 0, .long 0, .long 0, .long 0, .long 0, .long 0, .int 0, .int 0])), (q1, .inr (1, [.int 0, .ref z0, .int 0])), (q2, .inr (1, [.int 0, .ref z0, .int 0])), (q3, .inl (tc 0, 3, .inl (upd (upd (upd (fun _ => 0) (0 : Int32).toNatClampNeg 500) (1 : Int32).toNatClampNeg 500) (2 : Int32).toNatClampNeg 500))), (q4, .inl (tc 0, 6, .inl (fun _ => 0)))] L κ g _ _ := hI
  refine lv_aload_n hx hb dX11_init_66 rfl (lv_at hl 0 rfl) ?_
  refine lv_sipush (v := 200) hx hb dX11_init_67 (by decide) ?_
  refine z_putX (i := 0) (j := 7) hM hI rfl hinX11 tyX11 tyX11_ok nmX11 rfl (by decide) (by decide +kernel) (fun _ h9 => h9) rfl rfl rfl rfl (Nat.le_of_ble_eq_true rfl) dX11_init_70 (fun H locs hI => ?_)
  have hI : zI D tc _ s.heap [(p0, .inr (13, [.ref q1, .ref q2, .ref q3, .ref q4, .int 0, .int 4000, .int 0, .int 200, .int 0, .int 0, .int 0, .int 0, .int 0, .int 0, .int 0, .int 0, .int 0, .int 0, .int 0, .long 0, .long 0, .long 0, .long 0, .long 0, .long 0, .int 0, .int 0])), (q1, .inr (1, [.int 0, .ref z0, .int 0])), (q2, .inr (1, [.int 0, .ref z0, .int 0])), (q3, .inl (tc 0, 3, .inl (upd (upd (upd (fun _ => 0) (0 : Int32).toNatClampNeg 500) (1 : Int32).toNatClampNeg 500) (2 : Int32).toNatClampNeg 500))), (q4, .inl (tc 0, 6, .inl (fun _ => 0)))] L κ g _ _ := hI
  refine lv_aload_n hx hb dX11_init_73 rfl (lv_at hl 0 rfl) ?_
  refine lv_sipush (v := 5000) hx hb dX11_init_74 (by decide) ?_
  refine z_putX (i := 0) (j := 8) hM hI rfl hinX11 tyX11 tyX11_ok nmX11 rfl (by decide) (by decide +kernel) (fun _ h9 => h9) rfl rfl rfl rfl (Nat.le_of_ble_eq_true rfl) dX11_init_77 (fun H locs hI => ?_)
  have hI : zI D tc _ s.heap [(p0, .inr (13, [.ref q1, .ref q2, .ref q3, .ref q4, .int 0, .int 4000, .int 0, .int 200, .int 5000, .int 0, .int 0, .int 0, .int 0, .int 0, .int 0, .int 0, .int 0, .int 0, .int 0, .long 0, .long 0, .long 0, .long 0, .long 0, .long 0, .int 0, .int 0])), (q1, .inr (1, [.int 0, .ref z0, .int 0])), (q2, .inr (1, [.int 0, .ref z0, .int 0])), (q3, .inl (tc 0, 3, .inl (upd (upd (upd (fun _ => 0) (0 : Int32).toNatClampNeg 500) (1 : Int32).toNatClampNeg 500) (2 : Int32).toNatClampNeg 500))), (q4, .inl (tc 0, 6, .inl (fun _ => 0)))] L κ g _ _ := hI
  refine lv_aload_n hx hb dX11_init_80 rfl (lv_at hl 0 rfl) ?_
  refine lv_sipush (v := 600) hx hb dX11_init_81 (by decide) ?_
  refine z_putX (i := 0) (j := 9) hM hI rfl hinX11 tyX11 tyX11_ok nmX11 rfl (by decide) (by decide +kernel) (fun _ h9 => h9) rfl rfl rfl rfl (Nat.le_of_ble_eq_true rfl) dX11_init_84 (fun H locs hI => ?_)
  have hI : zI D tc _ s.heap [(p0, .inr (13, [.ref q1, .ref q2, .ref q3, .ref q4, .int 0, .int 4000, .int 0, .int 200, .int 5000, .int 600, .int 0, .int 0, .int 0, .int 0, .int 0, .int 0, .int 0, .int 0, .int 0, .long 0, .long 0, .long 0, .long 0, .long 0, .long 0, .int 0, .int 0])), (q1, .inr (1, [.int 0, .ref z0, .int 0])), (q2, .inr (1, [.int 0, .ref z0, .int 0])), (q3, .inl (tc 0, 3, .inl (upd (upd (upd (fun _ => 0) (0 : Int32).toNatClampNeg 500) (1 : Int32).toNatClampNeg 500) (2 : Int32).toNatClampNeg 500))), (q4, .inl (tc 0, 6, .inl (fun _ => 0)))] L κ g _ _ := hI
  refine lv_aload_n hx hb dX11_init_87 rfl (lv_at hl 0 rfl) ?_
  refine lv_bipush (v := 45) hx hb dX11_init_88 (by decide) ?_
  refine z_putX (i := 0) (j := 26) hM hI rfl hinX11 tyX11 tyX11_ok nmX11 rfl (by decide) (by decide +kernel) (fun _ h9 => h9) rfl rfl rfl rfl (Nat.le_of_ble_eq_true rfl) dX11_init_90 (fun H locs hI => ?_)
  have hI : zI D tc _ s.heap [(p0, .inr (13, [.ref q1, .ref q2, .ref q3, .ref q4, .int 0, .int 4000, .int 0, .int 200, .int 5000, .int 600, .int 0, .int 0, .int 0, .int 0, .int 0, .int 0, .int 0, .int 0, .int 0, .long 0, .long 0, .long 0, .long 0, .long 0, .long 0, .int 0, .int 45])), (q1, .inr (1, [.int 0, .ref z0, .int 0])), (q2, .inr (1, [.int 0, .ref z0, .int 0])), (q3, .inl (tc 0, 3, .inl (upd (upd (upd (fun _ => 0) (0 : Int32).toNatClampNeg 500) (1 : Int32).toNatClampNeg 500) (2 : Int32).toNatClampNeg 500))), (q4, .inl (tc 0, 6, .inl (fun _ => 0)))] L κ g _ _ := hI
  exact W.vret hx hb hr (fun t ht hW => ⟨⟨(q1, q2, q3, q4, (L, κ, g)), rfl, rfl, z_end hK hI ht hW⟩, z_F hI ht⟩) (z_locs hI) dX11_init_93

set_option maxHeartbeats 4000000 in
set_option maxRecDepth 100000 in
theorem x_X11_in_0 (l : Launch) (D : va_G) (tc : Nat → ClassId) (z0 : Nat) (L : List Nat) (κ : Nat → Nat) (g : Nat → Nat → Value) (sz : Nat)   : Met l yX11_in wsX11_in ({ frames := 0, cells := 0, slots := 0, locals := 0 }) (zPc D tc z0 [.int 0, .int 0, .int 2] ([] : va_W) (L, κ, g) sz) (va_Qi (fun (r : Int32) (u : (zS)) => r = 1 ∧ u = (L, κ, g)) (fun (u : (zS)) (t : State) => zB D tc (zA ([] : va_W) L sz) ([] : va_W) u t) (zA ([] : va_W) L sz)) 0 0 (zA ([] : va_W) L sz) := by
  refine Met.ofW (cc := cX11_in) (maxL := 3) (ret := (some .boolean)) (by decide) rfl ?_
  intro p e9 s m args below meth c s₁ B hml hv
  obtain ⟨rfl, rfl, hK, hE, hI⟩ := hv.opn
  have hx := B.exec
  have hb := B.bytes
  have hr := B.returns
  have hts := atoms_spec (ws := wsX11_in) B.pre
  have hown : s.vm.findClass RX11 = some m.cls := findClass_of_methodNamed B.named
  have hlocks := B.notSynchronized
  have hM : zM p s m c cX11_in _ wsX11_in RX11 D tc := ⟨hx, hb, hts, hown, hK⟩
  skip
  have hl := lv_entry ([.int 0, .int 0, .int 2]) (n := 3) (Nat.le_of_ble_eq_true rfl)
  rw [lg_entry_eq]
  generalize (lg_sl ([.int 0, .int 0, .int 2]) ++ List.replicate (3 - (lg_sl ([.int 0, .int 0, .int 2])).length) Slot.unset).toArray = ls at hl ⊢
  have hl : lv_has ls 3 [(0, .int 0), (1, .int 0), (2, .int 2)] := hl
  refine lv_iload_n hx hb dX11_in_0 rfl (lv_at hl 0 rfl) ?_
  refine lv_iload_n hx hb dX11_in_1 rfl (lv_at hl 1 rfl) ?_
  refine lv_icmp_lt (tgt := 14) hx hb dX11_in_2 (by decide) (fun h9 => by first | exact absurd h9 (by decide) | exact absurd (by decide) h9) (fun _ => ?_)
  refine lv_iload_n hx hb dX11_in_5 rfl (lv_at hl 0 rfl) ?_
  refine lv_iload_n hx hb dX11_in_6 rfl (lv_at hl 2 rfl) ?_
  refine lv_icmp_gt (tgt := 14) hx hb dX11_in_7 (by decide) (fun h9 => by first | exact absurd h9 (by decide) | exact absurd (by decide) h9) (fun _ => ?_)
  refine lv_iconst (v := 1) hx hb dX11_in_10 (by decide) ?_
  refine lv_goto (tgt := 15) hx hb dX11_in_11 (by decide) ?_
  exact W.zret (v := 1) hx hb hr (by decide) (fun t ht hW => ⟨⟨_, (L, κ, g), rfl, ⟨rfl, rfl⟩, z_end hK hI ht hW⟩, z_F hI ht⟩) (z_locs hI) dX11_in_15

set_option maxHeartbeats 4000000 in
set_option maxRecDepth 100000 in
theorem x_X11_in_1 (l : Launch) (D : va_G) (tc : Nat → ClassId) (z0 : Nat) (L : List Nat) (κ : Nat → Nat) (g : Nat → Nat → Value) (sz : Nat)   : Met l yX11_in wsX11_in ({ frames := 0, cells := 0, slots := 0, locals := 0 }) (zPc D tc z0 [.int 1, .int 0, .int 2] ([] : va_W) (L, κ, g) sz) (va_Qi (fun (r : Int32) (u : (zS)) => r = 1 ∧ u = (L, κ, g)) (fun (u : (zS)) (t : State) => zB D tc (zA ([] : va_W) L sz) ([] : va_W) u t) (zA ([] : va_W) L sz)) 0 0 (zA ([] : va_W) L sz) := by
  refine Met.ofW (cc := cX11_in) (maxL := 3) (ret := (some .boolean)) (by decide) rfl ?_
  intro p e9 s m args below meth c s₁ B hml hv
  obtain ⟨rfl, rfl, hK, hE, hI⟩ := hv.opn
  have hx := B.exec
  have hb := B.bytes
  have hr := B.returns
  have hts := atoms_spec (ws := wsX11_in) B.pre
  have hown : s.vm.findClass RX11 = some m.cls := findClass_of_methodNamed B.named
  have hlocks := B.notSynchronized
  have hM : zM p s m c cX11_in _ wsX11_in RX11 D tc := ⟨hx, hb, hts, hown, hK⟩
  skip
  have hl := lv_entry ([.int 1, .int 0, .int 2]) (n := 3) (Nat.le_of_ble_eq_true rfl)
  rw [lg_entry_eq]
  generalize (lg_sl ([.int 1, .int 0, .int 2]) ++ List.replicate (3 - (lg_sl ([.int 1, .int 0, .int 2])).length) Slot.unset).toArray = ls at hl ⊢
  have hl : lv_has ls 3 [(0, .int 1), (1, .int 0), (2, .int 2)] := hl
  refine lv_iload_n hx hb dX11_in_0 rfl (lv_at hl 0 rfl) ?_
  refine lv_iload_n hx hb dX11_in_1 rfl (lv_at hl 1 rfl) ?_
  refine lv_icmp_lt (tgt := 14) hx hb dX11_in_2 (by decide) (fun h9 => by first | exact absurd h9 (by decide) | exact absurd (by decide) h9) (fun _ => ?_)
  refine lv_iload_n hx hb dX11_in_5 rfl (lv_at hl 0 rfl) ?_
  refine lv_iload_n hx hb dX11_in_6 rfl (lv_at hl 2 rfl) ?_
  refine lv_icmp_gt (tgt := 14) hx hb dX11_in_7 (by decide) (fun h9 => by first | exact absurd h9 (by decide) | exact absurd (by decide) h9) (fun _ => ?_)
  refine lv_iconst (v := 1) hx hb dX11_in_10 (by decide) ?_
  refine lv_goto (tgt := 15) hx hb dX11_in_11 (by decide) ?_
  exact W.zret (v := 1) hx hb hr (by decide) (fun t ht hW => ⟨⟨_, (L, κ, g), rfl, ⟨rfl, rfl⟩, z_end hK hI ht hW⟩, z_F hI ht⟩) (z_locs hI) dX11_in_15

set_option maxHeartbeats 4000000 in
set_option maxRecDepth 100000 in
theorem x_X11_in_2 (l : Launch) (D : va_G) (tc : Nat → ClassId) (z0 : Nat) (L : List Nat) (κ : Nat → Nat) (g : Nat → Nat → Value) (sz : Nat)   : Met l yX11_in wsX11_in ({ frames := 0, cells := 0, slots := 0, locals := 0 }) (zPc D tc z0 [.int 2, .int 0, .int 2] ([] : va_W) (L, κ, g) sz) (va_Qi (fun (r : Int32) (u : (zS)) => r = 1 ∧ u = (L, κ, g)) (fun (u : (zS)) (t : State) => zB D tc (zA ([] : va_W) L sz) ([] : va_W) u t) (zA ([] : va_W) L sz)) 0 0 (zA ([] : va_W) L sz) := by
  refine Met.ofW (cc := cX11_in) (maxL := 3) (ret := (some .boolean)) (by decide) rfl ?_
  intro p e9 s m args below meth c s₁ B hml hv
  obtain ⟨rfl, rfl, hK, hE, hI⟩ := hv.opn
  have hx := B.exec
  have hb := B.bytes
  have hr := B.returns
  have hts := atoms_spec (ws := wsX11_in) B.pre
  have hown : s.vm.findClass RX11 = some m.cls := findClass_of_methodNamed B.named
  have hlocks := B.notSynchronized
  have hM : zM p s m c cX11_in _ wsX11_in RX11 D tc := ⟨hx, hb, hts, hown, hK⟩
  skip
  have hl := lv_entry ([.int 2, .int 0, .int 2]) (n := 3) (Nat.le_of_ble_eq_true rfl)
  rw [lg_entry_eq]
  generalize (lg_sl ([.int 2, .int 0, .int 2]) ++ List.replicate (3 - (lg_sl ([.int 2, .int 0, .int 2])).length) Slot.unset).toArray = ls at hl ⊢
  have hl : lv_has ls 3 [(0, .int 2), (1, .int 0), (2, .int 2)] := hl
  refine lv_iload_n hx hb dX11_in_0 rfl (lv_at hl 0 rfl) ?_
  refine lv_iload_n hx hb dX11_in_1 rfl (lv_at hl 1 rfl) ?_
  refine lv_icmp_lt (tgt := 14) hx hb dX11_in_2 (by decide) (fun h9 => by first | exact absurd h9 (by decide) | exact absurd (by decide) h9) (fun _ => ?_)
  refine lv_iload_n hx hb dX11_in_5 rfl (lv_at hl 0 rfl) ?_
  refine lv_iload_n hx hb dX11_in_6 rfl (lv_at hl 2 rfl) ?_
  refine lv_icmp_gt (tgt := 14) hx hb dX11_in_7 (by decide) (fun h9 => by first | exact absurd h9 (by decide) | exact absurd (by decide) h9) (fun _ => ?_)
  refine lv_iconst (v := 1) hx hb dX11_in_10 (by decide) ?_
  refine lv_goto (tgt := 15) hx hb dX11_in_11 (by decide) ?_
  exact W.zret (v := 1) hx hb hr (by decide) (fun t ht hW => ⟨⟨_, (L, κ, g), rfl, ⟨rfl, rfl⟩, z_end hK hI ht hW⟩, z_F hI ht⟩) (z_locs hI) dX11_in_15

set_option maxHeartbeats 4000000 in
set_option maxRecDepth 100000 in
theorem x_X11_fails_0 (l : Launch) (D : va_G) (tc : Nat → ClassId) (z0 : Nat) (L : List Nat) (κ : Nat → Nat) (g : Nat → Nat → Value) (sz : Nat) (pm : Nat) (lc : Nat) (lt : Nat) (pv : Nat) (pg : Nat)  : Met l yX11_fails wsX11_fails ({ frames := 0, cells := 0, slots := 0, locals := 0 }) (zPc D tc z0 [.ref pm, .int 0] ([(pm, .inr (13, [.ref lc, .ref lt, .ref pv, .ref pg, .int 0, .int 4000, .int 0, .int 200, .int 5000, .int 600, .int 0, .int 0, .int 0, .int 0, .int 0, .int 0, .int 0, .int 0, .int 0, .long 0, .long 0, .long 0, .long 0, .long 0, .long 0, .int 0, .int 45]))] : va_W) (L, κ, g) sz) (va_Qi (fun (r : Int32) (u : (zS)) => r = 0 ∧ u = (L, κ, g)) (fun (u : (zS)) (t : State) => zB D tc (zA ([(pm, .inr (13, [.ref lc, .ref lt, .ref pv, .ref pg, .int 0, .int 4000, .int 0, .int 200, .int 5000, .int 600, .int 0, .int 0, .int 0, .int 0, .int 0, .int 0, .int 0, .int 0, .int 0, .long 0, .long 0, .long 0, .long 0, .long 0, .long 0, .int 0, .int 45]))] : va_W) L sz) ([(pm, .inr (13, [.ref lc, .ref lt, .ref pv, .ref pg, .int 0, .int 4000, .int 0, .int 200, .int 5000, .int 600, .int 0, .int 0, .int 0, .int 0, .int 0, .int 0, .int 0, .int 0, .int 0, .long 0, .long 0, .long 0, .long 0, .long 0, .long 0, .int 0, .int 45]))] : va_W) u t) (zA ([(pm, .inr (13, [.ref lc, .ref lt, .ref pv, .ref pg, .int 0, .int 4000, .int 0, .int 200, .int 5000, .int 600, .int 0, .int 0, .int 0, .int 0, .int 0, .int 0, .int 0, .int 0, .int 0, .long 0, .long 0, .long 0, .long 0, .long 0, .long 0, .int 0, .int 45]))] : va_W) L sz)) 0 0 (zA ([(pm, .inr (13, [.ref lc, .ref lt, .ref pv, .ref pg, .int 0, .int 4000, .int 0, .int 200, .int 5000, .int 600, .int 0, .int 0, .int 0, .int 0, .int 0, .int 0, .int 0, .int 0, .int 0, .long 0, .long 0, .long 0, .long 0, .long 0, .long 0, .int 0, .int 45]))] : va_W) L sz) := by
  refine Met.ofW (cc := cX11_fails) (maxL := 2) (ret := (some .boolean)) (by decide) rfl ?_
  intro p e9 s m args below meth c s₁ B hml hv
  obtain ⟨rfl, rfl, hK, hE, hI⟩ := hv.opn
  have hx := B.exec
  have hb := B.bytes
  have hr := B.returns
  have hts := atoms_spec (ws := wsX11_fails) B.pre
  have hown : s.vm.findClass RX11 = some m.cls := findClass_of_methodNamed B.named
  have hlocks := B.notSynchronized
  have hM : zM p s m c cX11_fails _ wsX11_fails RX11 D tc := ⟨hx, hb, hts, hown, hK⟩
  have hinX11 : ∀ w ∈ wsX110, w ∈ wsX11_fails := by decide +kernel
  have hl := lv_entry ([.ref pm, .int 0]) (n := 2) (Nat.le_of_ble_eq_true rfl)
  rw [lg_entry_eq]
  generalize (lg_sl ([.ref pm, .int 0]) ++ List.replicate (2 - (lg_sl ([.ref pm, .int 0])).length) Slot.unset).toArray = ls at hl ⊢
  have hl : lv_has ls 2 [(0, .ref pm), (1, .int 0)] := hl
  refine lv_aload_n hx hb dX11_fails_0 rfl (lv_at hl 0 rfl) ?_
  refine lv_iload_n hx hb dX11_fails_1 rfl (lv_at hl 1 rfl) ?_
  refine z_putX (i := 0) (j := 12) hM hI rfl hinX11 tyX11 tyX11_ok nmX11 rfl (by decide) (by decide +kernel) (fun _ h9 => h9) rfl rfl rfl rfl (Nat.le_of_ble_eq_true rfl) dX11_fails_2 (fun H locs hI => ?_)
  have hI : zI D tc _ s.heap [(pm, .inr (13, [.ref lc, .ref lt, .ref pv, .ref pg, .int 0, .int 4000, .int 0, .int 200, .int 5000, .int 600, .int 0, .int 0, .int 0, .int 0, .int 0, .int 0, .int 0, .int 0, .int 0, .long 0, .long 0, .long 0, .long 0, .long 0, .long 0, .int 0, .int 45]))] L κ g _ _ := hI
  refine lv_iload_n hx hb dX11_fails_5 rfl (lv_at hl 1 rfl) ?_
  refine lv_if_le (tgt := 13) hx hb dX11_fails_6 (by decide) (fun _ => ?_) (fun h9 => by first | exact absurd h9 (by decide) | exact absurd (by decide) h9)
  refine lv_iconst (v := 0) hx hb dX11_fails_13 (by decide) ?_
  exact W.zret (v := 0) hx hb hr (by decide) (fun t ht hW => ⟨⟨_, (L, κ, g), rfl, ⟨rfl, rfl⟩, z_end hK hI ht hW⟩, z_F hI ht⟩) (z_locs hI) dX11_fails_14

set_option maxHeartbeats 4000000 in
set_option maxRecDepth 100000 in
theorem x_X11_fails_1 (l : Launch) (D : va_G) (tc : Nat → ClassId) (z0 : Nat) (L : List Nat) (κ : Nat → Nat) (g : Nat → Nat → Value) (sz : Nat) (pm : Nat) (lc : Nat) (lt : Nat) (pv : Nat) (pg : Nat)  : Met l yX11_fails wsX11_fails ({ frames := 0, cells := 0, slots := 0, locals := 0 }) (zPc D tc z0 [.ref pm, .int 1] ([(pm, .inr (13, [.ref lc, .ref lt, .ref pv, .ref pg, .int 0, .int 4000, .int 0, .int 200, .int 5000, .int 600, .int 0, .int 0, .int 0, .int 0, .int 0, .int 0, .int 0, .int 0, .int 0, .long 0, .long 0, .long 0, .long 0, .long 0, .long 0, .int 0, .int 45]))] : va_W) (L, κ, g) sz) (va_Qi (fun (r : Int32) (u : (zS)) => r = 1 ∧ u = (L, κ, g)) (fun (u : (zS)) (t : State) => zB D tc (zA ([(pm, .inr (13, [.ref lc, .ref lt, .ref pv, .ref pg, .int 0, .int 4000, .int 0, .int 200, .int 5000, .int 600, .int 0, .int 0, .int 0, .int 0, .int 0, .int 0, .int 0, .int 0, .int 0, .long 0, .long 0, .long 0, .long 0, .long 0, .long 0, .int 0, .int 45]))] : va_W) L sz) ([(pm, .inr (13, [.ref lc, .ref lt, .ref pv, .ref pg, .int 0, .int 4000, .int 0, .int 200, .int 5000, .int 600, .int 0, .int 0, .int 1, .int 0, .int 0, .int 0, .int 0, .int 0, .int 0, .long 0, .long 0, .long 0, .long 0, .long 0, .long 0, .int 0, .int 45]))] : va_W) u t) (zA ([(pm, .inr (13, [.ref lc, .ref lt, .ref pv, .ref pg, .int 0, .int 4000, .int 0, .int 200, .int 5000, .int 600, .int 0, .int 0, .int 0, .int 0, .int 0, .int 0, .int 0, .int 0, .int 0, .long 0, .long 0, .long 0, .long 0, .long 0, .long 0, .int 0, .int 45]))] : va_W) L sz)) 0 0 (zA ([(pm, .inr (13, [.ref lc, .ref lt, .ref pv, .ref pg, .int 0, .int 4000, .int 0, .int 200, .int 5000, .int 600, .int 0, .int 0, .int 0, .int 0, .int 0, .int 0, .int 0, .int 0, .int 0, .long 0, .long 0, .long 0, .long 0, .long 0, .long 0, .int 0, .int 45]))] : va_W) L sz) := by
  refine Met.ofW (cc := cX11_fails) (maxL := 2) (ret := (some .boolean)) (by decide) rfl ?_
  intro p e9 s m args below meth c s₁ B hml hv
  obtain ⟨rfl, rfl, hK, hE, hI⟩ := hv.opn
  have hx := B.exec
  have hb := B.bytes
  have hr := B.returns
  have hts := atoms_spec (ws := wsX11_fails) B.pre
  have hown : s.vm.findClass RX11 = some m.cls := findClass_of_methodNamed B.named
  have hlocks := B.notSynchronized
  have hM : zM p s m c cX11_fails _ wsX11_fails RX11 D tc := ⟨hx, hb, hts, hown, hK⟩
  have hinX11 : ∀ w ∈ wsX110, w ∈ wsX11_fails := by decide +kernel
  have hl := lv_entry ([.ref pm, .int 1]) (n := 2) (Nat.le_of_ble_eq_true rfl)
  rw [lg_entry_eq]
  generalize (lg_sl ([.ref pm, .int 1]) ++ List.replicate (2 - (lg_sl ([.ref pm, .int 1])).length) Slot.unset).toArray = ls at hl ⊢
  have hl : lv_has ls 2 [(0, .ref pm), (1, .int 1)] := hl
  refine lv_aload_n hx hb dX11_fails_0 rfl (lv_at hl 0 rfl) ?_
  refine lv_iload_n hx hb dX11_fails_1 rfl (lv_at hl 1 rfl) ?_
  refine z_putX (i := 0) (j := 12) hM hI rfl hinX11 tyX11 tyX11_ok nmX11 rfl (by decide) (by decide +kernel) (fun _ h9 => h9) rfl rfl rfl rfl (Nat.le_of_ble_eq_true rfl) dX11_fails_2 (fun H locs hI => ?_)
  have hI : zI D tc _ s.heap [(pm, .inr (13, [.ref lc, .ref lt, .ref pv, .ref pg, .int 0, .int 4000, .int 0, .int 200, .int 5000, .int 600, .int 0, .int 0, .int 1, .int 0, .int 0, .int 0, .int 0, .int 0, .int 0, .long 0, .long 0, .long 0, .long 0, .long 0, .long 0, .int 0, .int 45]))] L κ g _ _ := hI
  refine lv_iload_n hx hb dX11_fails_5 rfl (lv_at hl 1 rfl) ?_
  refine lv_if_le (tgt := 13) hx hb dX11_fails_6 (by decide) (fun h9 => by first | exact absurd h9 (by decide) | exact absurd (by decide) h9) (fun _ => ?_)
  refine lv_iconst (v := 1) hx hb dX11_fails_9 (by decide) ?_
  refine lv_goto (tgt := 14) hx hb dX11_fails_10 (by decide) ?_
  exact W.zret (v := 1) hx hb hr (by decide) (fun t ht hW => ⟨⟨_, (L, κ, g), rfl, ⟨rfl, rfl⟩, z_end hK hI ht hW⟩, z_F hI ht⟩) (z_locs hI) dX11_fails_14

set_option maxHeartbeats 4000000 in
set_option maxRecDepth 100000 in
theorem x_X11_caseDegrees (l : Launch) (D : va_G) (tc : Nat → ClassId) (z0 : Nat) (L : List Nat) (κ : Nat → Nat) (g : Nat → Nat → Value) (sz : Nat) (pm : Nat) (lc : Nat) (lt : Nat) (pv : Nat) (pg : Nat)  : Met l yX11_caseDegrees wsX11_caseDegrees ({ frames := 0, cells := 0, slots := 0, locals := 0 }) (zPc D tc z0 [.ref pm] ([(pm, .inr (13, [.ref lc, .ref lt, .ref pv, .ref pg, .int 0, .int 4000, .int 0, .int 200, .int 5000, .int 600, .int 0, .int 0, .int 0, .int 0, .int 0, .int 0, .int 0, .int 0, .int 0, .long 0, .long 0, .long 0, .long 0, .long 0, .long 0, .int 0, .int 45]))] : va_W) (L, κ, g) sz) (va_Qi (fun (r : Int32) (u : (zS)) => r = 20 ∧ u = (L, κ, g)) (fun (u : (zS)) (t : State) => zB D tc (zA ([(pm, .inr (13, [.ref lc, .ref lt, .ref pv, .ref pg, .int 0, .int 4000, .int 0, .int 200, .int 5000, .int 600, .int 0, .int 0, .int 0, .int 0, .int 0, .int 0, .int 0, .int 0, .int 0, .long 0, .long 0, .long 0, .long 0, .long 0, .long 0, .int 0, .int 45]))] : va_W) L sz) ([(pm, .inr (13, [.ref lc, .ref lt, .ref pv, .ref pg, .int 0, .int 4000, .int 0, .int 200, .int 5000, .int 600, .int 0, .int 0, .int 0, .int 0, .int 0, .int 0, .int 0, .int 0, .int 0, .long 0, .long 0, .long 0, .long 0, .long 0, .long 0, .int 0, .int 45]))] : va_W) u t) (zA ([(pm, .inr (13, [.ref lc, .ref lt, .ref pv, .ref pg, .int 0, .int 4000, .int 0, .int 200, .int 5000, .int 600, .int 0, .int 0, .int 0, .int 0, .int 0, .int 0, .int 0, .int 0, .int 0, .long 0, .long 0, .long 0, .long 0, .long 0, .long 0, .int 0, .int 45]))] : va_W) L sz)) 0 0 (zA ([(pm, .inr (13, [.ref lc, .ref lt, .ref pv, .ref pg, .int 0, .int 4000, .int 0, .int 200, .int 5000, .int 600, .int 0, .int 0, .int 0, .int 0, .int 0, .int 0, .int 0, .int 0, .int 0, .long 0, .long 0, .long 0, .long 0, .long 0, .long 0, .int 0, .int 45]))] : va_W) L sz) := by
  refine Met.ofW (cc := cX11_caseDegrees) (maxL := 1) (ret := (some .int)) (by decide) rfl ?_
  intro p e9 s m args below meth c s₁ B hml hv
  obtain ⟨rfl, rfl, hK, hE, hI⟩ := hv.opn
  have hx := B.exec
  have hb := B.bytes
  have hr := B.returns
  have hts := atoms_spec (ws := wsX11_caseDegrees) B.pre
  have hown : s.vm.findClass RX11 = some m.cls := findClass_of_methodNamed B.named
  have hlocks := B.notSynchronized
  have hM : zM p s m c cX11_caseDegrees _ wsX11_caseDegrees RX11 D tc := ⟨hx, hb, hts, hown, hK⟩
  have hinX11 : ∀ w ∈ wsX110, w ∈ wsX11_caseDegrees := by decide +kernel
  have hl := lv_entry ([.ref pm]) (n := 1) (Nat.le_of_ble_eq_true rfl)
  rw [lg_entry_eq]
  generalize (lg_sl ([.ref pm]) ++ List.replicate (1 - (lg_sl ([.ref pm])).length) Slot.unset).toArray = ls at hl ⊢
  have hl : lv_has ls 1 [(0, .ref pm)] := hl
  refine lv_aload_n hx hb dX11_caseDegrees_0 rfl (lv_at hl 0 rfl) ?_
  refine lv_iconst (v := 0) hx hb dX11_caseDegrees_1 (by decide) ?_
  refine z_putX (i := 0) (j := 12) hM hI rfl hinX11 tyX11 tyX11_ok nmX11 rfl (by decide) (by decide +kernel) (fun _ h9 => h9) rfl rfl rfl rfl (Nat.le_of_ble_eq_true rfl) dX11_caseDegrees_2 (fun H locs hI => ?_)
  have hI : zI D tc _ s.heap [(pm, .inr (13, [.ref lc, .ref lt, .ref pv, .ref pg, .int 0, .int 4000, .int 0, .int 200, .int 5000, .int 600, .int 0, .int 0, .int 0, .int 0, .int 0, .int 0, .int 0, .int 0, .int 0, .long 0, .long 0, .long 0, .long 0, .long 0, .long 0, .int 0, .int 45]))] L κ g _ _ := hI
  refine lv_aload_n hx hb dX11_caseDegrees_5 rfl (lv_at hl 0 rfl) ?_
  refine z_getX (i := 0) (j := 5) hM hI rfl hinX11 rfl (by decide) (by decide +kernel) (fun _ h9 => h9) rfl dX11_caseDegrees_6 ?_
  refine lv_sipush (v := 200) hx hb dX11_caseDegrees_9 (by decide) ?_
  refine lv_idiv hx hb dX11_caseDegrees_12 (by decide) ?_
  refine lv_topi (fun v1 e2 => ?_)
  obtain rfl : v1 = 20 := e2.trans (by decide +kernel)
  exact W.iret (v := 20) hx hb hr (fun t ht hW => ⟨⟨_, (L, κ, g), rfl, ⟨rfl, rfl⟩, z_end hK hI ht hW⟩, z_F hI ht⟩) (z_locs hI) dX11_caseDegrees_13

set_option maxHeartbeats 4000000 in
set_option maxRecDepth 100000 in
theorem x_X11_fan (l : Launch) (D : va_G) (tc : Nat → ClassId) (z0 : Nat) (L : List Nat) (κ : Nat → Nat) (g : Nat → Nat → Value) (sz : Nat) (pm : Nat) (lc : Nat) (lt : Nat) (pv : Nat) (pg : Nat)  : Met l yX11_fan wsX11_fan ({ frames := 0, cells := 0, slots := 0, locals := 0 }) (zPc D tc z0 [.ref pm] ([(pm, .inr (13, [.ref lc, .ref lt, .ref pv, .ref pg, .int 0, .int 4000, .int 0, .int 200, .int 5000, .int 600, .int 0, .int 0, .int 0, .int 0, .int 0, .int 0, .int 0, .int 0, .int 0, .long 0, .long 0, .long 0, .long 0, .long 0, .long 0, .int 0, .int 45]))] : va_W) (L, κ, g) sz) (va_Qi (fun (r : Int32) (u : (zS)) => r = 0 ∧ u = (L, κ, g)) (fun (u : (zS)) (t : State) => zB D tc (zA ([(pm, .inr (13, [.ref lc, .ref lt, .ref pv, .ref pg, .int 0, .int 4000, .int 0, .int 200, .int 5000, .int 600, .int 0, .int 0, .int 0, .int 0, .int 0, .int 0, .int 0, .int 0, .int 0, .long 0, .long 0, .long 0, .long 0, .long 0, .long 0, .int 0, .int 45]))] : va_W) L sz) ([(pm, .inr (13, [.ref lc, .ref lt, .ref pv, .ref pg, .int 0, .int 4000, .int 0, .int 200, .int 5000, .int 600, .int 0, .int 0, .int 0, .int 0, .int 0, .int 0, .int 0, .int 0, .int 0, .long 0, .long 0, .long 0, .long 0, .long 0, .long 0, .int 0, .int 45]))] : va_W) u t) (zA ([(pm, .inr (13, [.ref lc, .ref lt, .ref pv, .ref pg, .int 0, .int 4000, .int 0, .int 200, .int 5000, .int 600, .int 0, .int 0, .int 0, .int 0, .int 0, .int 0, .int 0, .int 0, .int 0, .long 0, .long 0, .long 0, .long 0, .long 0, .long 0, .int 0, .int 45]))] : va_W) L sz)) 0 0 (zA ([(pm, .inr (13, [.ref lc, .ref lt, .ref pv, .ref pg, .int 0, .int 4000, .int 0, .int 200, .int 5000, .int 600, .int 0, .int 0, .int 0, .int 0, .int 0, .int 0, .int 0, .int 0, .int 0, .long 0, .long 0, .long 0, .long 0, .long 0, .long 0, .int 0, .int 45]))] : va_W) L sz) := by
  refine Met.ofW (cc := cX11_fan) (maxL := 1) (ret := (some .int)) (by decide) rfl ?_
  intro p e9 s m args below meth c s₁ B hml hv
  obtain ⟨rfl, rfl, hK, hE, hI⟩ := hv.opn
  have hx := B.exec
  have hb := B.bytes
  have hr := B.returns
  have hts := atoms_spec (ws := wsX11_fan) B.pre
  have hown : s.vm.findClass RX11 = some m.cls := findClass_of_methodNamed B.named
  have hlocks := B.notSynchronized
  have hM : zM p s m c cX11_fan _ wsX11_fan RX11 D tc := ⟨hx, hb, hts, hown, hK⟩
  have hinX11 : ∀ w ∈ wsX110, w ∈ wsX11_fan := by decide +kernel
  have hl := lv_entry ([.ref pm]) (n := 1) (Nat.le_of_ble_eq_true rfl)
  rw [lg_entry_eq]
  generalize (lg_sl ([.ref pm]) ++ List.replicate (1 - (lg_sl ([.ref pm])).length) Slot.unset).toArray = ls at hl ⊢
  have hl : lv_has ls 1 [(0, .ref pm)] := hl
  refine lv_aload_n hx hb dX11_fan_0 rfl (lv_at hl 0 rfl) ?_
  refine lv_iconst (v := 0) hx hb dX11_fan_1 (by decide) ?_
  refine z_putX (i := 0) (j := 12) hM hI rfl hinX11 tyX11 tyX11_ok nmX11 rfl (by decide) (by decide +kernel) (fun _ h9 => h9) rfl rfl rfl rfl (Nat.le_of_ble_eq_true rfl) dX11_fan_2 (fun H locs hI => ?_)
  have hI : zI D tc _ s.heap [(pm, .inr (13, [.ref lc, .ref lt, .ref pv, .ref pg, .int 0, .int 4000, .int 0, .int 200, .int 5000, .int 600, .int 0, .int 0, .int 0, .int 0, .int 0, .int 0, .int 0, .int 0, .int 0, .long 0, .long 0, .long 0, .long 0, .long 0, .long 0, .int 0, .int 45]))] L κ g _ _ := hI
  refine lv_aload_n hx hb dX11_fan_5 rfl (lv_at hl 0 rfl) ?_
  refine z_getX (i := 0) (j := 6) hM hI rfl hinX11 rfl (by decide) (by decide +kernel) (fun _ h9 => h9) rfl dX11_fan_6 ?_
  exact W.iret (v := 0) hx hb hr (fun t ht hW => ⟨⟨_, (L, κ, g), rfl, ⟨rfl, rfl⟩, z_end hK hI ht hW⟩, z_F hI ht⟩) (z_locs hI) dX11_fan_9

set_option maxHeartbeats 4000000 in
set_option maxRecDepth 100000 in
theorem x_X11_battery (l : Launch) (D : va_G) (tc : Nat → ClassId) (z0 : Nat) (L : List Nat) (κ : Nat → Nat) (g : Nat → Nat → Value) (sz : Nat) (pm : Nat) (lc : Nat) (lt : Nat) (pv : Nat) (pg : Nat)  : Met l yX11_battery wsX11_battery ({ frames := 0, cells := 0, slots := 0, locals := 0 }) (zPc D tc z0 [.ref pm] ([(pm, .inr (13, [.ref lc, .ref lt, .ref pv, .ref pg, .int 0, .int 4000, .int 0, .int 200, .int 5000, .int 600, .int 0, .int 0, .int 0, .int 0, .int 0, .int 0, .int 0, .int 0, .int 0, .long 0, .long 0, .long 0, .long 0, .long 0, .long 0, .int 0, .int 45]))] : va_W) (L, κ, g) sz) (va_Qi (fun (r : Int32) (u : (zS)) => r = 5000 ∧ u = (L, κ, g)) (fun (u : (zS)) (t : State) => zB D tc (zA ([(pm, .inr (13, [.ref lc, .ref lt, .ref pv, .ref pg, .int 0, .int 4000, .int 0, .int 200, .int 5000, .int 600, .int 0, .int 0, .int 0, .int 0, .int 0, .int 0, .int 0, .int 0, .int 0, .long 0, .long 0, .long 0, .long 0, .long 0, .long 0, .int 0, .int 45]))] : va_W) L sz) ([(pm, .inr (13, [.ref lc, .ref lt, .ref pv, .ref pg, .int 0, .int 4000, .int 0, .int 200, .int 5000, .int 600, .int 0, .int 0, .int 0, .int 0, .int 0, .int 0, .int 0, .int 0, .int 0, .long 0, .long 0, .long 0, .long 0, .long 0, .long 0, .int 0, .int 45]))] : va_W) u t) (zA ([(pm, .inr (13, [.ref lc, .ref lt, .ref pv, .ref pg, .int 0, .int 4000, .int 0, .int 200, .int 5000, .int 600, .int 0, .int 0, .int 0, .int 0, .int 0, .int 0, .int 0, .int 0, .int 0, .long 0, .long 0, .long 0, .long 0, .long 0, .long 0, .int 0, .int 45]))] : va_W) L sz)) 0 0 (zA ([(pm, .inr (13, [.ref lc, .ref lt, .ref pv, .ref pg, .int 0, .int 4000, .int 0, .int 200, .int 5000, .int 600, .int 0, .int 0, .int 0, .int 0, .int 0, .int 0, .int 0, .int 0, .int 0, .long 0, .long 0, .long 0, .long 0, .long 0, .long 0, .int 0, .int 45]))] : va_W) L sz) := by
  refine Met.ofW (cc := cX11_battery) (maxL := 1) (ret := (some .int)) (by decide) rfl ?_
  intro p e9 s m args below meth c s₁ B hml hv
  obtain ⟨rfl, rfl, hK, hE, hI⟩ := hv.opn
  have hx := B.exec
  have hb := B.bytes
  have hr := B.returns
  have hts := atoms_spec (ws := wsX11_battery) B.pre
  have hown : s.vm.findClass RX11 = some m.cls := findClass_of_methodNamed B.named
  have hlocks := B.notSynchronized
  have hM : zM p s m c cX11_battery _ wsX11_battery RX11 D tc := ⟨hx, hb, hts, hown, hK⟩
  have hinX11 : ∀ w ∈ wsX110, w ∈ wsX11_battery := by decide +kernel
  have hl := lv_entry ([.ref pm]) (n := 1) (Nat.le_of_ble_eq_true rfl)
  rw [lg_entry_eq]
  generalize (lg_sl ([.ref pm]) ++ List.replicate (1 - (lg_sl ([.ref pm])).length) Slot.unset).toArray = ls at hl ⊢
  have hl : lv_has ls 1 [(0, .ref pm)] := hl
  refine lv_aload_n hx hb dX11_battery_0 rfl (lv_at hl 0 rfl) ?_
  refine lv_iconst (v := 0) hx hb dX11_battery_1 (by decide) ?_
  refine z_putX (i := 0) (j := 12) hM hI rfl hinX11 tyX11 tyX11_ok nmX11 rfl (by decide) (by decide +kernel) (fun _ h9 => h9) rfl rfl rfl rfl (Nat.le_of_ble_eq_true rfl) dX11_battery_2 (fun H locs hI => ?_)
  have hI : zI D tc _ s.heap [(pm, .inr (13, [.ref lc, .ref lt, .ref pv, .ref pg, .int 0, .int 4000, .int 0, .int 200, .int 5000, .int 600, .int 0, .int 0, .int 0, .int 0, .int 0, .int 0, .int 0, .int 0, .int 0, .long 0, .long 0, .long 0, .long 0, .long 0, .long 0, .int 0, .int 45]))] L κ g _ _ := hI
  refine lv_aload_n hx hb dX11_battery_5 rfl (lv_at hl 0 rfl) ?_
  refine z_getX (i := 0) (j := 8) hM hI rfl hinX11 rfl (by decide) (by decide +kernel) (fun _ h9 => h9) rfl dX11_battery_6 ?_
  exact W.iret (v := 5000) hx hb hr (fun t ht hW => ⟨⟨_, (L, κ, g), rfl, ⟨rfl, rfl⟩, z_end hK hI ht hW⟩, z_F hI ht⟩) (z_locs hI) dX11_battery_9

set_option maxHeartbeats 4000000 in
set_option maxRecDepth 100000 in
theorem x_X11_purse (l : Launch) (D : va_G) (tc : Nat → ClassId) (z0 : Nat) (L : List Nat) (κ : Nat → Nat) (g : Nat → Nat → Value) (sz : Nat) (pm : Nat) (lc : Nat) (lt : Nat) (pv : Nat) (pg : Nat)  : Met l yX11_purse wsX11_purse ({ frames := 0, cells := 0, slots := 0, locals := 0 }) (zPc D tc z0 [.ref pm] ([(pm, .inr (13, [.ref lc, .ref lt, .ref pv, .ref pg, .int 0, .int 4000, .int 0, .int 200, .int 5000, .int 600, .int 0, .int 0, .int 0, .int 0, .int 0, .int 0, .int 0, .int 0, .int 0, .long 0, .long 0, .long 0, .long 0, .long 0, .long 0, .int 0, .int 45]))] : va_W) (L, κ, g) sz) (va_Qi (fun (r : Int32) (u : (zS)) => r = 600 ∧ u = (L, κ, g)) (fun (u : (zS)) (t : State) => zB D tc (zA ([(pm, .inr (13, [.ref lc, .ref lt, .ref pv, .ref pg, .int 0, .int 4000, .int 0, .int 200, .int 5000, .int 600, .int 0, .int 0, .int 0, .int 0, .int 0, .int 0, .int 0, .int 0, .int 0, .long 0, .long 0, .long 0, .long 0, .long 0, .long 0, .int 0, .int 45]))] : va_W) L sz) ([(pm, .inr (13, [.ref lc, .ref lt, .ref pv, .ref pg, .int 0, .int 4000, .int 0, .int 200, .int 5000, .int 600, .int 0, .int 0, .int 0, .int 0, .int 0, .int 0, .int 0, .int 0, .int 0, .long 0, .long 0, .long 0, .long 0, .long 0, .long 0, .int 0, .int 45]))] : va_W) u t) (zA ([(pm, .inr (13, [.ref lc, .ref lt, .ref pv, .ref pg, .int 0, .int 4000, .int 0, .int 200, .int 5000, .int 600, .int 0, .int 0, .int 0, .int 0, .int 0, .int 0, .int 0, .int 0, .int 0, .long 0, .long 0, .long 0, .long 0, .long 0, .long 0, .int 0, .int 45]))] : va_W) L sz)) 0 0 (zA ([(pm, .inr (13, [.ref lc, .ref lt, .ref pv, .ref pg, .int 0, .int 4000, .int 0, .int 200, .int 5000, .int 600, .int 0, .int 0, .int 0, .int 0, .int 0, .int 0, .int 0, .int 0, .int 0, .long 0, .long 0, .long 0, .long 0, .long 0, .long 0, .int 0, .int 45]))] : va_W) L sz) := by
  refine Met.ofW (cc := cX11_purse) (maxL := 1) (ret := (some .int)) (by decide) rfl ?_
  intro p e9 s m args below meth c s₁ B hml hv
  obtain ⟨rfl, rfl, hK, hE, hI⟩ := hv.opn
  have hx := B.exec
  have hb := B.bytes
  have hr := B.returns
  have hts := atoms_spec (ws := wsX11_purse) B.pre
  have hown : s.vm.findClass RX11 = some m.cls := findClass_of_methodNamed B.named
  have hlocks := B.notSynchronized
  have hM : zM p s m c cX11_purse _ wsX11_purse RX11 D tc := ⟨hx, hb, hts, hown, hK⟩
  have hinX11 : ∀ w ∈ wsX110, w ∈ wsX11_purse := by decide +kernel
  have hl := lv_entry ([.ref pm]) (n := 1) (Nat.le_of_ble_eq_true rfl)
  rw [lg_entry_eq]
  generalize (lg_sl ([.ref pm]) ++ List.replicate (1 - (lg_sl ([.ref pm])).length) Slot.unset).toArray = ls at hl ⊢
  have hl : lv_has ls 1 [(0, .ref pm)] := hl
  refine lv_aload_n hx hb dX11_purse_0 rfl (lv_at hl 0 rfl) ?_
  refine lv_iconst (v := 0) hx hb dX11_purse_1 (by decide) ?_
  refine z_putX (i := 0) (j := 12) hM hI rfl hinX11 tyX11 tyX11_ok nmX11 rfl (by decide) (by decide +kernel) (fun _ h9 => h9) rfl rfl rfl rfl (Nat.le_of_ble_eq_true rfl) dX11_purse_2 (fun H locs hI => ?_)
  have hI : zI D tc _ s.heap [(pm, .inr (13, [.ref lc, .ref lt, .ref pv, .ref pg, .int 0, .int 4000, .int 0, .int 200, .int 5000, .int 600, .int 0, .int 0, .int 0, .int 0, .int 0, .int 0, .int 0, .int 0, .int 0, .long 0, .long 0, .long 0, .long 0, .long 0, .long 0, .int 0, .int 45]))] L κ g _ _ := hI
  refine lv_aload_n hx hb dX11_purse_5 rfl (lv_at hl 0 rfl) ?_
  refine z_getX (i := 0) (j := 9) hM hI rfl hinX11 rfl (by decide) (by decide +kernel) (fun _ h9 => h9) rfl dX11_purse_6 ?_
  exact W.iret (v := 600) hx hb hr (fun t ht hW => ⟨⟨_, (L, κ, g), rfl, ⟨rfl, rfl⟩, z_end hK hI ht hW⟩, z_F hI ht⟩) (z_locs hI) dX11_purse_9

set_option maxHeartbeats 4000000 in
set_option maxRecDepth 100000 in
theorem x_X11_taken (l : Launch) (D : va_G) (tc : Nat → ClassId) (z0 : Nat) (L : List Nat) (κ : Nat → Nat) (g : Nat → Nat → Value) (sz : Nat) (pm : Nat) (lc : Nat) (lt : Nat) (pv : Nat) (pg : Nat)  : Met l yX11_taken wsX11_taken ({ frames := 0, cells := 0, slots := 0, locals := 0 }) (zPc D tc z0 [.ref pm] ([(pm, .inr (13, [.ref lc, .ref lt, .ref pv, .ref pg, .int 0, .int 4000, .int 0, .int 200, .int 5000, .int 600, .int 0, .int 0, .int 0, .int 0, .int 0, .int 0, .int 0, .int 0, .int 0, .long 0, .long 0, .long 0, .long 0, .long 0, .long 0, .int 0, .int 45]))] : va_W) (L, κ, g) sz) (va_Qi (fun (r : Int32) (u : (zS)) => r = 0 ∧ u = (L, κ, g)) (fun (u : (zS)) (t : State) => zB D tc (zA ([(pm, .inr (13, [.ref lc, .ref lt, .ref pv, .ref pg, .int 0, .int 4000, .int 0, .int 200, .int 5000, .int 600, .int 0, .int 0, .int 0, .int 0, .int 0, .int 0, .int 0, .int 0, .int 0, .long 0, .long 0, .long 0, .long 0, .long 0, .long 0, .int 0, .int 45]))] : va_W) L sz) ([(pm, .inr (13, [.ref lc, .ref lt, .ref pv, .ref pg, .int 0, .int 4000, .int 0, .int 200, .int 5000, .int 600, .int 0, .int 0, .int 0, .int 0, .int 0, .int 0, .int 0, .int 0, .int 0, .long 0, .long 0, .long 0, .long 0, .long 0, .long 0, .int 0, .int 45]))] : va_W) u t) (zA ([(pm, .inr (13, [.ref lc, .ref lt, .ref pv, .ref pg, .int 0, .int 4000, .int 0, .int 200, .int 5000, .int 600, .int 0, .int 0, .int 0, .int 0, .int 0, .int 0, .int 0, .int 0, .int 0, .long 0, .long 0, .long 0, .long 0, .long 0, .long 0, .int 0, .int 45]))] : va_W) L sz)) 0 0 (zA ([(pm, .inr (13, [.ref lc, .ref lt, .ref pv, .ref pg, .int 0, .int 4000, .int 0, .int 200, .int 5000, .int 600, .int 0, .int 0, .int 0, .int 0, .int 0, .int 0, .int 0, .int 0, .int 0, .long 0, .long 0, .long 0, .long 0, .long 0, .long 0, .int 0, .int 45]))] : va_W) L sz) := by
  refine Met.ofW (cc := cX11_taken) (maxL := 1) (ret := (some .int)) (by decide) rfl ?_
  intro p e9 s m args below meth c s₁ B hml hv
  obtain ⟨rfl, rfl, hK, hE, hI⟩ := hv.opn
  have hx := B.exec
  have hb := B.bytes
  have hr := B.returns
  have hts := atoms_spec (ws := wsX11_taken) B.pre
  have hown : s.vm.findClass RX11 = some m.cls := findClass_of_methodNamed B.named
  have hlocks := B.notSynchronized
  have hM : zM p s m c cX11_taken _ wsX11_taken RX11 D tc := ⟨hx, hb, hts, hown, hK⟩
  have hinX11 : ∀ w ∈ wsX110, w ∈ wsX11_taken := by decide +kernel
  have hl := lv_entry ([.ref pm]) (n := 1) (Nat.le_of_ble_eq_true rfl)
  rw [lg_entry_eq]
  generalize (lg_sl ([.ref pm]) ++ List.replicate (1 - (lg_sl ([.ref pm])).length) Slot.unset).toArray = ls at hl ⊢
  have hl : lv_has ls 1 [(0, .ref pm)] := hl
  refine lv_aload_n hx hb dX11_taken_0 rfl (lv_at hl 0 rfl) ?_
  refine lv_iconst (v := 0) hx hb dX11_taken_1 (by decide) ?_
  refine z_putX (i := 0) (j := 12) hM hI rfl hinX11 tyX11 tyX11_ok nmX11 rfl (by decide) (by decide +kernel) (fun _ h9 => h9) rfl rfl rfl rfl (Nat.le_of_ble_eq_true rfl) dX11_taken_2 (fun H locs hI => ?_)
  have hI : zI D tc _ s.heap [(pm, .inr (13, [.ref lc, .ref lt, .ref pv, .ref pg, .int 0, .int 4000, .int 0, .int 200, .int 5000, .int 600, .int 0, .int 0, .int 0, .int 0, .int 0, .int 0, .int 0, .int 0, .int 0, .long 0, .long 0, .long 0, .long 0, .long 0, .long 0, .int 0, .int 45]))] L κ g _ _ := hI
  refine lv_aload_n hx hb dX11_taken_5 rfl (lv_at hl 0 rfl) ?_
  refine z_getX (i := 0) (j := 10) hM hI rfl hinX11 rfl (by decide) (by decide +kernel) (fun _ h9 => h9) rfl dX11_taken_6 ?_
  exact W.iret (v := 0) hx hb hr (fun t ht hW => ⟨⟨_, (L, κ, g), rfl, ⟨rfl, rfl⟩, z_end hK hI ht hW⟩, z_F hI ht⟩) (z_locs hI) dX11_taken_9

set_option maxHeartbeats 4000000 in
set_option maxRecDepth 100000 in
theorem x_X11_owed (l : Launch) (D : va_G) (tc : Nat → ClassId) (z0 : Nat) (L : List Nat) (κ : Nat → Nat) (g : Nat → Nat → Value) (sz : Nat) (pm : Nat) (lc : Nat) (lt : Nat) (pv : Nat) (pg : Nat)  : Met l yX11_owed wsX11_owed ({ frames := 0, cells := 0, slots := 0, locals := 0 }) (zPc D tc z0 [.ref pm] ([(pm, .inr (13, [.ref lc, .ref lt, .ref pv, .ref pg, .int 0, .int 4000, .int 0, .int 200, .int 5000, .int 600, .int 0, .int 0, .int 0, .int 0, .int 0, .int 0, .int 0, .int 0, .int 0, .long 0, .long 0, .long 0, .long 0, .long 0, .long 0, .int 0, .int 45]))] : va_W) (L, κ, g) sz) (va_Qi (fun (r : Int32) (u : (zS)) => r = 0 ∧ u = (L, κ, g)) (fun (u : (zS)) (t : State) => zB D tc (zA ([(pm, .inr (13, [.ref lc, .ref lt, .ref pv, .ref pg, .int 0, .int 4000, .int 0, .int 200, .int 5000, .int 600, .int 0, .int 0, .int 0, .int 0, .int 0, .int 0, .int 0, .int 0, .int 0, .long 0, .long 0, .long 0, .long 0, .long 0, .long 0, .int 0, .int 45]))] : va_W) L sz) ([(pm, .inr (13, [.ref lc, .ref lt, .ref pv, .ref pg, .int 0, .int 4000, .int 0, .int 200, .int 5000, .int 600, .int 0, .int 0, .int 0, .int 0, .int 0, .int 0, .int 0, .int 0, .int 0, .long 0, .long 0, .long 0, .long 0, .long 0, .long 0, .int 0, .int 45]))] : va_W) u t) (zA ([(pm, .inr (13, [.ref lc, .ref lt, .ref pv, .ref pg, .int 0, .int 4000, .int 0, .int 200, .int 5000, .int 600, .int 0, .int 0, .int 0, .int 0, .int 0, .int 0, .int 0, .int 0, .int 0, .long 0, .long 0, .long 0, .long 0, .long 0, .long 0, .int 0, .int 45]))] : va_W) L sz)) 0 0 (zA ([(pm, .inr (13, [.ref lc, .ref lt, .ref pv, .ref pg, .int 0, .int 4000, .int 0, .int 200, .int 5000, .int 600, .int 0, .int 0, .int 0, .int 0, .int 0, .int 0, .int 0, .int 0, .int 0, .long 0, .long 0, .long 0, .long 0, .long 0, .long 0, .int 0, .int 45]))] : va_W) L sz) := by
  refine Met.ofW (cc := cX11_owed) (maxL := 1) (ret := (some .int)) (by decide) rfl ?_
  intro p e9 s m args below meth c s₁ B hml hv
  obtain ⟨rfl, rfl, hK, hE, hI⟩ := hv.opn
  have hx := B.exec
  have hb := B.bytes
  have hr := B.returns
  have hts := atoms_spec (ws := wsX11_owed) B.pre
  have hown : s.vm.findClass RX11 = some m.cls := findClass_of_methodNamed B.named
  have hlocks := B.notSynchronized
  have hM : zM p s m c cX11_owed _ wsX11_owed RX11 D tc := ⟨hx, hb, hts, hown, hK⟩
  have hinX11 : ∀ w ∈ wsX110, w ∈ wsX11_owed := by decide +kernel
  have hl := lv_entry ([.ref pm]) (n := 1) (Nat.le_of_ble_eq_true rfl)
  rw [lg_entry_eq]
  generalize (lg_sl ([.ref pm]) ++ List.replicate (1 - (lg_sl ([.ref pm])).length) Slot.unset).toArray = ls at hl ⊢
  have hl : lv_has ls 1 [(0, .ref pm)] := hl
  refine lv_aload_n hx hb dX11_owed_0 rfl (lv_at hl 0 rfl) ?_
  refine lv_iconst (v := 0) hx hb dX11_owed_1 (by decide) ?_
  refine z_putX (i := 0) (j := 12) hM hI rfl hinX11 tyX11 tyX11_ok nmX11 rfl (by decide) (by decide +kernel) (fun _ h9 => h9) rfl rfl rfl rfl (Nat.le_of_ble_eq_true rfl) dX11_owed_2 (fun H locs hI => ?_)
  have hI : zI D tc _ s.heap [(pm, .inr (13, [.ref lc, .ref lt, .ref pv, .ref pg, .int 0, .int 4000, .int 0, .int 200, .int 5000, .int 600, .int 0, .int 0, .int 0, .int 0, .int 0, .int 0, .int 0, .int 0, .int 0, .long 0, .long 0, .long 0, .long 0, .long 0, .long 0, .int 0, .int 45]))] L κ g _ _ := hI
  refine lv_aload_n hx hb dX11_owed_5 rfl (lv_at hl 0 rfl) ?_
  refine z_getX (i := 0) (j := 11) hM hI rfl hinX11 rfl (by decide) (by decide +kernel) (fun _ h9 => h9) rfl dX11_owed_6 ?_
  exact W.iret (v := 0) hx hb hr (fun t ht hW => ⟨⟨_, (L, κ, g), rfl, ⟨rfl, rfl⟩, z_end hK hI ht hW⟩, z_F hI ht⟩) (z_locs hI) dX11_owed_9

set_option maxHeartbeats 4000000 in
set_option maxRecDepth 100000 in
theorem x_X11_isSound (l : Launch) (D : va_G) (tc : Nat → ClassId) (z0 : Nat) (L : List Nat) (κ : Nat → Nat) (g : Nat → Nat → Value) (sz : Nat) (pm : Nat) (lc : Nat) (lt : Nat) (pv : Nat) (pg : Nat)  : Met l yX11_isSound wsX11_isSound ({ frames := 0, cells := 0, slots := 0, locals := 0 }) (zPc D tc z0 [.ref pm] ([(pm, .inr (13, [.ref lc, .ref lt, .ref pv, .ref pg, .int 0, .int 4000, .int 0, .int 200, .int 5000, .int 600, .int 0, .int 0, .int 0, .int 0, .int 0, .int 0, .int 0, .int 0, .int 0, .long 0, .long 0, .long 0, .long 0, .long 0, .long 0, .int 0, .int 45]))] : va_W) (L, κ, g) sz) (va_Qi (fun (r : Int32) (u : (zS)) => r = 1 ∧ u = (L, κ, g)) (fun (u : (zS)) (t : State) => zB D tc (zA ([(pm, .inr (13, [.ref lc, .ref lt, .ref pv, .ref pg, .int 0, .int 4000, .int 0, .int 200, .int 5000, .int 600, .int 0, .int 0, .int 0, .int 0, .int 0, .int 0, .int 0, .int 0, .int 0, .long 0, .long 0, .long 0, .long 0, .long 0, .long 0, .int 0, .int 45]))] : va_W) L sz) ([(pm, .inr (13, [.ref lc, .ref lt, .ref pv, .ref pg, .int 0, .int 4000, .int 0, .int 200, .int 5000, .int 600, .int 0, .int 0, .int 0, .int 0, .int 0, .int 0, .int 0, .int 0, .int 0, .long 0, .long 0, .long 0, .long 0, .long 0, .long 0, .int 0, .int 45]))] : va_W) u t) (zA ([(pm, .inr (13, [.ref lc, .ref lt, .ref pv, .ref pg, .int 0, .int 4000, .int 0, .int 200, .int 5000, .int 600, .int 0, .int 0, .int 0, .int 0, .int 0, .int 0, .int 0, .int 0, .int 0, .long 0, .long 0, .long 0, .long 0, .long 0, .long 0, .int 0, .int 45]))] : va_W) L sz)) 0 0 (zA ([(pm, .inr (13, [.ref lc, .ref lt, .ref pv, .ref pg, .int 0, .int 4000, .int 0, .int 200, .int 5000, .int 600, .int 0, .int 0, .int 0, .int 0, .int 0, .int 0, .int 0, .int 0, .int 0, .long 0, .long 0, .long 0, .long 0, .long 0, .long 0, .int 0, .int 45]))] : va_W) L sz) := by
  refine Met.ofW (cc := cX11_isSound) (maxL := 1) (ret := (some .boolean)) (by decide) rfl ?_
  intro p e9 s m args below meth c s₁ B hml hv
  obtain ⟨rfl, rfl, hK, hE, hI⟩ := hv.opn
  have hx := B.exec
  have hb := B.bytes
  have hr := B.returns
  have hts := atoms_spec (ws := wsX11_isSound) B.pre
  have hown : s.vm.findClass RX11 = some m.cls := findClass_of_methodNamed B.named
  have hlocks := B.notSynchronized
  have hM : zM p s m c cX11_isSound _ wsX11_isSound RX11 D tc := ⟨hx, hb, hts, hown, hK⟩
  have hinX11 : ∀ w ∈ wsX110, w ∈ wsX11_isSound := by decide +kernel
  have hl := lv_entry ([.ref pm]) (n := 1) (Nat.le_of_ble_eq_true rfl)
  rw [lg_entry_eq]
  generalize (lg_sl ([.ref pm]) ++ List.replicate (1 - (lg_sl ([.ref pm])).length) Slot.unset).toArray = ls at hl ⊢
  have hl : lv_has ls 1 [(0, .ref pm)] := hl
  refine lv_aload_n hx hb dX11_isSound_0 rfl (lv_at hl 0 rfl) ?_
  refine lv_iconst (v := 0) hx hb dX11_isSound_1 (by decide) ?_
  refine z_putX (i := 0) (j := 12) hM hI rfl hinX11 tyX11 tyX11_ok nmX11 rfl (by decide) (by decide +kernel) (fun _ h9 => h9) rfl rfl rfl rfl (Nat.le_of_ble_eq_true rfl) dX11_isSound_2 (fun H locs hI => ?_)
  have hI : zI D tc _ s.heap [(pm, .inr (13, [.ref lc, .ref lt, .ref pv, .ref pg, .int 0, .int 4000, .int 0, .int 200, .int 5000, .int 600, .int 0, .int 0, .int 0, .int 0, .int 0, .int 0, .int 0, .int 0, .int 0, .long 0, .long 0, .long 0, .long 0, .long 0, .long 0, .int 0, .int 45]))] L κ g _ _ := hI
  refine lv_iconst (v := 1) hx hb dX11_isSound_5 (by decide) ?_
  exact W.zret (v := 1) hx hb hr (by decide) (fun t ht hW => ⟨⟨_, (L, κ, g), rfl, ⟨rfl, rfl⟩, z_end hK hI ht hW⟩, z_F hI ht⟩) (z_locs hI) dX11_isSound_6

set_option maxHeartbeats 4000000 in
set_option maxRecDepth 100000 in
theorem x_X11_thrown (l : Launch) (D : va_G) (tc : Nat → ClassId) (z0 : Nat) (L : List Nat) (κ : Nat → Nat) (g : Nat → Nat → Value) (sz : Nat) (pm : Nat) (lc : Nat) (lt : Nat) (pv : Nat) (pg : Nat)  : Met l yX11_thrown wsX11_thrown ({ frames := 0, cells := 0, slots := 0, locals := 0 }) (zPc D tc z0 [.ref pm] ([(pm, .inr (13, [.ref lc, .ref lt, .ref pv, .ref pg, .int 0, .int 4000, .int 0, .int 200, .int 5000, .int 600, .int 0, .int 0, .int 0, .int 0, .int 0, .int 0, .int 0, .int 0, .int 0, .long 0, .long 0, .long 0, .long 0, .long 0, .long 0, .int 0, .int 45]))] : va_W) (L, κ, g) sz) (va_Qi (fun (r : Int32) (u : (zS)) => r = 0 ∧ u = (L, κ, g)) (fun (u : (zS)) (t : State) => zB D tc (zA ([(pm, .inr (13, [.ref lc, .ref lt, .ref pv, .ref pg, .int 0, .int 4000, .int 0, .int 200, .int 5000, .int 600, .int 0, .int 0, .int 0, .int 0, .int 0, .int 0, .int 0, .int 0, .int 0, .long 0, .long 0, .long 0, .long 0, .long 0, .long 0, .int 0, .int 45]))] : va_W) L sz) ([(pm, .inr (13, [.ref lc, .ref lt, .ref pv, .ref pg, .int 0, .int 4000, .int 0, .int 200, .int 5000, .int 600, .int 0, .int 0, .int 0, .int 0, .int 0, .int 0, .int 0, .int 0, .int 0, .long 0, .long 0, .long 0, .long 0, .long 0, .long 0, .int 0, .int 45]))] : va_W) u t) (zA ([(pm, .inr (13, [.ref lc, .ref lt, .ref pv, .ref pg, .int 0, .int 4000, .int 0, .int 200, .int 5000, .int 600, .int 0, .int 0, .int 0, .int 0, .int 0, .int 0, .int 0, .int 0, .int 0, .long 0, .long 0, .long 0, .long 0, .long 0, .long 0, .int 0, .int 45]))] : va_W) L sz)) 0 0 (zA ([(pm, .inr (13, [.ref lc, .ref lt, .ref pv, .ref pg, .int 0, .int 4000, .int 0, .int 200, .int 5000, .int 600, .int 0, .int 0, .int 0, .int 0, .int 0, .int 0, .int 0, .int 0, .int 0, .long 0, .long 0, .long 0, .long 0, .long 0, .long 0, .int 0, .int 45]))] : va_W) L sz) := by
  refine Met.ofW (cc := cX11_thrown) (maxL := 1) (ret := (some .int)) (by decide) rfl ?_
  intro p e9 s m args below meth c s₁ B hml hv
  obtain ⟨rfl, rfl, hK, hE, hI⟩ := hv.opn
  have hx := B.exec
  have hb := B.bytes
  have hr := B.returns
  have hts := atoms_spec (ws := wsX11_thrown) B.pre
  have hown : s.vm.findClass RX11 = some m.cls := findClass_of_methodNamed B.named
  have hlocks := B.notSynchronized
  have hM : zM p s m c cX11_thrown _ wsX11_thrown RX11 D tc := ⟨hx, hb, hts, hown, hK⟩
  have hinX11 : ∀ w ∈ wsX110, w ∈ wsX11_thrown := by decide +kernel
  have hl := lv_entry ([.ref pm]) (n := 1) (Nat.le_of_ble_eq_true rfl)
  rw [lg_entry_eq]
  generalize (lg_sl ([.ref pm]) ++ List.replicate (1 - (lg_sl ([.ref pm])).length) Slot.unset).toArray = ls at hl ⊢
  have hl : lv_has ls 1 [(0, .ref pm)] := hl
  refine lv_aload_n hx hb dX11_thrown_0 rfl (lv_at hl 0 rfl) ?_
  refine z_getX (i := 0) (j := 12) hM hI rfl hinX11 rfl (by decide) (by decide +kernel) (fun _ h9 => h9) rfl dX11_thrown_1 ?_
  exact W.iret (v := 0) hx hb hr (fun t ht hW => ⟨⟨_, (L, κ, g), rfl, ⟨rfl, rfl⟩, z_end hK hI ht hW⟩, z_F hI ht⟩) (z_locs hI) dX11_thrown_4

set_option maxHeartbeats 4000000 in
set_option maxRecDepth 100000 in
theorem x_X11_volts_0 (l : Launch) (D : va_G) (tc : Nat → ClassId) (z0 : Nat) (L : List Nat) (κ : Nat → Nat) (g : Nat → Nat → Value) (sz : Nat) (pm : Nat) (lc : Nat) (lt : Nat) (pv : Nat) (pg : Nat)  : Met l yX11_volts wsX11_volts ({ frames := 1, cells := 0, slots := 0, locals := 22 }) (zPc D tc z0 [.ref pm, .int 0] ([(pm, .inr (13, [.ref lc, .ref lt, .ref pv, .ref pg, .int 0, .int 4000, .int 0, .int 200, .int 5000, .int 600, .int 0, .int 0, .int 0, .int 0, .int 0, .int 0, .int 0, .int 0, .int 0, .long 0, .long 0, .long 0, .long 0, .long 0, .long 0, .int 0, .int 45])), (pv, .inl (tc 0, 3, .inl (upd (upd (upd (fun _ => 0) (0 : Int32).toNatClampNeg 500) (1 : Int32).toNatClampNeg 500) (2 : Int32).toNatClampNeg 500)))] : va_W) (L, κ, g) sz) (va_Qi (fun (r : Int32) (u : (zS)) => r = 500 ∧ u = (L, κ, g)) (fun (u : (zS)) (t : State) => zB D tc (zA ([(pm, .inr (13, [.ref lc, .ref lt, .ref pv, .ref pg, .int 0, .int 4000, .int 0, .int 200, .int 5000, .int 600, .int 0, .int 0, .int 0, .int 0, .int 0, .int 0, .int 0, .int 0, .int 0, .long 0, .long 0, .long 0, .long 0, .long 0, .long 0, .int 0, .int 45])), (pv, .inl (tc 0, 3, .inl (upd (upd (upd (fun _ => 0) (0 : Int32).toNatClampNeg 500) (1 : Int32).toNatClampNeg 500) (2 : Int32).toNatClampNeg 500)))] : va_W) L sz) ([(pm, .inr (13, [.ref lc, .ref lt, .ref pv, .ref pg, .int 0, .int 4000, .int 0, .int 200, .int 5000, .int 600, .int 0, .int 0, .int 0, .int 0, .int 0, .int 0, .int 0, .int 0, .int 0, .long 0, .long 0, .long 0, .long 0, .long 0, .long 0, .int 0, .int 45])), (pv, .inl (tc 0, 3, .inl (upd (upd (upd (fun _ => 0) (0 : Int32).toNatClampNeg 500) (1 : Int32).toNatClampNeg 500) (2 : Int32).toNatClampNeg 500)))] : va_W) u t) (zA ([(pm, .inr (13, [.ref lc, .ref lt, .ref pv, .ref pg, .int 0, .int 4000, .int 0, .int 200, .int 5000, .int 600, .int 0, .int 0, .int 0, .int 0, .int 0, .int 0, .int 0, .int 0, .int 0, .long 0, .long 0, .long 0, .long 0, .long 0, .long 0, .int 0, .int 45])), (pv, .inl (tc 0, 3, .inl (upd (upd (upd (fun _ => 0) (0 : Int32).toNatClampNeg 500) (1 : Int32).toNatClampNeg 500) (2 : Int32).toNatClampNeg 500)))] : va_W) L sz)) 0 0 (zA ([(pm, .inr (13, [.ref lc, .ref lt, .ref pv, .ref pg, .int 0, .int 4000, .int 0, .int 200, .int 5000, .int 600, .int 0, .int 0, .int 0, .int 0, .int 0, .int 0, .int 0, .int 0, .int 0, .long 0, .long 0, .long 0, .long 0, .long 0, .long 0, .int 0, .int 45])), (pv, .inl (tc 0, 3, .inl (upd (upd (upd (fun _ => 0) (0 : Int32).toNatClampNeg 500) (1 : Int32).toNatClampNeg 500) (2 : Int32).toNatClampNeg 500)))] : va_W) L sz) := by
  refine Met.ofW (cc := cX11_volts) (maxL := 2) (ret := (some .int)) (by decide) rfl ?_
  intro p e9 s m args below meth c s₁ B hml hv
  obtain ⟨rfl, rfl, hK, hE, hI⟩ := hv.opn
  have hx := B.exec
  have hb := B.bytes
  have hr := B.returns
  have hts := atoms_spec (ws := wsX11_volts) B.pre
  have hown : s.vm.findClass RX11 = some m.cls := findClass_of_methodNamed B.named
  have hlocks := B.notSynchronized
  have hM : zM p s m c cX11_volts _ wsX11_volts RX11 D tc := ⟨hx, hb, hts, hown, hK⟩
  have hinX11 : ∀ w ∈ wsX110, w ∈ wsX11_volts := by decide +kernel
  have hl := lv_entry ([.ref pm, .int 0]) (n := 2) (Nat.le_of_ble_eq_true rfl)
  rw [lg_entry_eq]
  generalize (lg_sl ([.ref pm, .int 0]) ++ List.replicate (2 - (lg_sl ([.ref pm, .int 0])).length) Slot.unset).toArray = ls at hl ⊢
  have hl : lv_has ls 2 [(0, .ref pm), (1, .int 0)] := hl
  refine lv_aload_n hx hb dX11_volts_0 rfl (lv_at hl 0 rfl) ?_
  refine lv_iload_n hx hb dX11_volts_1 rfl (lv_at hl 1 rfl) ?_
  refine lv_iconst (v := 0) hx hb dX11_volts_2 (by decide) ?_
  refine lv_iconst (v := 2) hx hb dX11_volts_3 (by decide) ?_
  refine z_ciX (Xc := ([] : va_W)) (wr := ([(pm, .inr (13, [.ref lc, .ref lt, .ref pv, .ref pg, .int 0, .int 4000, .int 0, .int 200, .int 5000, .int 600, .int 0, .int 0, .int 0, .int 0, .int 0, .int 0, .int 0, .int 0, .int 0, .long 0, .long 0, .long 0, .long 0, .long 0, .long 0, .int 0, .int 45])), (pv, .inl (tc 0, 3, .inl (upd (upd (upd (fun _ => 0) (0 : Int32).toNatClampNeg 500) (1 : Int32).toNatClampNeg 500) (2 : Int32).toNatClampNeg 500)))] : va_W)) (rx := ([] : va_W)) [] [0, 1] rfl rfl rfl rfl (by decide) hI (va_runS (As := [.int 0, .int 0, .int 2]) (rest := [.ref pm]) ⟨hx, hb, hml, hown, hts⟩ (x_X11_in_0 l D tc z0 _ κ g _  ) (va_cwS 3 hts gX11_volts_X11_in rfl rfl rfl (by decide +kernel) ⟨Nat.le_of_ble_eq_true rfl, Nat.le_of_ble_eq_true rfl⟩) (z_pre (Xc := ([] : va_W)) hK hE hI [] rfl rfl) rfl rfl hl.1 rfl (lv_room (Nat.le_of_ble_eq_true rfl)) dX11_volts_4 ⟨Nat.le_of_ble_eq_true rfl, Nat.le_of_ble_eq_true rfl⟩) (fun v1 u H locs hw hI => ?_)
  obtain ⟨rfl, rfl⟩ := hw
  have hI : zI D tc _ s.heap [(pm, .inr (13, [.ref lc, .ref lt, .ref pv, .ref pg, .int 0, .int 4000, .int 0, .int 200, .int 5000, .int 600, .int 0, .int 0, .int 0, .int 0, .int 0, .int 0, .int 0, .int 0, .int 0, .long 0, .long 0, .long 0, .long 0, .long 0, .long 0, .int 0, .int 45])), (pv, .inl (tc 0, 3, .inl (upd (upd (upd (fun _ => 0) (0 : Int32).toNatClampNeg 500) (1 : Int32).toNatClampNeg 500) (2 : Int32).toNatClampNeg 500)))] L κ g _ _ := hI
  refine lv_if_eq (tgt := 14) hx hb dX11_volts_7 (by decide) (fun h9 => by first | exact absurd h9 (by decide) | exact absurd (by decide) h9) (fun _ => ?_)
  refine lv_iconst (v := 0) hx hb dX11_volts_10 (by decide) ?_
  refine lv_goto (tgt := 15) hx hb dX11_volts_11 (by decide) ?_
  refine z_ciX (Xc := ([(pm, .inr (13, [.ref lc, .ref lt, .ref pv, .ref pg, .int 0, .int 4000, .int 0, .int 200, .int 5000, .int 600, .int 0, .int 0, .int 0, .int 0, .int 0, .int 0, .int 0, .int 0, .int 0, .long 0, .long 0, .long 0, .long 0, .long 0, .long 0, .int 0, .int 45]))] : va_W)) (wr := ([(pv, .inl (tc 0, 3, .inl (upd (upd (upd (fun _ => 0) (0 : Int32).toNatClampNeg 500) (1 : Int32).toNatClampNeg 500) (2 : Int32).toNatClampNeg 500)))] : va_W)) (rx := ([(pm, .inr (13, [.ref lc, .ref lt, .ref pv, .ref pg, .int 0, .int 4000, .int 0, .int 200, .int 5000, .int 600, .int 0, .int 0, .int 0, .int 0, .int 0, .int 0, .int 0, .int 0, .int 0, .long 0, .long 0, .long 0, .long 0, .long 0, .long 0, .int 0, .int 45]))] : va_W)) [0] [1] rfl rfl rfl rfl (by decide) hI (va_runV (As := [.int 0]) (rest := []) ⟨hx, hb, hml, hown, hts⟩ (x_X11_fails_0 l D tc z0 _ κ g _ pm lc lt pv pg ) (cwV 1 hts gX11_volts_X11_fails rfl rfl rfl (by decide +kernel) ⟨Nat.le_of_ble_eq_true rfl, Nat.le_of_ble_eq_true rfl⟩) (z_preV (Xc := ([(pm, .inr (13, [.ref lc, .ref lt, .ref pv, .ref pg, .int 0, .int 4000, .int 0, .int 200, .int 5000, .int 600, .int 0, .int 0, .int 0, .int 0, .int 0, .int 0, .int 0, .int 0, .int 0, .long 0, .long 0, .long 0, .long 0, .long 0, .long 0, .int 0, .int 45]))] : va_W)) hK hE hI [0] rfl rfl (z_recvX hK hI (i := 0) rfl rfl)) rfl rfl hl.1 rfl (lv_room (Nat.le_of_ble_eq_true rfl)) dX11_volts_15 ⟨Nat.le_of_ble_eq_true rfl, Nat.le_of_ble_eq_true rfl⟩) (fun v2 u H locs hw hI => ?_)
  obtain ⟨rfl, rfl⟩ := hw
  have hI : zI D tc _ s.heap [(pv, .inl (tc 0, 3, .inl (upd (upd (upd (fun _ => 0) (0 : Int32).toNatClampNeg 500) (1 : Int32).toNatClampNeg 500) (2 : Int32).toNatClampNeg 500))), (pm, .inr (13, [.ref lc, .ref lt, .ref pv, .ref pg, .int 0, .int 4000, .int 0, .int 200, .int 5000, .int 600, .int 0, .int 0, .int 0, .int 0, .int 0, .int 0, .int 0, .int 0, .int 0, .long 0, .long 0, .long 0, .long 0, .long 0, .long 0, .int 0, .int 45]))] L κ g _ _ := hI
  refine lv_if_eq (tgt := 25) hx hb dX11_volts_18 (by decide) (fun _ => ?_) (fun h9 => by first | exact absurd h9 (by decide) | exact absurd (by decide) h9)
  refine lv_aload_n hx hb dX11_volts_25 rfl (lv_at hl 0 rfl) ?_
  refine z_getX (i := 1) (j := 2) hM hI rfl hinX11 rfl (by decide) (by decide +kernel) (fun _ h9 => h9) rfl dX11_volts_26 ?_
  refine lv_iload_n hx hb dX11_volts_29 rfl (lv_at hl 1 rfl) ?_
  refine z_ialdE (i := 0) (v := 500) hM hI rfl (vp_in_c 0 3 (by decide)) (by first | rfl | decide +kernel) dX11_volts_30 ?_
  have hI := z_part (X' := ([(pm, .inr (13, [.ref lc, .ref lt, .ref pv, .ref pg, .int 0, .int 4000, .int 0, .int 200, .int 5000, .int 600, .int 0, .int 0, .int 0, .int 0, .int 0, .int 0, .int 0, .int 0, .int 0, .long 0, .long 0, .long 0, .long 0, .long 0, .long 0, .int 0, .int 45])), (pv, .inl (tc 0, 3, .inl (upd (upd (upd (fun _ => 0) (0 : Int32).toNatClampNeg 500) (1 : Int32).toNatClampNeg 500) (2 : Int32).toNatClampNeg 500)))] : va_W)) [1, 0] rfl rfl hI
  exact W.iret (v := 500) hx hb hr (fun t ht hW => ⟨⟨_, (L, κ, g), rfl, ⟨rfl, rfl⟩, z_end hK hI ht hW⟩, z_F hI ht⟩) (z_locs hI) dX11_volts_31

set_option maxHeartbeats 4000000 in
set_option maxRecDepth 100000 in
theorem x_X11_volts_1 (l : Launch) (D : va_G) (tc : Nat → ClassId) (z0 : Nat) (L : List Nat) (κ : Nat → Nat) (g : Nat → Nat → Value) (sz : Nat) (pm : Nat) (lc : Nat) (lt : Nat) (pv : Nat) (pg : Nat)  : Met l yX11_volts wsX11_volts ({ frames := 1, cells := 0, slots := 0, locals := 22 }) (zPc D tc z0 [.ref pm, .int 1] ([(pm, .inr (13, [.ref lc, .ref lt, .ref pv, .ref pg, .int 0, .int 4000, .int 0, .int 200, .int 5000, .int 600, .int 0, .int 0, .int 0, .int 0, .int 0, .int 0, .int 0, .int 0, .int 0, .long 0, .long 0, .long 0, .long 0, .long 0, .long 0, .int 0, .int 45])), (pv, .inl (tc 0, 3, .inl (upd (upd (upd (fun _ => 0) (0 : Int32).toNatClampNeg 500) (1 : Int32).toNatClampNeg 500) (2 : Int32).toNatClampNeg 500)))] : va_W) (L, κ, g) sz) (va_Qi (fun (r : Int32) (u : (zS)) => r = 500 ∧ u = (L, κ, g)) (fun (u : (zS)) (t : State) => zB D tc (zA ([(pm, .inr (13, [.ref lc, .ref lt, .ref pv, .ref pg, .int 0, .int 4000, .int 0, .int 200, .int 5000, .int 600, .int 0, .int 0, .int 0, .int 0, .int 0, .int 0, .int 0, .int 0, .int 0, .long 0, .long 0, .long 0, .long 0, .long 0, .long 0, .int 0, .int 45])), (pv, .inl (tc 0, 3, .inl (upd (upd (upd (fun _ => 0) (0 : Int32).toNatClampNeg 500) (1 : Int32).toNatClampNeg 500) (2 : Int32).toNatClampNeg 500)))] : va_W) L sz) ([(pm, .inr (13, [.ref lc, .ref lt, .ref pv, .ref pg, .int 0, .int 4000, .int 0, .int 200, .int 5000, .int 600, .int 0, .int 0, .int 0, .int 0, .int 0, .int 0, .int 0, .int 0, .int 0, .long 0, .long 0, .long 0, .long 0, .long 0, .long 0, .int 0, .int 45])), (pv, .inl (tc 0, 3, .inl (upd (upd (upd (fun _ => 0) (0 : Int32).toNatClampNeg 500) (1 : Int32).toNatClampNeg 500) (2 : Int32).toNatClampNeg 500)))] : va_W) u t) (zA ([(pm, .inr (13, [.ref lc, .ref lt, .ref pv, .ref pg, .int 0, .int 4000, .int 0, .int 200, .int 5000, .int 600, .int 0, .int 0, .int 0, .int 0, .int 0, .int 0, .int 0, .int 0, .int 0, .long 0, .long 0, .long 0, .long 0, .long 0, .long 0, .int 0, .int 45])), (pv, .inl (tc 0, 3, .inl (upd (upd (upd (fun _ => 0) (0 : Int32).toNatClampNeg 500) (1 : Int32).toNatClampNeg 500) (2 : Int32).toNatClampNeg 500)))] : va_W) L sz)) 0 0 (zA ([(pm, .inr (13, [.ref lc, .ref lt, .ref pv, .ref pg, .int 0, .int 4000, .int 0, .int 200, .int 5000, .int 600, .int 0, .int 0, .int 0, .int 0, .int 0, .int 0, .int 0, .int 0, .int 0, .long 0, .long 0, .long 0, .long 0, .long 0, .long 0, .int 0, .int 45])), (pv, .inl (tc 0, 3, .inl (upd (upd (upd (fun _ => 0) (0 : Int32).toNatClampNeg 500) (1 : Int32).toNatClampNeg 500) (2 : Int32).toNatClampNeg 500)))] : va_W) L sz) := by
  refine Met.ofW (cc := cX11_volts) (maxL := 2) (ret := (some .int)) (by decide) rfl ?_
  intro p e9 s m args below meth c s₁ B hml hv
  obtain ⟨rfl, rfl, hK, hE, hI⟩ := hv.opn
  have hx := B.exec
  have hb := B.bytes
  have hr := B.returns
  have hts := atoms_spec (ws := wsX11_volts) B.pre
  have hown : s.vm.findClass RX11 = some m.cls := findClass_of_methodNamed B.named
  have hlocks := B.notSynchronized
  have hM : zM p s m c cX11_volts _ wsX11_volts RX11 D tc := ⟨hx, hb, hts, hown, hK⟩
  have hinX11 : ∀ w ∈ wsX110, w ∈ wsX11_volts := by decide +kernel
  have hl := lv_entry ([.ref pm, .int 1]) (n := 2) (Nat.le_of_ble_eq_true rfl)
  rw [lg_entry_eq]
  generalize (lg_sl ([.ref pm, .int 1]) ++ List.replicate (2 - (lg_sl ([.ref pm, .int 1])).length) Slot.unset).toArray = ls at hl ⊢
  have hl : lv_has ls 2 [(0, .ref pm), (1, .int 1)] := hl
  refine lv_aload_n hx hb dX11_volts_0 rfl (lv_at hl 0 rfl) ?_
  refine lv_iload_n hx hb dX11_volts_1 rfl (lv_at hl 1 rfl) ?_
  refine lv_iconst (v := 0) hx hb dX11_volts_2 (by decide) ?_
  refine lv_iconst (v := 2) hx hb dX11_volts_3 (by decide) ?_
  refine z_ciX (Xc := ([] : va_W)) (wr := ([(pm, .inr (13, [.ref lc, .ref lt, .ref pv, .ref pg, .int 0, .int 4000, .int 0, .int 200, .int 5000, .int 600, .int 0, .int 0, .int 0, .int 0, .int 0, .int 0, .int 0, .int 0, .int 0, .long 0, .long 0, .long 0, .long 0, .long 0, .long 0, .int 0, .int 45])), (pv, .inl (tc 0, 3, .inl (upd (upd (upd (fun _ => 0) (0 : Int32).toNatClampNeg 500) (1 : Int32).toNatClampNeg 500) (2 : Int32).toNatClampNeg 500)))] : va_W)) (rx := ([] : va_W)) [] [0, 1] rfl rfl rfl rfl (by decide) hI (va_runS (As := [.int 1, .int 0, .int 2]) (rest := [.ref pm]) ⟨hx, hb, hml, hown, hts⟩ (x_X11_in_1 l D tc z0 _ κ g _  ) (va_cwS 3 hts gX11_volts_X11_in rfl rfl rfl (by decide +kernel) ⟨Nat.le_of_ble_eq_true rfl, Nat.le_of_ble_eq_true rfl⟩) (z_pre (Xc := ([] : va_W)) hK hE hI [] rfl rfl) rfl rfl hl.1 rfl (lv_room (Nat.le_of_ble_eq_true rfl)) dX11_volts_4 ⟨Nat.le_of_ble_eq_true rfl, Nat.le_of_ble_eq_true rfl⟩) (fun v1 u H locs hw hI => ?_)
  obtain ⟨rfl, rfl⟩ := hw
  have hI : zI D tc _ s.heap [(pm, .inr (13, [.ref lc, .ref lt, .ref pv, .ref pg, .int 0, .int 4000, .int 0, .int 200, .int 5000, .int 600, .int 0, .int 0, .int 0, .int 0, .int 0, .int 0, .int 0, .int 0, .int 0, .long 0, .long 0, .long 0, .long 0, .long 0, .long 0, .int 0, .int 45])), (pv, .inl (tc 0, 3, .inl (upd (upd (upd (fun _ => 0) (0 : Int32).toNatClampNeg 500) (1 : Int32).toNatClampNeg 500) (2 : Int32).toNatClampNeg 500)))] L κ g _ _ := hI
  refine lv_if_eq (tgt := 14) hx hb dX11_volts_7 (by decide) (fun h9 => by first | exact absurd h9 (by decide) | exact absurd (by decide) h9) (fun _ => ?_)
  refine lv_iconst (v := 0) hx hb dX11_volts_10 (by decide) ?_
  refine lv_goto (tgt := 15) hx hb dX11_volts_11 (by decide) ?_
  refine z_ciX (Xc := ([(pm, .inr (13, [.ref lc, .ref lt, .ref pv, .ref pg, .int 0, .int 4000, .int 0, .int 200, .int 5000, .int 600, .int 0, .int 0, .int 0, .int 0, .int 0, .int 0, .int 0, .int 0, .int 0, .long 0, .long 0, .long 0, .long 0, .long 0, .long 0, .int 0, .int 45]))] : va_W)) (wr := ([(pv, .inl (tc 0, 3, .inl (upd (upd (upd (fun _ => 0) (0 : Int32).toNatClampNeg 500) (1 : Int32).toNatClampNeg 500) (2 : Int32).toNatClampNeg 500)))] : va_W)) (rx := ([(pm, .inr (13, [.ref lc, .ref lt, .ref pv, .ref pg, .int 0, .int 4000, .int 0, .int 200, .int 5000, .int 600, .int 0, .int 0, .int 0, .int 0, .int 0, .int 0, .int 0, .int 0, .int 0, .long 0, .long 0, .long 0, .long 0, .long 0, .long 0, .int 0, .int 45]))] : va_W)) [0] [1] rfl rfl rfl rfl (by decide) hI (va_runV (As := [.int 0]) (rest := []) ⟨hx, hb, hml, hown, hts⟩ (x_X11_fails_0 l D tc z0 _ κ g _ pm lc lt pv pg ) (cwV 1 hts gX11_volts_X11_fails rfl rfl rfl (by decide +kernel) ⟨Nat.le_of_ble_eq_true rfl, Nat.le_of_ble_eq_true rfl⟩) (z_preV (Xc := ([(pm, .inr (13, [.ref lc, .ref lt, .ref pv, .ref pg, .int 0, .int 4000, .int 0, .int 200, .int 5000, .int 600, .int 0, .int 0, .int 0, .int 0, .int 0, .int 0, .int 0, .int 0, .int 0, .long 0, .long 0, .long 0, .long 0, .long 0, .long 0, .int 0, .int 45]))] : va_W)) hK hE hI [0] rfl rfl (z_recvX hK hI (i := 0) rfl rfl)) rfl rfl hl.1 rfl (lv_room (Nat.le_of_ble_eq_true rfl)) dX11_volts_15 ⟨Nat.le_of_ble_eq_true rfl, Nat.le_of_ble_eq_true rfl⟩) (fun v2 u H locs hw hI => ?_)
  obtain ⟨rfl, rfl⟩ := hw
  have hI : zI D tc _ s.heap [(pv, .inl (tc 0, 3, .inl (upd (upd (upd (fun _ => 0) (0 : Int32).toNatClampNeg 500) (1 : Int32).toNatClampNeg 500) (2 : Int32).toNatClampNeg 500))), (pm, .inr (13, [.ref lc, .ref lt, .ref pv, .ref pg, .int 0, .int 4000, .int 0, .int 200, .int 5000, .int 600, .int 0, .int 0, .int 0, .int 0, .int 0, .int 0, .int 0, .int 0, .int 0, .long 0, .long 0, .long 0, .long 0, .long 0, .long 0, .int 0, .int 45]))] L κ g _ _ := hI
  refine lv_if_eq (tgt := 25) hx hb dX11_volts_18 (by decide) (fun _ => ?_) (fun h9 => by first | exact absurd h9 (by decide) | exact absurd (by decide) h9)
  refine lv_aload_n hx hb dX11_volts_25 rfl (lv_at hl 0 rfl) ?_
  refine z_getX (i := 1) (j := 2) hM hI rfl hinX11 rfl (by decide) (by decide +kernel) (fun _ h9 => h9) rfl dX11_volts_26 ?_
  refine lv_iload_n hx hb dX11_volts_29 rfl (lv_at hl 1 rfl) ?_
  refine z_ialdE (i := 0) (v := 500) hM hI rfl (vp_in_c 1 3 (by decide)) (by first | rfl | decide +kernel) dX11_volts_30 ?_
  have hI := z_part (X' := ([(pm, .inr (13, [.ref lc, .ref lt, .ref pv, .ref pg, .int 0, .int 4000, .int 0, .int 200, .int 5000, .int 600, .int 0, .int 0, .int 0, .int 0, .int 0, .int 0, .int 0, .int 0, .int 0, .long 0, .long 0, .long 0, .long 0, .long 0, .long 0, .int 0, .int 45])), (pv, .inl (tc 0, 3, .inl (upd (upd (upd (fun _ => 0) (0 : Int32).toNatClampNeg 500) (1 : Int32).toNatClampNeg 500) (2 : Int32).toNatClampNeg 500)))] : va_W)) [1, 0] rfl rfl hI
  exact W.iret (v := 500) hx hb hr (fun t ht hW => ⟨⟨_, (L, κ, g), rfl, ⟨rfl, rfl⟩, z_end hK hI ht hW⟩, z_F hI ht⟩) (z_locs hI) dX11_volts_31

set_option maxHeartbeats 4000000 in
set_option maxRecDepth 100000 in
theorem x_X11_volts_2 (l : Launch) (D : va_G) (tc : Nat → ClassId) (z0 : Nat) (L : List Nat) (κ : Nat → Nat) (g : Nat → Nat → Value) (sz : Nat) (pm : Nat) (lc : Nat) (lt : Nat) (pv : Nat) (pg : Nat)  : Met l yX11_volts wsX11_volts ({ frames := 1, cells := 0, slots := 0, locals := 22 }) (zPc D tc z0 [.ref pm, .int 2] ([(pm, .inr (13, [.ref lc, .ref lt, .ref pv, .ref pg, .int 0, .int 4000, .int 0, .int 200, .int 5000, .int 600, .int 0, .int 0, .int 0, .int 0, .int 0, .int 0, .int 0, .int 0, .int 0, .long 0, .long 0, .long 0, .long 0, .long 0, .long 0, .int 0, .int 45])), (pv, .inl (tc 0, 3, .inl (upd (upd (upd (fun _ => 0) (0 : Int32).toNatClampNeg 500) (1 : Int32).toNatClampNeg 500) (2 : Int32).toNatClampNeg 500)))] : va_W) (L, κ, g) sz) (va_Qi (fun (r : Int32) (u : (zS)) => r = 500 ∧ u = (L, κ, g)) (fun (u : (zS)) (t : State) => zB D tc (zA ([(pm, .inr (13, [.ref lc, .ref lt, .ref pv, .ref pg, .int 0, .int 4000, .int 0, .int 200, .int 5000, .int 600, .int 0, .int 0, .int 0, .int 0, .int 0, .int 0, .int 0, .int 0, .int 0, .long 0, .long 0, .long 0, .long 0, .long 0, .long 0, .int 0, .int 45])), (pv, .inl (tc 0, 3, .inl (upd (upd (upd (fun _ => 0) (0 : Int32).toNatClampNeg 500) (1 : Int32).toNatClampNeg 500) (2 : Int32).toNatClampNeg 500)))] : va_W) L sz) ([(pm, .inr (13, [.ref lc, .ref lt, .ref pv, .ref pg, .int 0, .int 4000, .int 0, .int 200, .int 5000, .int 600, .int 0, .int 0, .int 0, .int 0, .int 0, .int 0, .int 0, .int 0, .int 0, .long 0, .long 0, .long 0, .long 0, .long 0, .long 0, .int 0, .int 45])), (pv, .inl (tc 0, 3, .inl (upd (upd (upd (fun _ => 0) (0 : Int32).toNatClampNeg 500) (1 : Int32).toNatClampNeg 500) (2 : Int32).toNatClampNeg 500)))] : va_W) u t) (zA ([(pm, .inr (13, [.ref lc, .ref lt, .ref pv, .ref pg, .int 0, .int 4000, .int 0, .int 200, .int 5000, .int 600, .int 0, .int 0, .int 0, .int 0, .int 0, .int 0, .int 0, .int 0, .int 0, .long 0, .long 0, .long 0, .long 0, .long 0, .long 0, .int 0, .int 45])), (pv, .inl (tc 0, 3, .inl (upd (upd (upd (fun _ => 0) (0 : Int32).toNatClampNeg 500) (1 : Int32).toNatClampNeg 500) (2 : Int32).toNatClampNeg 500)))] : va_W) L sz)) 0 0 (zA ([(pm, .inr (13, [.ref lc, .ref lt, .ref pv, .ref pg, .int 0, .int 4000, .int 0, .int 200, .int 5000, .int 600, .int 0, .int 0, .int 0, .int 0, .int 0, .int 0, .int 0, .int 0, .int 0, .long 0, .long 0, .long 0, .long 0, .long 0, .long 0, .int 0, .int 45])), (pv, .inl (tc 0, 3, .inl (upd (upd (upd (fun _ => 0) (0 : Int32).toNatClampNeg 500) (1 : Int32).toNatClampNeg 500) (2 : Int32).toNatClampNeg 500)))] : va_W) L sz) := by
  refine Met.ofW (cc := cX11_volts) (maxL := 2) (ret := (some .int)) (by decide) rfl ?_
  intro p e9 s m args below meth c s₁ B hml hv
  obtain ⟨rfl, rfl, hK, hE, hI⟩ := hv.opn
  have hx := B.exec
  have hb := B.bytes
  have hr := B.returns
  have hts := atoms_spec (ws := wsX11_volts) B.pre
  have hown : s.vm.findClass RX11 = some m.cls := findClass_of_methodNamed B.named
  have hlocks := B.notSynchronized
  have hM : zM p s m c cX11_volts _ wsX11_volts RX11 D tc := ⟨hx, hb, hts, hown, hK⟩
  have hinX11 : ∀ w ∈ wsX110, w ∈ wsX11_volts := by decide +kernel
  have hl := lv_entry ([.ref pm, .int 2]) (n := 2) (Nat.le_of_ble_eq_true rfl)
  rw [lg_entry_eq]
  generalize (lg_sl ([.ref pm, .int 2]) ++ List.replicate (2 - (lg_sl ([.ref pm, .int 2])).length) Slot.unset).toArray = ls at hl ⊢
  have hl : lv_has ls 2 [(0, .ref pm), (1, .int 2)] := hl
  refine lv_aload_n hx hb dX11_volts_0 rfl (lv_at hl 0 rfl) ?_
  refine lv_iload_n hx hb dX11_volts_1 rfl (lv_at hl 1 rfl) ?_
  refine lv_iconst (v := 0) hx hb dX11_volts_2 (by decide) ?_
  refine lv_iconst (v := 2) hx hb dX11_volts_3 (by decide) ?_
  refine z_ciX (Xc := ([] : va_W)) (wr := ([(pm, .inr (13, [.ref lc, .ref lt, .ref pv, .ref pg, .int 0, .int 4000, .int 0, .int 200, .int 5000, .int 600, .int 0, .int 0, .int 0, .int 0, .int 0, .int 0, .int 0, .int 0, .int 0, .long 0, .long 0, .long 0, .long 0, .long 0, .long 0, .int 0, .int 45])), (pv, .inl (tc 0, 3, .inl (upd (upd (upd (fun _ => 0) (0 : Int32).toNatClampNeg 500) (1 : Int32).toNatClampNeg 500) (2 : Int32).toNatClampNeg 500)))] : va_W)) (rx := ([] : va_W)) [] [0, 1] rfl rfl rfl rfl (by decide) hI (va_runS (As := [.int 2, .int 0, .int 2]) (rest := [.ref pm]) ⟨hx, hb, hml, hown, hts⟩ (x_X11_in_2 l D tc z0 _ κ g _  ) (va_cwS 3 hts gX11_volts_X11_in rfl rfl rfl (by decide +kernel) ⟨Nat.le_of_ble_eq_true rfl, Nat.le_of_ble_eq_true rfl⟩) (z_pre (Xc := ([] : va_W)) hK hE hI [] rfl rfl) rfl rfl hl.1 rfl (lv_room (Nat.le_of_ble_eq_true rfl)) dX11_volts_4 ⟨Nat.le_of_ble_eq_true rfl, Nat.le_of_ble_eq_true rfl⟩) (fun v1 u H locs hw hI => ?_)
  obtain ⟨rfl, rfl⟩ := hw
  have hI : zI D tc _ s.heap [(pm, .inr (13, [.ref lc, .ref lt, .ref pv, .ref pg, .int 0, .int 4000, .int 0, .int 200, .int 5000, .int 600, .int 0, .int 0, .int 0, .int 0, .int 0, .int 0, .int 0, .int 0, .int 0, .long 0, .long 0, .long 0, .long 0, .long 0, .long 0, .int 0, .int 45])), (pv, .inl (tc 0, 3, .inl (upd (upd (upd (fun _ => 0) (0 : Int32).toNatClampNeg 500) (1 : Int32).toNatClampNeg 500) (2 : Int32).toNatClampNeg 500)))] L κ g _ _ := hI
  refine lv_if_eq (tgt := 14) hx hb dX11_volts_7 (by decide) (fun h9 => by first | exact absurd h9 (by decide) | exact absurd (by decide) h9) (fun _ => ?_)
  refine lv_iconst (v := 0) hx hb dX11_volts_10 (by decide) ?_
  refine lv_goto (tgt := 15) hx hb dX11_volts_11 (by decide) ?_
  refine z_ciX (Xc := ([(pm, .inr (13, [.ref lc, .ref lt, .ref pv, .ref pg, .int 0, .int 4000, .int 0, .int 200, .int 5000, .int 600, .int 0, .int 0, .int 0, .int 0, .int 0, .int 0, .int 0, .int 0, .int 0, .long 0, .long 0, .long 0, .long 0, .long 0, .long 0, .int 0, .int 45]))] : va_W)) (wr := ([(pv, .inl (tc 0, 3, .inl (upd (upd (upd (fun _ => 0) (0 : Int32).toNatClampNeg 500) (1 : Int32).toNatClampNeg 500) (2 : Int32).toNatClampNeg 500)))] : va_W)) (rx := ([(pm, .inr (13, [.ref lc, .ref lt, .ref pv, .ref pg, .int 0, .int 4000, .int 0, .int 200, .int 5000, .int 600, .int 0, .int 0, .int 0, .int 0, .int 0, .int 0, .int 0, .int 0, .int 0, .long 0, .long 0, .long 0, .long 0, .long 0, .long 0, .int 0, .int 45]))] : va_W)) [0] [1] rfl rfl rfl rfl (by decide) hI (va_runV (As := [.int 0]) (rest := []) ⟨hx, hb, hml, hown, hts⟩ (x_X11_fails_0 l D tc z0 _ κ g _ pm lc lt pv pg ) (cwV 1 hts gX11_volts_X11_fails rfl rfl rfl (by decide +kernel) ⟨Nat.le_of_ble_eq_true rfl, Nat.le_of_ble_eq_true rfl⟩) (z_preV (Xc := ([(pm, .inr (13, [.ref lc, .ref lt, .ref pv, .ref pg, .int 0, .int 4000, .int 0, .int 200, .int 5000, .int 600, .int 0, .int 0, .int 0, .int 0, .int 0, .int 0, .int 0, .int 0, .int 0, .long 0, .long 0, .long 0, .long 0, .long 0, .long 0, .int 0, .int 45]))] : va_W)) hK hE hI [0] rfl rfl (z_recvX hK hI (i := 0) rfl rfl)) rfl rfl hl.1 rfl (lv_room (Nat.le_of_ble_eq_true rfl)) dX11_volts_15 ⟨Nat.le_of_ble_eq_true rfl, Nat.le_of_ble_eq_true rfl⟩) (fun v2 u H locs hw hI => ?_)
  obtain ⟨rfl, rfl⟩ := hw
  have hI : zI D tc _ s.heap [(pv, .inl (tc 0, 3, .inl (upd (upd (upd (fun _ => 0) (0 : Int32).toNatClampNeg 500) (1 : Int32).toNatClampNeg 500) (2 : Int32).toNatClampNeg 500))), (pm, .inr (13, [.ref lc, .ref lt, .ref pv, .ref pg, .int 0, .int 4000, .int 0, .int 200, .int 5000, .int 600, .int 0, .int 0, .int 0, .int 0, .int 0, .int 0, .int 0, .int 0, .int 0, .long 0, .long 0, .long 0, .long 0, .long 0, .long 0, .int 0, .int 45]))] L κ g _ _ := hI
  refine lv_if_eq (tgt := 25) hx hb dX11_volts_18 (by decide) (fun _ => ?_) (fun h9 => by first | exact absurd h9 (by decide) | exact absurd (by decide) h9)
  refine lv_aload_n hx hb dX11_volts_25 rfl (lv_at hl 0 rfl) ?_
  refine z_getX (i := 1) (j := 2) hM hI rfl hinX11 rfl (by decide) (by decide +kernel) (fun _ h9 => h9) rfl dX11_volts_26 ?_
  refine lv_iload_n hx hb dX11_volts_29 rfl (lv_at hl 1 rfl) ?_
  refine z_ialdE (i := 0) (v := 500) hM hI rfl (vp_in_c 2 3 (by decide)) (by first | rfl | decide +kernel) dX11_volts_30 ?_
  have hI := z_part (X' := ([(pm, .inr (13, [.ref lc, .ref lt, .ref pv, .ref pg, .int 0, .int 4000, .int 0, .int 200, .int 5000, .int 600, .int 0, .int 0, .int 0, .int 0, .int 0, .int 0, .int 0, .int 0, .int 0, .long 0, .long 0, .long 0, .long 0, .long 0, .long 0, .int 0, .int 45])), (pv, .inl (tc 0, 3, .inl (upd (upd (upd (fun _ => 0) (0 : Int32).toNatClampNeg 500) (1 : Int32).toNatClampNeg 500) (2 : Int32).toNatClampNeg 500)))] : va_W)) [1, 0] rfl rfl hI
  exact W.iret (v := 500) hx hb hr (fun t ht hW => ⟨⟨_, (L, κ, g), rfl, ⟨rfl, rfl⟩, z_end hK hI ht hW⟩, z_F hI ht⟩) (z_locs hI) dX11_volts_31

set_option maxHeartbeats 4000000 in
set_option maxRecDepth 100000 in
theorem x_X11_account_119 (l : Launch) (D : va_G) (tc : Nat → ClassId) (z0 : Nat) (L : List Nat) (κ : Nat → Nat) (g : Nat → Nat → Value) (sz : Nat) (pm : Nat) (lc : Nat) (lt : Nat) (pv : Nat) (pg : Nat)  : Met l yX11_account wsX11_account ({ frames := 4, cells := 1, slots := 6, locals := 91 }) (zPc D tc z0 [.ref pm, .int 119] ([(pm, .inr (13, [.ref lc, .ref lt, .ref pv, .ref pg, .int 0, .int 4000, .int 0, .int 200, .int 5000, .int 600, .int 0, .int 0, .int 0, .int 0, .int 0, .int 0, .int 0, .int 0, .int 0, .long 0, .long 0, .long 0, .long 0, .long 0, .long 0, .int 0, .int 45]))] : va_W) (L, κ, g) sz) (va_Ql (fun (r : Int64) (u : (zS)) => r = 0 ∧ u = (L, κ, g)) (fun (u : (zS)) (t : State) => zB D tc (zA ([(pm, .inr (13, [.ref lc, .ref lt, .ref pv, .ref pg, .int 0, .int 4000, .int 0, .int 200, .int 5000, .int 600, .int 0, .int 0, .int 0, .int 0, .int 0, .int 0, .int 0, .int 0, .int 0, .long 0, .long 0, .long 0, .long 0, .long 0, .long 0, .int 0, .int 45]))] : va_W) L sz) ([(pm, .inr (13, [.ref lc, .ref lt, .ref pv, .ref pg, .int 0, .int 4000, .int 0, .int 200, .int 5000, .int 600, .int 0, .int 0, .int 0, .int 0, .int 0, .int 0, .int 0, .int 0, .int 0, .long 0, .long 0, .long 0, .long 0, .long 0, .long 0, .int 0, .int 45]))] : va_W) u t) (zA ([(pm, .inr (13, [.ref lc, .ref lt, .ref pv, .ref pg, .int 0, .int 4000, .int 0, .int 200, .int 5000, .int 600, .int 0, .int 0, .int 0, .int 0, .int 0, .int 0, .int 0, .int 0, .int 0, .long 0, .long 0, .long 0, .long 0, .long 0, .long 0, .int 0, .int 45]))] : va_W) L sz)) 1 6 (zA ([(pm, .inr (13, [.ref lc, .ref lt, .ref pv, .ref pg, .int 0, .int 4000, .int 0, .int 200, .int 5000, .int 600, .int 0, .int 0, .int 0, .int 0, .int 0, .int 0, .int 0, .int 0, .int 0, .long 0, .long 0, .long 0, .long 0, .long 0, .long 0, .int 0, .int 45]))] : va_W) L sz) := by
  refine Met.ofW (cc := cX11_account) (maxL := 4) (ret := (some .long)) (by decide) rfl ?_
  intro p e9 s m args below meth c s₁ B hml hv
  obtain ⟨rfl, rfl, hK, hE, hI⟩ := hv.opn
  have hx := B.exec
  have hb := B.bytes
  have hr := B.returns
  have hts := atoms_spec (ws := wsX11_account) B.pre
  have hown : s.vm.findClass RX11 = some m.cls := findClass_of_methodNamed B.named
  have hlocks := B.notSynchronized
  have hM : zM p s m c cX11_account _ wsX11_account RX11 D tc := ⟨hx, hb, hts, hown, hK⟩
  have hinX11 : ∀ w ∈ wsX110, w ∈ wsX11_account := by decide +kernel
  have hl := lv_entry ([.ref pm, .int 119]) (n := 4) (Nat.le_of_ble_eq_true rfl)
  rw [lg_entry_eq]
  generalize (lg_sl ([.ref pm, .int 119]) ++ List.replicate (4 - (lg_sl ([.ref pm, .int 119])).length) Slot.unset).toArray = ls at hl ⊢
  have hl : lv_has ls 4 [(0, .ref pm), (1, .int 119)] := hl
  obtain ⟨adK, adV, hst9, hR0, hR1⟩ := hE.st
  refine z_ldcwS hx hb hown hR1 dX11_account_0 ?_
  refine lv_iload_n hx hb dX11_account_3 rfl (lv_at hl 1 rfl) ?_
  refine vp_callSi (W.runV (As := [.int 119]) (rest := []) ⟨hx, hb, hml, hown, hts⟩ (c_J0_indexOf_0f7a4 l adK adV _ 1 (by decide) 119) (cwV 1 hts gX11_account_J0_indexOf_0f7a4 rfl rfl rfl (by decide +kernel) ⟨Nat.le_of_ble_eq_true rfl, Nat.le_of_ble_eq_true rfl⟩) (z_preVS hst9 hI.2.1 (vk_recv hst9.1 (by decide) hI.2.1)) rfl rfl hl.1 rfl (lv_room (Nat.le_of_ble_eq_true rfl)) dX11_account_4 ⟨Nat.le_of_ble_eq_true rfl, Nat.le_of_ble_eq_true rfl⟩) (fun v9 hw9 => ?_)
  obtain rfl : v9 = 0 := (z_ix9 (k := 0) hw9 (by decide) (by decide) (by decide)).trans (by decide)
  refine lv_istore_n (lv' := [(2, .int 0), (0, .ref pm), (1, .int 119)]) hx hb dX11_account_7 rfl hl (by decide) rfl (fun ls hl => ?_)
  refine lv_bipush (v := 6) hx hb dX11_account_8 (by decide) ?_
  refine z_newa (ty := .long) (ti := 1) (n := 6) hM hI (by decide +kernel) rfl rfl (by intro C h; cases h) (6, .inr (.inl (fun _ => 0))) (fun cA => rfl) (by decide) (by decide) (by decide) (Nat.le_of_ble_eq_true rfl) (Nat.le_of_ble_eq_true rfl) dX11_account_10 (fun q1 H hI => ?_)
  have hI : zI D tc _ s.heap [(pm, .inr (13, [.ref lc, .ref lt, .ref pv, .ref pg, .int 0, .int 4000, .int 0, .int 200, .int 5000, .int 600, .int 0, .int 0, .int 0, .int 0, .int 0, .int 0, .int 0, .int 0, .int 0, .long 0, .long 0, .long 0, .long 0, .long 0, .long 0, .int 0, .int 45])), (q1, .inl (tc 1, 6, .inr (.inl (fun _ => 0))))] L κ g _ _ := hI
  refine lv_dup hx hb dX11_account_12 rfl ?_
  refine lv_iconst (v := 0) hx hb dX11_account_13 (by decide) ?_
  refine lv_aload_n hx hb dX11_account_14 rfl (lv_at hl 1 rfl) ?_
  refine z_getX (i := 0) (j := 19) hM hI rfl hinX11 rfl (by decide) (by decide +kernel) (fun _ h9 => h9) rfl dX11_account_15 ?_
  refine z_lastE (i := 1) hM hI rfl (vp_in_c 0 6 (by decide)) dX11_account_18 (fun H locs hI => ?_)
  have hI : zI D tc _ s.heap [(pm, .inr (13, [.ref lc, .ref lt, .ref pv, .ref pg, .int 0, .int 4000, .int 0, .int 200, .int 5000, .int 600, .int 0, .int 0, .int 0, .int 0, .int 0, .int 0, .int 0, .int 0, .int 0, .long 0, .long 0, .long 0, .long 0, .long 0, .long 0, .int 0, .int 45])), (q1, .inl (tc 1, 6, .inr (.inl (vp_updL (fun _ => 0) (0 : Int32).toNatClampNeg 0))))] L κ g _ _ := hI
  refine lv_dup hx hb dX11_account_19 rfl ?_
  refine lv_iconst (v := 1) hx hb dX11_account_20 (by decide) ?_
  refine lv_aload_n hx hb dX11_account_21 rfl (lv_at hl 1 rfl) ?_
  refine z_getX (i := 0) (j := 20) hM hI rfl hinX11 rfl (by decide) (by decide +kernel) (fun _ h9 => h9) rfl dX11_account_22 ?_
  refine z_lastE (i := 1) hM hI rfl (vp_in_c 1 6 (by decide)) dX11_account_25 (fun H locs hI => ?_)
  have hI : zI D tc _ s.heap [(pm, .inr (13, [.ref lc, .ref lt, .ref pv, .ref pg, .int 0, .int 4000, .int 0, .int 200, .int 5000, .int 600, .int 0, .int 0, .int 0, .int 0, .int 0, .int 0, .int 0, .int 0, .int 0, .long 0, .long 0, .long 0, .long 0, .long 0, .long 0, .int 0, .int 45])), (q1, .inl (tc 1, 6, .inr (.inl (vp_updL (vp_updL (fun _ => 0) (0 : Int32).toNatClampNeg 0) (1 : Int32).toNatClampNeg 0))))] L κ g _ _ := hI
  refine lv_dup hx hb dX11_account_26 rfl ?_
  refine lv_iconst (v := 2) hx hb dX11_account_27 (by decide) ?_
  refine lv_aload_n hx hb dX11_account_28 rfl (lv_at hl 1 rfl) ?_
  refine z_getX (i := 0) (j := 21) hM hI rfl hinX11 rfl (by decide) (by decide +kernel) (fun _ h9 => h9) rfl dX11_account_29 ?_
  refine z_lastE (i := 1) hM hI rfl (vp_in_c 2 6 (by decide)) dX11_account_32 (fun H locs hI => ?_)
  have hI : zI D tc _ s.heap [(pm, .inr (13, [.ref lc, .ref lt, .ref pv, .ref pg, .int 0, .int 4000, .int 0, .int 200, .int 5000, .int 600, .int 0, .int 0, .int 0, .int 0, .int 0, .int 0, .int 0, .int 0, .int 0, .long 0, .long 0, .long 0, .long 0, .long 0, .long 0, .int 0, .int 45])), (q1, .inl (tc 1, 6, .inr (.inl (vp_updL (vp_updL (vp_updL (fun _ => 0) (0 : Int32).toNatClampNeg 0) (1 : Int32).toNatClampNeg 0) (2 : Int32).toNatClampNeg 0))))] L κ g _ _ := hI
  refine lv_dup hx hb dX11_account_33 rfl ?_
  refine lv_iconst (v := 3) hx hb dX11_account_34 (by decide) ?_
  refine lv_aload_n hx hb dX11_account_35 rfl (lv_at hl 1 rfl) ?_
  refine z_getX (i := 0) (j := 22) hM hI rfl hinX11 rfl (by decide) (by decide +kernel) (fun _ h9 => h9) rfl dX11_account_36 ?_
  refine z_lastE (i := 1) hM hI rfl (vp_in_c 3 6 (by decide)) dX11_account_39 (fun H locs hI => ?_)
  have hI : zI D tc _ s.heap [(pm, .inr (13, [.ref lc, .ref lt, .ref pv, .ref pg, .int 0, .int 4000, .int 0, .int 200, .int 5000, .int 600, .int 0, .int 0, .int 0, .int 0, .int 0, .int 0, .int 0, .int 0, .int 0, .long 0, .long 0, .long 0, .long 0, .long 0, .long 0, .int 0, .int 45])), (q1, .inl (tc 1, 6, .inr (.inl (vp_updL (vp_updL (vp_updL (vp_updL (fun _ => 0) (0 : Int32).toNatClampNeg 0) (1 : Int32).toNatClampNeg 0) (2 : Int32).toNatClampNeg 0) (3 : Int32).toNatClampNeg 0))))] L κ g _ _ := hI
  refine lv_dup hx hb dX11_account_40 rfl ?_
  refine lv_iconst (v := 4) hx hb dX11_account_41 (by decide) ?_
  refine lv_aload_n hx hb dX11_account_42 rfl (lv_at hl 1 rfl) ?_
  refine z_getX (i := 0) (j := 23) hM hI rfl hinX11 rfl (by decide) (by decide +kernel) (fun _ h9 => h9) rfl dX11_account_43 ?_
  refine z_lastE (i := 1) hM hI rfl (vp_in_c 4 6 (by decide)) dX11_account_46 (fun H locs hI => ?_)
  have hI : zI D tc _ s.heap [(pm, .inr (13, [.ref lc, .ref lt, .ref pv, .ref pg, .int 0, .int 4000, .int 0, .int 200, .int 5000, .int 600, .int 0, .int 0, .int 0, .int 0, .int 0, .int 0, .int 0, .int 0, .int 0, .long 0, .long 0, .long 0, .long 0, .long 0, .long 0, .int 0, .int 45])), (q1, .inl (tc 1, 6, .inr (.inl (vp_updL (vp_updL (vp_updL (vp_updL (vp_updL (fun _ => 0) (0 : Int32).toNatClampNeg 0) (1 : Int32).toNatClampNeg 0) (2 : Int32).toNatClampNeg 0) (3 : Int32).toNatClampNeg 0) (4 : Int32).toNatClampNeg 0))))] L κ g _ _ := hI
  refine lv_dup hx hb dX11_account_47 rfl ?_
  refine lv_iconst (v := 5) hx hb dX11_account_48 (by decide) ?_
  refine lv_aload_n hx hb dX11_account_49 rfl (lv_at hl 1 rfl) ?_
  refine z_getX (i := 0) (j := 24) hM hI rfl hinX11 rfl (by decide) (by decide +kernel) (fun _ h9 => h9) rfl dX11_account_50 ?_
  refine z_lastE (i := 1) hM hI rfl (vp_in_c 5 6 (by decide)) dX11_account_53 (fun H locs hI => ?_)
  have hI : zI D tc _ s.heap [(pm, .inr (13, [.ref lc, .ref lt, .ref pv, .ref pg, .int 0, .int 4000, .int 0, .int 200, .int 5000, .int 600, .int 0, .int 0, .int 0, .int 0, .int 0, .int 0, .int 0, .int 0, .int 0, .long 0, .long 0, .long 0, .long 0, .long 0, .long 0, .int 0, .int 45])), (q1, .inl (tc 1, 6, .inr (.inl (vp_updL (vp_updL (vp_updL (vp_updL (vp_updL (vp_updL (fun _ => 0) (0 : Int32).toNatClampNeg 0) (1 : Int32).toNatClampNeg 0) (2 : Int32).toNatClampNeg 0) (3 : Int32).toNatClampNeg 0) (4 : Int32).toNatClampNeg 0) (5 : Int32).toNatClampNeg 0))))] L κ g _ _ := hI
  refine lv_astore_n (lv' := [(3, .ref q1), (2, .int 0), (0, .ref pm), (1, .int 119)]) hx hb dX11_account_54 rfl hl (by decide) rfl (fun ls hl => ?_)
  refine lv_aload_n hx hb dX11_account_55 rfl (lv_at hl 2 rfl) ?_
  refine lv_iload_n hx hb dX11_account_56 rfl (lv_at hl 1 rfl) ?_
  refine lv_if_ge (tgt := 64) hx hb dX11_account_57 (by decide) (fun _ => ?_) (fun h9 => by first | exact absurd h9 (by decide) | exact absurd (by decide) h9)
  refine lv_iconst (v := 0) hx hb dX11_account_64 (by decide) ?_
  refine z_ciX (Xc := ([(pm, .inr (13, [.ref lc, .ref lt, .ref pv, .ref pg, .int 0, .int 4000, .int 0, .int 200, .int 5000, .int 600, .int 0, .int 0, .int 0, .int 0, .int 0, .int 0, .int 0, .int 0, .int 0, .long 0, .long 0, .long 0, .long 0, .long 0, .long 0, .int 0, .int 45]))] : va_W)) (wr := ([(q1, .inl (tc 1, 6, .inr (.inl (vp_updL (vp_updL (vp_updL (vp_updL (vp_updL (vp_updL (fun _ => 0) (0 : Int32).toNatClampNeg 0) (1 : Int32).toNatClampNeg 0) (2 : Int32).toNatClampNeg 0) (3 : Int32).toNatClampNeg 0) (4 : Int32).toNatClampNeg 0) (5 : Int32).toNatClampNeg 0))))] : va_W)) (rx := ([(pm, .inr (13, [.ref lc, .ref lt, .ref pv, .ref pg, .int 0, .int 4000, .int 0, .int 200, .int 5000, .int 600, .int 0, .int 0, .int 0, .int 0, .int 0, .int 0, .int 0, .int 0, .int 0, .long 0, .long 0, .long 0, .long 0, .long 0, .long 0, .int 0, .int 45]))] : va_W)) [0] [1] rfl rfl rfl rfl (by decide) hI (va_runV (As := [.int 0]) (rest := []) ⟨hx, hb, hml, hown, hts⟩ (x_X11_fails_0 l D tc z0 _ κ g _ pm lc lt pv pg ) (cwV 1 hts gX11_account_X11_fails rfl rfl rfl (by decide +kernel) ⟨Nat.le_of_ble_eq_true rfl, Nat.le_of_ble_eq_true rfl⟩) (z_preV (Xc := ([(pm, .inr (13, [.ref lc, .ref lt, .ref pv, .ref pg, .int 0, .int 4000, .int 0, .int 200, .int 5000, .int 600, .int 0, .int 0, .int 0, .int 0, .int 0, .int 0, .int 0, .int 0, .int 0, .long 0, .long 0, .long 0, .long 0, .long 0, .long 0, .int 0, .int 45]))] : va_W)) hK hE hI [0] rfl rfl (z_recvX hK hI (i := 0) rfl rfl)) rfl rfl hl.1 rfl (lv_room (Nat.le_of_ble_eq_true rfl)) dX11_account_65 ⟨Nat.le_of_ble_eq_true rfl, Nat.le_of_ble_eq_true rfl⟩) (fun v2 u H locs hw hI => ?_)
  obtain ⟨rfl, rfl⟩ := hw
  have hI : zI D tc _ s.heap [(q1, .inl (tc 1, 6, .inr (.inl (vp_updL (vp_updL (vp_updL (vp_updL (vp_updL (vp_updL (fun _ => 0) (0 : Int32).toNatClampNeg 0) (1 : Int32).toNatClampNeg 0) (2 : Int32).toNatClampNeg 0) (3 : Int32).toNatClampNeg 0) (4 : Int32).toNatClampNeg 0) (5 : Int32).toNatClampNeg 0)))), (pm, .inr (13, [.ref lc, .ref lt, .ref pv, .ref pg, .int 0, .int 4000, .int 0, .int 200, .int 5000, .int 600, .int 0, .int 0, .int 0, .int 0, .int 0, .int 0, .int 0, .int 0, .int 0, .long 0, .long 0, .long 0, .long 0, .long 0, .long 0, .int 0, .int 45]))] L κ g _ _ := hI
  refine lv_if_eq (tgt := 75) hx hb dX11_account_68 (by decide) (fun _ => ?_) (fun h9 => by first | exact absurd h9 (by decide) | exact absurd (by decide) h9)
  refine lv_aload_n hx hb dX11_account_75 rfl (lv_at hl 0 rfl) ?_
  refine lv_iload_n hx hb dX11_account_76 rfl (lv_at hl 1 rfl) ?_
  refine z_laldE (i := 0) (v := 0) hM hI rfl (vp_in_c 0 6 (by decide)) (by first | rfl | decide +kernel) dX11_account_77 ?_
  have hI := z_part (X' := ([(pm, .inr (13, [.ref lc, .ref lt, .ref pv, .ref pg, .int 0, .int 4000, .int 0, .int 200, .int 5000, .int 600, .int 0, .int 0, .int 0, .int 0, .int 0, .int 0, .int 0, .int 0, .int 0, .long 0, .long 0, .long 0, .long 0, .long 0, .long 0, .int 0, .int 45]))] : va_W)) [1] rfl rfl hI
  exact W.lret (v := 0) hx hb hr (fun t ht hW => ⟨⟨_, (L, κ, g), rfl, ⟨rfl, rfl⟩, z_end hK hI ht hW⟩, z_F hI ht⟩) (z_locs hI) dX11_account_78

set_option maxHeartbeats 4000000 in
set_option maxRecDepth 100000 in
theorem x_X11_account_98 (l : Launch) (D : va_G) (tc : Nat → ClassId) (z0 : Nat) (L : List Nat) (κ : Nat → Nat) (g : Nat → Nat → Value) (sz : Nat) (pm : Nat) (lc : Nat) (lt : Nat) (pv : Nat) (pg : Nat)  : Met l yX11_account wsX11_account ({ frames := 4, cells := 1, slots := 6, locals := 91 }) (zPc D tc z0 [.ref pm, .int 98] ([(pm, .inr (13, [.ref lc, .ref lt, .ref pv, .ref pg, .int 0, .int 4000, .int 0, .int 200, .int 5000, .int 600, .int 0, .int 0, .int 0, .int 0, .int 0, .int 0, .int 0, .int 0, .int 0, .long 0, .long 0, .long 0, .long 0, .long 0, .long 0, .int 0, .int 45]))] : va_W) (L, κ, g) sz) (va_Ql (fun (r : Int64) (u : (zS)) => r = 0 ∧ u = (L, κ, g)) (fun (u : (zS)) (t : State) => zB D tc (zA ([(pm, .inr (13, [.ref lc, .ref lt, .ref pv, .ref pg, .int 0, .int 4000, .int 0, .int 200, .int 5000, .int 600, .int 0, .int 0, .int 0, .int 0, .int 0, .int 0, .int 0, .int 0, .int 0, .long 0, .long 0, .long 0, .long 0, .long 0, .long 0, .int 0, .int 45]))] : va_W) L sz) ([(pm, .inr (13, [.ref lc, .ref lt, .ref pv, .ref pg, .int 0, .int 4000, .int 0, .int 200, .int 5000, .int 600, .int 0, .int 0, .int 0, .int 0, .int 0, .int 0, .int 0, .int 0, .int 0, .long 0, .long 0, .long 0, .long 0, .long 0, .long 0, .int 0, .int 45]))] : va_W) u t) (zA ([(pm, .inr (13, [.ref lc, .ref lt, .ref pv, .ref pg, .int 0, .int 4000, .int 0, .int 200, .int 5000, .int 600, .int 0, .int 0, .int 0, .int 0, .int 0, .int 0, .int 0, .int 0, .int 0, .long 0, .long 0, .long 0, .long 0, .long 0, .long 0, .int 0, .int 45]))] : va_W) L sz)) 1 6 (zA ([(pm, .inr (13, [.ref lc, .ref lt, .ref pv, .ref pg, .int 0, .int 4000, .int 0, .int 200, .int 5000, .int 600, .int 0, .int 0, .int 0, .int 0, .int 0, .int 0, .int 0, .int 0, .int 0, .long 0, .long 0, .long 0, .long 0, .long 0, .long 0, .int 0, .int 45]))] : va_W) L sz) := by
  refine Met.ofW (cc := cX11_account) (maxL := 4) (ret := (some .long)) (by decide) rfl ?_
  intro p e9 s m args below meth c s₁ B hml hv
  obtain ⟨rfl, rfl, hK, hE, hI⟩ := hv.opn
  have hx := B.exec
  have hb := B.bytes
  have hr := B.returns
  have hts := atoms_spec (ws := wsX11_account) B.pre
  have hown : s.vm.findClass RX11 = some m.cls := findClass_of_methodNamed B.named
  have hlocks := B.notSynchronized
  have hM : zM p s m c cX11_account _ wsX11_account RX11 D tc := ⟨hx, hb, hts, hown, hK⟩
  have hinX11 : ∀ w ∈ wsX110, w ∈ wsX11_account := by decide +kernel
  have hl := lv_entry ([.ref pm, .int 98]) (n := 4) (Nat.le_of_ble_eq_true rfl)
  rw [lg_entry_eq]
  generalize (lg_sl ([.ref pm, .int 98]) ++ List.replicate (4 - (lg_sl ([.ref pm, .int 98])).length) Slot.unset).toArray = ls at hl ⊢
  have hl : lv_has ls 4 [(0, .ref pm), (1, .int 98)] := hl
  obtain ⟨adK, adV, hst9, hR0, hR1⟩ := hE.st
  refine z_ldcwS hx hb hown hR1 dX11_account_0 ?_
  refine lv_iload_n hx hb dX11_account_3 rfl (lv_at hl 1 rfl) ?_
  refine vp_callSi (W.runV (As := [.int 98]) (rest := []) ⟨hx, hb, hml, hown, hts⟩ (c_J0_indexOf_0f7a4 l adK adV _ 1 (by decide) 98) (cwV 1 hts gX11_account_J0_indexOf_0f7a4 rfl rfl rfl (by decide +kernel) ⟨Nat.le_of_ble_eq_true rfl, Nat.le_of_ble_eq_true rfl⟩) (z_preVS hst9 hI.2.1 (vk_recv hst9.1 (by decide) hI.2.1)) rfl rfl hl.1 rfl (lv_room (Nat.le_of_ble_eq_true rfl)) dX11_account_4 ⟨Nat.le_of_ble_eq_true rfl, Nat.le_of_ble_eq_true rfl⟩) (fun v9 hw9 => ?_)
  obtain rfl : v9 = 1 := (z_ix9 (k := 1) hw9 (by decide) (by decide) (by decide)).trans (by decide)
  refine lv_istore_n (lv' := [(2, .int 1), (0, .ref pm), (1, .int 98)]) hx hb dX11_account_7 rfl hl (by decide) rfl (fun ls hl => ?_)
  refine lv_bipush (v := 6) hx hb dX11_account_8 (by decide) ?_
  refine z_newa (ty := .long) (ti := 1) (n := 6) hM hI (by decide +kernel) rfl rfl (by intro C h; cases h) (6, .inr (.inl (fun _ => 0))) (fun cA => rfl) (by decide) (by decide) (by decide) (Nat.le_of_ble_eq_true rfl) (Nat.le_of_ble_eq_true rfl) dX11_account_10 (fun q1 H hI => ?_)
  have hI : zI D tc _ s.heap [(pm, .inr (13, [.ref lc, .ref lt, .ref pv, .ref pg, .int 0, .int 4000, .int 0, .int 200, .int 5000, .int 600, .int 0, .int 0, .int 0, .int 0, .int 0, .int 0, .int 0, .int 0, .int 0, .long 0, .long 0, .long 0, .long 0, .long 0, .long 0, .int 0, .int 45])), (q1, .inl (tc 1, 6, .inr (.inl (fun _ => 0))))] L κ g _ _ := hI
  refine lv_dup hx hb dX11_account_12 rfl ?_
  refine lv_iconst (v := 0) hx hb dX11_account_13 (by decide) ?_
  refine lv_aload_n hx hb dX11_account_14 rfl (lv_at hl 1 rfl) ?_
  refine z_getX (i := 0) (j := 19) hM hI rfl hinX11 rfl (by decide) (by decide +kernel) (fun _ h9 => h9) rfl dX11_account_15 ?_
  refine z_lastE (i := 1) hM hI rfl (vp_in_c 0 6 (by decide)) dX11_account_18 (fun H locs hI => ?_)
  have hI : zI D tc _ s.heap [(pm, .inr (13, [.ref lc, .ref lt, .ref pv, .ref pg, .int 0, .int 4000, .int 0, .int 200, .int 5000, .int 600, .int 0, .int 0, .int 0, .int 0, .int 0, .int 0, .int 0, .int 0, .int 0, .long 0, .long 0, .long 0, .long 0, .long 0, .long 0, .int 0, .int 45])), (q1, .inl (tc 1, 6, .inr (.inl (vp_updL (fun _ => 0) (0 : Int32).toNatClampNeg 0))))] L κ g _ _ := hI
  refine lv_dup hx hb dX11_account_19 rfl ?_
  refine lv_iconst (v := 1) hx hb dX11_account_20 (by decide) ?_
  refine lv_aload_n hx hb dX11_account_21 rfl (lv_at hl 1 rfl) ?_
  refine z_getX (i := 0) (j := 20) hM hI rfl hinX11 rfl (by decide) (by decide +kernel) (fun _ h9 => h9) rfl dX11_account_22 ?_
  refine z_lastE (i := 1) hM hI rfl (vp_in_c 1 6 (by decide)) dX11_account_25 (fun H locs hI => ?_)
  have hI : zI D tc _ s.heap [(pm, .inr (13, [.ref lc, .ref lt, .ref pv, .ref pg, .int 0, .int 4000, .int 0, .int 200, .int 5000, .int 600, .int 0, .int 0, .int 0, .int 0, .int 0, .int 0, .int 0, .int 0, .int 0, .long 0, .long 0, .long 0, .long 0, .long 0, .long 0, .int 0, .int 45])), (q1, .inl (tc 1, 6, .inr (.inl (vp_updL (vp_updL (fun _ => 0) (0 : Int32).toNatClampNeg 0) (1 : Int32).toNatClampNeg 0))))] L κ g _ _ := hI
  refine lv_dup hx hb dX11_account_26 rfl ?_
  refine lv_iconst (v := 2) hx hb dX11_account_27 (by decide) ?_
  refine lv_aload_n hx hb dX11_account_28 rfl (lv_at hl 1 rfl) ?_
  refine z_getX (i := 0) (j := 21) hM hI rfl hinX11 rfl (by decide) (by decide +kernel) (fun _ h9 => h9) rfl dX11_account_29 ?_
  refine z_lastE (i := 1) hM hI rfl (vp_in_c 2 6 (by decide)) dX11_account_32 (fun H locs hI => ?_)
  have hI : zI D tc _ s.heap [(pm, .inr (13, [.ref lc, .ref lt, .ref pv, .ref pg, .int 0, .int 4000, .int 0, .int 200, .int 5000, .int 600, .int 0, .int 0, .int 0, .int 0, .int 0, .int 0, .int 0, .int 0, .int 0, .long 0, .long 0, .long 0, .long 0, .long 0, .long 0, .int 0, .int 45])), (q1, .inl (tc 1, 6, .inr (.inl (vp_updL (vp_updL (vp_updL (fun _ => 0) (0 : Int32).toNatClampNeg 0) (1 : Int32).toNatClampNeg 0) (2 : Int32).toNatClampNeg 0))))] L κ g _ _ := hI
  refine lv_dup hx hb dX11_account_33 rfl ?_
  refine lv_iconst (v := 3) hx hb dX11_account_34 (by decide) ?_
  refine lv_aload_n hx hb dX11_account_35 rfl (lv_at hl 1 rfl) ?_
  refine z_getX (i := 0) (j := 22) hM hI rfl hinX11 rfl (by decide) (by decide +kernel) (fun _ h9 => h9) rfl dX11_account_36 ?_
  refine z_lastE (i := 1) hM hI rfl (vp_in_c 3 6 (by decide)) dX11_account_39 (fun H locs hI => ?_)
  have hI : zI D tc _ s.heap [(pm, .inr (13, [.ref lc, .ref lt, .ref pv, .ref pg, .int 0, .int 4000, .int 0, .int 200, .int 5000, .int 600, .int 0, .int 0, .int 0, .int 0, .int 0, .int 0, .int 0, .int 0, .int 0, .long 0, .long 0, .long 0, .long 0, .long 0, .long 0, .int 0, .int 45])), (q1, .inl (tc 1, 6, .inr (.inl (vp_updL (vp_updL (vp_updL (vp_updL (fun _ => 0) (0 : Int32).toNatClampNeg 0) (1 : Int32).toNatClampNeg 0) (2 : Int32).toNatClampNeg 0) (3 : Int32).toNatClampNeg 0))))] L κ g _ _ := hI
  refine lv_dup hx hb dX11_account_40 rfl ?_
  refine lv_iconst (v := 4) hx hb dX11_account_41 (by decide) ?_
  refine lv_aload_n hx hb dX11_account_42 rfl (lv_at hl 1 rfl) ?_
  refine z_getX (i := 0) (j := 23) hM hI rfl hinX11 rfl (by decide) (by decide +kernel) (fun _ h9 => h9) rfl dX11_account_43 ?_
  refine z_lastE (i := 1) hM hI rfl (vp_in_c 4 6 (by decide)) dX11_account_46 (fun H locs hI => ?_)
  have hI : zI D tc _ s.heap [(pm, .inr (13, [.ref lc, .ref lt, .ref pv, .ref pg, .int 0, .int 4000, .int 0, .int 200, .int 5000, .int 600, .int 0, .int 0, .int 0, .int 0, .int 0, .int 0, .int 0, .int 0, .int 0, .long 0, .long 0, .long 0, .long 0, .long 0, .long 0, .int 0, .int 45])), (q1, .inl (tc 1, 6, .inr (.inl (vp_updL (vp_updL (vp_updL (vp_updL (vp_updL (fun _ => 0) (0 : Int32).toNatClampNeg 0) (1 : Int32).toNatClampNeg 0) (2 : Int32).toNatClampNeg 0) (3 : Int32).toNatClampNeg 0) (4 : Int32).toNatClampNeg 0))))] L κ g _ _ := hI
  refine lv_dup hx hb dX11_account_47 rfl ?_
  refine lv_iconst (v := 5) hx hb dX11_account_48 (by decide) ?_
  refine lv_aload_n hx hb dX11_account_49 rfl (lv_at hl 1 rfl) ?_
  refine z_getX (i := 0) (j := 24) hM hI rfl hinX11 rfl (by decide) (by decide +kernel) (fun _ h9 => h9) rfl dX11_account_50 ?_
  refine z_lastE (i := 1) hM hI rfl (vp_in_c 5 6 (by decide)) dX11_account_53 (fun H locs hI => ?_)
  have hI : zI D tc _ s.heap [(pm, .inr (13, [.ref lc, .ref lt, .ref pv, .ref pg, .int 0, .int 4000, .int 0, .int 200, .int 5000, .int 600, .int 0, .int 0, .int 0, .int 0, .int 0, .int 0, .int 0, .int 0, .int 0, .long 0, .long 0, .long 0, .long 0, .long 0, .long 0, .int 0, .int 45])), (q1, .inl (tc 1, 6, .inr (.inl (vp_updL (vp_updL (vp_updL (vp_updL (vp_updL (vp_updL (fun _ => 0) (0 : Int32).toNatClampNeg 0) (1 : Int32).toNatClampNeg 0) (2 : Int32).toNatClampNeg 0) (3 : Int32).toNatClampNeg 0) (4 : Int32).toNatClampNeg 0) (5 : Int32).toNatClampNeg 0))))] L κ g _ _ := hI
  refine lv_astore_n (lv' := [(3, .ref q1), (2, .int 1), (0, .ref pm), (1, .int 98)]) hx hb dX11_account_54 rfl hl (by decide) rfl (fun ls hl => ?_)
  refine lv_aload_n hx hb dX11_account_55 rfl (lv_at hl 2 rfl) ?_
  refine lv_iload_n hx hb dX11_account_56 rfl (lv_at hl 1 rfl) ?_
  refine lv_if_ge (tgt := 64) hx hb dX11_account_57 (by decide) (fun _ => ?_) (fun h9 => by first | exact absurd h9 (by decide) | exact absurd (by decide) h9)
  refine lv_iconst (v := 0) hx hb dX11_account_64 (by decide) ?_
  refine z_ciX (Xc := ([(pm, .inr (13, [.ref lc, .ref lt, .ref pv, .ref pg, .int 0, .int 4000, .int 0, .int 200, .int 5000, .int 600, .int 0, .int 0, .int 0, .int 0, .int 0, .int 0, .int 0, .int 0, .int 0, .long 0, .long 0, .long 0, .long 0, .long 0, .long 0, .int 0, .int 45]))] : va_W)) (wr := ([(q1, .inl (tc 1, 6, .inr (.inl (vp_updL (vp_updL (vp_updL (vp_updL (vp_updL (vp_updL (fun _ => 0) (0 : Int32).toNatClampNeg 0) (1 : Int32).toNatClampNeg 0) (2 : Int32).toNatClampNeg 0) (3 : Int32).toNatClampNeg 0) (4 : Int32).toNatClampNeg 0) (5 : Int32).toNatClampNeg 0))))] : va_W)) (rx := ([(pm, .inr (13, [.ref lc, .ref lt, .ref pv, .ref pg, .int 0, .int 4000, .int 0, .int 200, .int 5000, .int 600, .int 0, .int 0, .int 0, .int 0, .int 0, .int 0, .int 0, .int 0, .int 0, .long 0, .long 0, .long 0, .long 0, .long 0, .long 0, .int 0, .int 45]))] : va_W)) [0] [1] rfl rfl rfl rfl (by decide) hI (va_runV (As := [.int 0]) (rest := []) ⟨hx, hb, hml, hown, hts⟩ (x_X11_fails_0 l D tc z0 _ κ g _ pm lc lt pv pg ) (cwV 1 hts gX11_account_X11_fails rfl rfl rfl (by decide +kernel) ⟨Nat.le_of_ble_eq_true rfl, Nat.le_of_ble_eq_true rfl⟩) (z_preV (Xc := ([(pm, .inr (13, [.ref lc, .ref lt, .ref pv, .ref pg, .int 0, .int 4000, .int 0, .int 200, .int 5000, .int 600, .int 0, .int 0, .int 0, .int 0, .int 0, .int 0, .int 0, .int 0, .int 0, .long 0, .long 0, .long 0, .long 0, .long 0, .long 0, .int 0, .int 45]))] : va_W)) hK hE hI [0] rfl rfl (z_recvX hK hI (i := 0) rfl rfl)) rfl rfl hl.1 rfl (lv_room (Nat.le_of_ble_eq_true rfl)) dX11_account_65 ⟨Nat.le_of_ble_eq_true rfl, Nat.le_of_ble_eq_true rfl⟩) (fun v2 u H locs hw hI => ?_)
  obtain ⟨rfl, rfl⟩ := hw
  have hI : zI D tc _ s.heap [(q1, .inl (tc 1, 6, .inr (.inl (vp_updL (vp_updL (vp_updL (vp_updL (vp_updL (vp_updL (fun _ => 0) (0 : Int32).toNatClampNeg 0) (1 : Int32).toNatClampNeg 0) (2 : Int32).toNatClampNeg 0) (3 : Int32).toNatClampNeg 0) (4 : Int32).toNatClampNeg 0) (5 : Int32).toNatClampNeg 0)))), (pm, .inr (13, [.ref lc, .ref lt, .ref pv, .ref pg, .int 0, .int 4000, .int 0, .int 200, .int 5000, .int 600, .int 0, .int 0, .int 0, .int 0, .int 0, .int 0, .int 0, .int 0, .int 0, .long 0, .long 0, .long 0, .long 0, .long 0, .long 0, .int 0, .int 45]))] L κ g _ _ := hI
  refine lv_if_eq (tgt := 75) hx hb dX11_account_68 (by decide) (fun _ => ?_) (fun h9 => by first | exact absurd h9 (by decide) | exact absurd (by decide) h9)
  refine lv_aload_n hx hb dX11_account_75 rfl (lv_at hl 0 rfl) ?_
  refine lv_iload_n hx hb dX11_account_76 rfl (lv_at hl 1 rfl) ?_
  refine z_laldE (i := 0) (v := 0) hM hI rfl (vp_in_c 1 6 (by decide)) (by first | rfl | decide +kernel) dX11_account_77 ?_
  have hI := z_part (X' := ([(pm, .inr (13, [.ref lc, .ref lt, .ref pv, .ref pg, .int 0, .int 4000, .int 0, .int 200, .int 5000, .int 600, .int 0, .int 0, .int 0, .int 0, .int 0, .int 0, .int 0, .int 0, .int 0, .long 0, .long 0, .long 0, .long 0, .long 0, .long 0, .int 0, .int 45]))] : va_W)) [1] rfl rfl hI
  exact W.lret (v := 0) hx hb hr (fun t ht hW => ⟨⟨_, (L, κ, g), rfl, ⟨rfl, rfl⟩, z_end hK hI ht hW⟩, z_F hI ht⟩) (z_locs hI) dX11_account_78

set_option maxHeartbeats 4000000 in
set_option maxRecDepth 100000 in
theorem x_X11_account_111 (l : Launch) (D : va_G) (tc : Nat → ClassId) (z0 : Nat) (L : List Nat) (κ : Nat → Nat) (g : Nat → Nat → Value) (sz : Nat) (pm : Nat) (lc : Nat) (lt : Nat) (pv : Nat) (pg : Nat)  : Met l yX11_account wsX11_account ({ frames := 4, cells := 1, slots := 6, locals := 91 }) (zPc D tc z0 [.ref pm, .int 111] ([(pm, .inr (13, [.ref lc, .ref lt, .ref pv, .ref pg, .int 0, .int 4000, .int 0, .int 200, .int 5000, .int 600, .int 0, .int 0, .int 0, .int 0, .int 0, .int 0, .int 0, .int 0, .int 0, .long 0, .long 0, .long 0, .long 0, .long 0, .long 0, .int 0, .int 45]))] : va_W) (L, κ, g) sz) (va_Ql (fun (r : Int64) (u : (zS)) => r = 0 ∧ u = (L, κ, g)) (fun (u : (zS)) (t : State) => zB D tc (zA ([(pm, .inr (13, [.ref lc, .ref lt, .ref pv, .ref pg, .int 0, .int 4000, .int 0, .int 200, .int 5000, .int 600, .int 0, .int 0, .int 0, .int 0, .int 0, .int 0, .int 0, .int 0, .int 0, .long 0, .long 0, .long 0, .long 0, .long 0, .long 0, .int 0, .int 45]))] : va_W) L sz) ([(pm, .inr (13, [.ref lc, .ref lt, .ref pv, .ref pg, .int 0, .int 4000, .int 0, .int 200, .int 5000, .int 600, .int 0, .int 0, .int 0, .int 0, .int 0, .int 0, .int 0, .int 0, .int 0, .long 0, .long 0, .long 0, .long 0, .long 0, .long 0, .int 0, .int 45]))] : va_W) u t) (zA ([(pm, .inr (13, [.ref lc, .ref lt, .ref pv, .ref pg, .int 0, .int 4000, .int 0, .int 200, .int 5000, .int 600, .int 0, .int 0, .int 0, .int 0, .int 0, .int 0, .int 0, .int 0, .int 0, .long 0, .long 0, .long 0, .long 0, .long 0, .long 0, .int 0, .int 45]))] : va_W) L sz)) 1 6 (zA ([(pm, .inr (13, [.ref lc, .ref lt, .ref pv, .ref pg, .int 0, .int 4000, .int 0, .int 200, .int 5000, .int 600, .int 0, .int 0, .int 0, .int 0, .int 0, .int 0, .int 0, .int 0, .int 0, .long 0, .long 0, .long 0, .long 0, .long 0, .long 0, .int 0, .int 45]))] : va_W) L sz) := by
  refine Met.ofW (cc := cX11_account) (maxL := 4) (ret := (some .long)) (by decide) rfl ?_
  intro p e9 s m args below meth c s₁ B hml hv
  obtain ⟨rfl, rfl, hK, hE, hI⟩ := hv.opn
  have hx := B.exec
  have hb := B.bytes
  have hr := B.returns
  have hts := atoms_spec (ws := wsX11_account) B.pre
  have hown : s.vm.findClass RX11 = some m.cls := findClass_of_methodNamed B.named
  have hlocks := B.notSynchronized
  have hM : zM p s m c cX11_account _ wsX11_account RX11 D tc := ⟨hx, hb, hts, hown, hK⟩
  have hinX11 : ∀ w ∈ wsX110, w ∈ wsX11_account := by decide +kernel
  have hl := lv_entry ([.ref pm, .int 111]) (n := 4) (Nat.le_of_ble_eq_true rfl)
  rw [lg_entry_eq]
  generalize (lg_sl ([.ref pm, .int 111]) ++ List.replicate (4 - (lg_sl ([.ref pm, .int 111])).length) Slot.unset).toArray = ls at hl ⊢
  have hl : lv_has ls 4 [(0, .ref pm), (1, .int 111)] := hl
  obtain ⟨adK, adV, hst9, hR0, hR1⟩ := hE.st
  refine z_ldcwS hx hb hown hR1 dX11_account_0 ?_
  refine lv_iload_n hx hb dX11_account_3 rfl (lv_at hl 1 rfl) ?_
  refine vp_callSi (W.runV (As := [.int 111]) (rest := []) ⟨hx, hb, hml, hown, hts⟩ (c_J0_indexOf_0f7a4 l adK adV _ 1 (by decide) 111) (cwV 1 hts gX11_account_J0_indexOf_0f7a4 rfl rfl rfl (by decide +kernel) ⟨Nat.le_of_ble_eq_true rfl, Nat.le_of_ble_eq_true rfl⟩) (z_preVS hst9 hI.2.1 (vk_recv hst9.1 (by decide) hI.2.1)) rfl rfl hl.1 rfl (lv_room (Nat.le_of_ble_eq_true rfl)) dX11_account_4 ⟨Nat.le_of_ble_eq_true rfl, Nat.le_of_ble_eq_true rfl⟩) (fun v9 hw9 => ?_)
  obtain rfl : v9 = 2 := (z_ix9 (k := 2) hw9 (by decide) (by decide) (by decide)).trans (by decide)
  refine lv_istore_n (lv' := [(2, .int 2), (0, .ref pm), (1, .int 111)]) hx hb dX11_account_7 rfl hl (by decide) rfl (fun ls hl => ?_)
  refine lv_bipush (v := 6) hx hb dX11_account_8 (by decide) ?_
  refine z_newa (ty := .long) (ti := 1) (n := 6) hM hI (by decide +kernel) rfl rfl (by intro C h; cases h) (6, .inr (.inl (fun _ => 0))) (fun cA => rfl) (by decide) (by decide) (by decide) (Nat.le_of_ble_eq_true rfl) (Nat.le_of_ble_eq_true rfl) dX11_account_10 (fun q1 H hI => ?_)
  have hI : zI D tc _ s.heap [(pm, .inr (13, [.ref lc, .ref lt, .ref pv, .ref pg, .int 0, .int 4000, .int 0, .int 200, .int 5000, .int 600, .int 0, .int 0, .int 0, .int 0, .int 0, .int 0, .int 0, .int 0, .int 0, .long 0, .long 0, .long 0, .long 0, .long 0, .long 0, .int 0, .int 45])), (q1, .inl (tc 1, 6, .inr (.inl (fun _ => 0))))] L κ g _ _ := hI
  refine lv_dup hx hb dX11_account_12 rfl ?_
  refine lv_iconst (v := 0) hx hb dX11_account_13 (by decide) ?_
  refine lv_aload_n hx hb dX11_account_14 rfl (lv_at hl 1 rfl) ?_
  refine z_getX (i := 0) (j := 19) hM hI rfl hinX11 rfl (by decide) (by decide +kernel) (fun _ h9 => h9) rfl dX11_account_15 ?_
  refine z_lastE (i := 1) hM hI rfl (vp_in_c 0 6 (by decide)) dX11_account_18 (fun H locs hI => ?_)
  have hI : zI D tc _ s.heap [(pm, .inr (13, [.ref lc, .ref lt, .ref pv, .ref pg, .int 0, .int 4000, .int 0, .int 200, .int 5000, .int 600, .int 0, .int 0, .int 0, .int 0, .int 0, .int 0, .int 0, .int 0, .int 0, .long 0, .long 0, .long 0, .long 0, .long 0, .long 0, .int 0, .int 45])), (q1, .inl (tc 1, 6, .inr (.inl (vp_updL (fun _ => 0) (0 : Int32).toNatClampNeg 0))))] L κ g _ _ := hI
  refine lv_dup hx hb dX11_account_19 rfl ?_
  refine lv_iconst (v := 1) hx hb dX11_account_20 (by decide) ?_
  refine lv_aload_n hx hb dX11_account_21 rfl (lv_at hl 1 rfl) ?_
  refine z_getX (i := 0) (j := 20) hM hI rfl hinX11 rfl (by decide) (by decide +kernel) (fun _ h9 => h9) rfl dX11_account_22 ?_
  refine z_lastE (i := 1) hM hI rfl (vp_in_c 1 6 (by decide)) dX11_account_25 (fun H locs hI => ?_)
  have hI : zI D tc _ s.heap [(pm, .inr (13, [.ref lc, .ref lt, .ref pv, .ref pg, .int 0, .int 4000, .int 0, .int 200, .int 5000, .int 600, .int 0, .int 0, .int 0, .int 0, .int 0, .int 0, .int 0, .int 0, .int 0, .long 0, .long 0, .long 0, .long 0, .long 0, .long 0, .int 0, .int 45])), (q1, .inl (tc 1, 6, .inr (.inl (vp_updL (vp_updL (fun _ => 0) (0 : Int32).toNatClampNeg 0) (1 : Int32).toNatClampNeg 0))))] L κ g _ _ := hI
  refine lv_dup hx hb dX11_account_26 rfl ?_
  refine lv_iconst (v := 2) hx hb dX11_account_27 (by decide) ?_
  refine lv_aload_n hx hb dX11_account_28 rfl (lv_at hl 1 rfl) ?_
  refine z_getX (i := 0) (j := 21) hM hI rfl hinX11 rfl (by decide) (by decide +kernel) (fun _ h9 => h9) rfl dX11_account_29 ?_
  refine z_lastE (i := 1) hM hI rfl (vp_in_c 2 6 (by decide)) dX11_account_32 (fun H locs hI => ?_)
  have hI : zI D tc _ s.heap [(pm, .inr (13, [.ref lc, .ref lt, .ref pv, .ref pg, .int 0, .int 4000, .int 0, .int 200, .int 5000, .int 600, .int 0, .int 0, .int 0, .int 0, .int 0, .int 0, .int 0, .int 0, .int 0, .long 0, .long 0, .long 0, .long 0, .long 0, .long 0, .int 0, .int 45])), (q1, .inl (tc 1, 6, .inr (.inl (vp_updL (vp_updL (vp_updL (fun _ => 0) (0 : Int32).toNatClampNeg 0) (1 : Int32).toNatClampNeg 0) (2 : Int32).toNatClampNeg 0))))] L κ g _ _ := hI
  refine lv_dup hx hb dX11_account_33 rfl ?_
  refine lv_iconst (v := 3) hx hb dX11_account_34 (by decide) ?_
  refine lv_aload_n hx hb dX11_account_35 rfl (lv_at hl 1 rfl) ?_
  refine z_getX (i := 0) (j := 22) hM hI rfl hinX11 rfl (by decide) (by decide +kernel) (fun _ h9 => h9) rfl dX11_account_36 ?_
  refine z_lastE (i := 1) hM hI rfl (vp_in_c 3 6 (by decide)) dX11_account_39 (fun H locs hI => ?_)
  have hI : zI D tc _ s.heap [(pm, .inr (13, [.ref lc, .ref lt, .ref pv, .ref pg, .int 0, .int 4000, .int 0, .int 200, .int 5000, .int 600, .int 0, .int 0, .int 0, .int 0, .int 0, .int 0, .int 0, .int 0, .int 0, .long 0, .long 0, .long 0, .long 0, .long 0, .long 0, .int 0, .int 45])), (q1, .inl (tc 1, 6, .inr (.inl (vp_updL (vp_updL (vp_updL (vp_updL (fun _ => 0) (0 : Int32).toNatClampNeg 0) (1 : Int32).toNatClampNeg 0) (2 : Int32).toNatClampNeg 0) (3 : Int32).toNatClampNeg 0))))] L κ g _ _ := hI
  refine lv_dup hx hb dX11_account_40 rfl ?_
  refine lv_iconst (v := 4) hx hb dX11_account_41 (by decide) ?_
  refine lv_aload_n hx hb dX11_account_42 rfl (lv_at hl 1 rfl) ?_
  refine z_getX (i := 0) (j := 23) hM hI rfl hinX11 rfl (by decide) (by decide +kernel) (fun _ h9 => h9) rfl dX11_account_43 ?_
  refine z_lastE (i := 1) hM hI rfl (vp_in_c 4 6 (by decide)) dX11_account_46 (fun H locs hI => ?_)
  have hI : zI D tc _ s.heap [(pm, .inr (13, [.ref lc, .ref lt, .ref pv, .ref pg, .int 0, .int 4000, .int 0, .int 200, .int 5000, .int 600, .int 0, .int 0, .int 0, .int 0, .int 0, .int 0, .int 0, .int 0, .int 0, .long 0, .long 0, .long 0, .long 0, .long 0, .long 0, .int 0, .int 45])), (q1, .inl (tc 1, 6, .inr (.inl (vp_updL (vp_updL (vp_updL (vp_updL (vp_updL (fun _ => 0) (0 : Int32).toNatClampNeg 0) (1 : Int32).toNatClampNeg 0) (2 : Int32).toNatClampNeg 0) (3 : Int32).toNatClampNeg 0) (4 : Int32).toNatClampNeg 0))))] L κ g _ _ := hI
  refine lv_dup hx hb dX11_account_47 rfl ?_
  refine lv_iconst (v := 5) hx hb dX11_account_48 (by decide) ?_
  refine lv_aload_n hx hb dX11_account_49 rfl (lv_at hl 1 rfl) ?_
  refine z_getX (i := 0) (j := 24) hM hI rfl hinX11 rfl (by decide) (by decide +kernel) (fun _ h9 => h9) rfl dX11_account_50 ?_
  refine z_lastE (i := 1) hM hI rfl (vp_in_c 5 6 (by decide)) dX11_account_53 (fun H locs hI => ?_)
  have hI : zI D tc _ s.heap [(pm, .inr (13, [.ref lc, .ref lt, .ref pv, .ref pg, .int 0, .int 4000, .int 0, .int 200, .int 5000, .int 600, .int 0, .int 0, .int 0, .int 0, .int 0, .int 0, .int 0, .int 0, .int 0, .long 0, .long 0, .long 0, .long 0, .long 0, .long 0, .int 0, .int 45])), (q1, .inl (tc 1, 6, .inr (.inl (vp_updL (vp_updL (vp_updL (vp_updL (vp_updL (vp_updL (fun _ => 0) (0 : Int32).toNatClampNeg 0) (1 : Int32).toNatClampNeg 0) (2 : Int32).toNatClampNeg 0) (3 : Int32).toNatClampNeg 0) (4 : Int32).toNatClampNeg 0) (5 : Int32).toNatClampNeg 0))))] L κ g _ _ := hI
  refine lv_astore_n (lv' := [(3, .ref q1), (2, .int 2), (0, .ref pm), (1, .int 111)]) hx hb dX11_account_54 rfl hl (by decide) rfl (fun ls hl => ?_)
  refine lv_aload_n hx hb dX11_account_55 rfl (lv_at hl 2 rfl) ?_
  refine lv_iload_n hx hb dX11_account_56 rfl (lv_at hl 1 rfl) ?_
  refine lv_if_ge (tgt := 64) hx hb dX11_account_57 (by decide) (fun _ => ?_) (fun h9 => by first | exact absurd h9 (by decide) | exact absurd (by decide) h9)
  refine lv_iconst (v := 0) hx hb dX11_account_64 (by decide) ?_
  refine z_ciX (Xc := ([(pm, .inr (13, [.ref lc, .ref lt, .ref pv, .ref pg, .int 0, .int 4000, .int 0, .int 200, .int 5000, .int 600, .int 0, .int 0, .int 0, .int 0, .int 0, .int 0, .int 0, .int 0, .int 0, .long 0, .long 0, .long 0, .long 0, .long 0, .long 0, .int 0, .int 45]))] : va_W)) (wr := ([(q1, .inl (tc 1, 6, .inr (.inl (vp_updL (vp_updL (vp_updL (vp_updL (vp_updL (vp_updL (fun _ => 0) (0 : Int32).toNatClampNeg 0) (1 : Int32).toNatClampNeg 0) (2 : Int32).toNatClampNeg 0) (3 : Int32).toNatClampNeg 0) (4 : Int32).toNatClampNeg 0) (5 : Int32).toNatClampNeg 0))))] : va_W)) (rx := ([(pm, .inr (13, [.ref lc, .ref lt, .ref pv, .ref pg, .int 0, .int 4000, .int 0, .int 200, .int 5000, .int 600, .int 0, .int 0, .int 0, .int 0, .int 0, .int 0, .int 0, .int 0, .int 0, .long 0, .long 0, .long 0, .long 0, .long 0, .long 0, .int 0, .int 45]))] : va_W)) [0] [1] rfl rfl rfl rfl (by decide) hI (va_runV (As := [.int 0]) (rest := []) ⟨hx, hb, hml, hown, hts⟩ (x_X11_fails_0 l D tc z0 _ κ g _ pm lc lt pv pg ) (cwV 1 hts gX11_account_X11_fails rfl rfl rfl (by decide +kernel) ⟨Nat.le_of_ble_eq_true rfl, Nat.le_of_ble_eq_true rfl⟩) (z_preV (Xc := ([(pm, .inr (13, [.ref lc, .ref lt, .ref pv, .ref pg, .int 0, .int 4000, .int 0, .int 200, .int 5000, .int 600, .int 0, .int 0, .int 0, .int 0, .int 0, .int 0, .int 0, .int 0, .int 0, .long 0, .long 0, .long 0, .long 0, .long 0, .long 0, .int 0, .int 45]))] : va_W)) hK hE hI [0] rfl rfl (z_recvX hK hI (i := 0) rfl rfl)) rfl rfl hl.1 rfl (lv_room (Nat.le_of_ble_eq_true rfl)) dX11_account_65 ⟨Nat.le_of_ble_eq_true rfl, Nat.le_of_ble_eq_true rfl⟩) (fun v2 u H locs hw hI => ?_)
  obtain ⟨rfl, rfl⟩ := hw
  have hI : zI D tc _ s.heap [(q1, .inl (tc 1, 6, .inr (.inl (vp_updL (vp_updL (vp_updL (vp_updL (vp_updL (vp_updL (fun _ => 0) (0 : Int32).toNatClampNeg 0) (1 : Int32).toNatClampNeg 0) (2 : Int32).toNatClampNeg 0) (3 : Int32).toNatClampNeg 0) (4 : Int32).toNatClampNeg 0) (5 : Int32).toNatClampNeg 0)))), (pm, .inr (13, [.ref lc, .ref lt, .ref pv, .ref pg, .int 0, .int 4000, .int 0, .int 200, .int 5000, .int 600, .int 0, .int 0, .int 0, .int 0, .int 0, .int 0, .int 0, .int 0, .int 0, .long 0, .long 0, .long 0, .long 0, .long 0, .long 0, .int 0, .int 45]))] L κ g _ _ := hI
  refine lv_if_eq (tgt := 75) hx hb dX11_account_68 (by decide) (fun _ => ?_) (fun h9 => by first | exact absurd h9 (by decide) | exact absurd (by decide) h9)
  refine lv_aload_n hx hb dX11_account_75 rfl (lv_at hl 0 rfl) ?_
  refine lv_iload_n hx hb dX11_account_76 rfl (lv_at hl 1 rfl) ?_
  refine z_laldE (i := 0) (v := 0) hM hI rfl (vp_in_c 2 6 (by decide)) (by first | rfl | decide +kernel) dX11_account_77 ?_
  have hI := z_part (X' := ([(pm, .inr (13, [.ref lc, .ref lt, .ref pv, .ref pg, .int 0, .int 4000, .int 0, .int 200, .int 5000, .int 600, .int 0, .int 0, .int 0, .int 0, .int 0, .int 0, .int 0, .int 0, .int 0, .long 0, .long 0, .long 0, .long 0, .long 0, .long 0, .int 0, .int 45]))] : va_W)) [1] rfl rfl hI
  exact W.lret (v := 0) hx hb hr (fun t ht hW => ⟨⟨_, (L, κ, g), rfl, ⟨rfl, rfl⟩, z_end hK hI ht hW⟩, z_F hI ht⟩) (z_locs hI) dX11_account_78

set_option maxHeartbeats 4000000 in
set_option maxRecDepth 100000 in
theorem x_X11_account_104 (l : Launch) (D : va_G) (tc : Nat → ClassId) (z0 : Nat) (L : List Nat) (κ : Nat → Nat) (g : Nat → Nat → Value) (sz : Nat) (pm : Nat) (lc : Nat) (lt : Nat) (pv : Nat) (pg : Nat)  : Met l yX11_account wsX11_account ({ frames := 4, cells := 1, slots := 6, locals := 91 }) (zPc D tc z0 [.ref pm, .int 104] ([(pm, .inr (13, [.ref lc, .ref lt, .ref pv, .ref pg, .int 0, .int 4000, .int 0, .int 200, .int 5000, .int 600, .int 0, .int 0, .int 0, .int 0, .int 0, .int 0, .int 0, .int 0, .int 0, .long 0, .long 0, .long 0, .long 0, .long 0, .long 0, .int 0, .int 45]))] : va_W) (L, κ, g) sz) (va_Ql (fun (r : Int64) (u : (zS)) => r = 0 ∧ u = (L, κ, g)) (fun (u : (zS)) (t : State) => zB D tc (zA ([(pm, .inr (13, [.ref lc, .ref lt, .ref pv, .ref pg, .int 0, .int 4000, .int 0, .int 200, .int 5000, .int 600, .int 0, .int 0, .int 0, .int 0, .int 0, .int 0, .int 0, .int 0, .int 0, .long 0, .long 0, .long 0, .long 0, .long 0, .long 0, .int 0, .int 45]))] : va_W) L sz) ([(pm, .inr (13, [.ref lc, .ref lt, .ref pv, .ref pg, .int 0, .int 4000, .int 0, .int 200, .int 5000, .int 600, .int 0, .int 0, .int 0, .int 0, .int 0, .int 0, .int 0, .int 0, .int 0, .long 0, .long 0, .long 0, .long 0, .long 0, .long 0, .int 0, .int 45]))] : va_W) u t) (zA ([(pm, .inr (13, [.ref lc, .ref lt, .ref pv, .ref pg, .int 0, .int 4000, .int 0, .int 200, .int 5000, .int 600, .int 0, .int 0, .int 0, .int 0, .int 0, .int 0, .int 0, .int 0, .int 0, .long 0, .long 0, .long 0, .long 0, .long 0, .long 0, .int 0, .int 45]))] : va_W) L sz)) 1 6 (zA ([(pm, .inr (13, [.ref lc, .ref lt, .ref pv, .ref pg, .int 0, .int 4000, .int 0, .int 200, .int 5000, .int 600, .int 0, .int 0, .int 0, .int 0, .int 0, .int 0, .int 0, .int 0, .int 0, .long 0, .long 0, .long 0, .long 0, .long 0, .long 0, .int 0, .int 45]))] : va_W) L sz) := by
  refine Met.ofW (cc := cX11_account) (maxL := 4) (ret := (some .long)) (by decide) rfl ?_
  intro p e9 s m args below meth c s₁ B hml hv
  obtain ⟨rfl, rfl, hK, hE, hI⟩ := hv.opn
  have hx := B.exec
  have hb := B.bytes
  have hr := B.returns
  have hts := atoms_spec (ws := wsX11_account) B.pre
  have hown : s.vm.findClass RX11 = some m.cls := findClass_of_methodNamed B.named
  have hlocks := B.notSynchronized
  have hM : zM p s m c cX11_account _ wsX11_account RX11 D tc := ⟨hx, hb, hts, hown, hK⟩
  have hinX11 : ∀ w ∈ wsX110, w ∈ wsX11_account := by decide +kernel
  have hl := lv_entry ([.ref pm, .int 104]) (n := 4) (Nat.le_of_ble_eq_true rfl)
  rw [lg_entry_eq]
  generalize (lg_sl ([.ref pm, .int 104]) ++ List.replicate (4 - (lg_sl ([.ref pm, .int 104])).length) Slot.unset).toArray = ls at hl ⊢
  have hl : lv_has ls 4 [(0, .ref pm), (1, .int 104)] := hl
  obtain ⟨adK, adV, hst9, hR0, hR1⟩ := hE.st
  refine z_ldcwS hx hb hown hR1 dX11_account_0 ?_
  refine lv_iload_n hx hb dX11_account_3 rfl (lv_at hl 1 rfl) ?_
  refine vp_callSi (W.runV (As := [.int 104]) (rest := []) ⟨hx, hb, hml, hown, hts⟩ (c_J0_indexOf_0f7a4 l adK adV _ 1 (by decide) 104) (cwV 1 hts gX11_account_J0_indexOf_0f7a4 rfl rfl rfl (by decide +kernel) ⟨Nat.le_of_ble_eq_true rfl, Nat.le_of_ble_eq_true rfl⟩) (z_preVS hst9 hI.2.1 (vk_recv hst9.1 (by decide) hI.2.1)) rfl rfl hl.1 rfl (lv_room (Nat.le_of_ble_eq_true rfl)) dX11_account_4 ⟨Nat.le_of_ble_eq_true rfl, Nat.le_of_ble_eq_true rfl⟩) (fun v9 hw9 => ?_)
  obtain rfl : v9 = 3 := (z_ix9 (k := 3) hw9 (by decide) (by decide) (by decide)).trans (by decide)
  refine lv_istore_n (lv' := [(2, .int 3), (0, .ref pm), (1, .int 104)]) hx hb dX11_account_7 rfl hl (by decide) rfl (fun ls hl => ?_)
  refine lv_bipush (v := 6) hx hb dX11_account_8 (by decide) ?_
  refine z_newa (ty := .long) (ti := 1) (n := 6) hM hI (by decide +kernel) rfl rfl (by intro C h; cases h) (6, .inr (.inl (fun _ => 0))) (fun cA => rfl) (by decide) (by decide) (by decide) (Nat.le_of_ble_eq_true rfl) (Nat.le_of_ble_eq_true rfl) dX11_account_10 (fun q1 H hI => ?_)
  have hI : zI D tc _ s.heap [(pm, .inr (13, [.ref lc, .ref lt, .ref pv, .ref pg, .int 0, .int 4000, .int 0, .int 200, .int 5000, .int 600, .int 0, .int 0, .int 0, .int 0, .int 0, .int 0, .int 0, .int 0, .int 0, .long 0, .long 0, .long 0, .long 0, .long 0, .long 0, .int 0, .int 45])), (q1, .inl (tc 1, 6, .inr (.inl (fun _ => 0))))] L κ g _ _ := hI
  refine lv_dup hx hb dX11_account_12 rfl ?_
  refine lv_iconst (v := 0) hx hb dX11_account_13 (by decide) ?_
  refine lv_aload_n hx hb dX11_account_14 rfl (lv_at hl 1 rfl) ?_
  refine z_getX (i := 0) (j := 19) hM hI rfl hinX11 rfl (by decide) (by decide +kernel) (fun _ h9 => h9) rfl dX11_account_15 ?_
  refine z_lastE (i := 1) hM hI rfl (vp_in_c 0 6 (by decide)) dX11_account_18 (fun H locs hI => ?_)
  have hI : zI D tc _ s.heap [(pm, .inr (13, [.ref lc, .ref lt, .ref pv, .ref pg, .int 0, .int 4000, .int 0, .int 200, .int 5000, .int 600, .int 0, .int 0, .int 0, .int 0, .int 0, .int 0, .int 0, .int 0, .int 0, .long 0, .long 0, .long 0, .long 0, .long 0, .long 0, .int 0, .int 45])), (q1, .inl (tc 1, 6, .inr (.inl (vp_updL (fun _ => 0) (0 : Int32).toNatClampNeg 0))))] L κ g _ _ := hI
  refine lv_dup hx hb dX11_account_19 rfl ?_
  refine lv_iconst (v := 1) hx hb dX11_account_20 (by decide) ?_
  refine lv_aload_n hx hb dX11_account_21 rfl (lv_at hl 1 rfl) ?_
  refine z_getX (i := 0) (j := 20) hM hI rfl hinX11 rfl (by decide) (by decide +kernel) (fun _ h9 => h9) rfl dX11_account_22 ?_
  refine z_lastE (i := 1) hM hI rfl (vp_in_c 1 6 (by decide)) dX11_account_25 (fun H locs hI => ?_)
  have hI : zI D tc _ s.heap [(pm, .inr (13, [.ref lc, .ref lt, .ref pv, .ref pg, .int 0, .int 4000, .int 0, .int 200, .int 5000, .int 600, .int 0, .int 0, .int 0, .int 0, .int 0, .int 0, .int 0, .int 0, .int 0, .long 0, .long 0, .long 0, .long 0, .long 0, .long 0, .int 0, .int 45])), (q1, .inl (tc 1, 6, .inr (.inl (vp_updL (vp_updL (fun _ => 0) (0 : Int32).toNatClampNeg 0) (1 : Int32).toNatClampNeg 0))))] L κ g _ _ := hI
  refine lv_dup hx hb dX11_account_26 rfl ?_
  refine lv_iconst (v := 2) hx hb dX11_account_27 (by decide) ?_
  refine lv_aload_n hx hb dX11_account_28 rfl (lv_at hl 1 rfl) ?_
  refine z_getX (i := 0) (j := 21) hM hI rfl hinX11 rfl (by decide) (by decide +kernel) (fun _ h9 => h9) rfl dX11_account_29 ?_
  refine z_lastE (i := 1) hM hI rfl (vp_in_c 2 6 (by decide)) dX11_account_32 (fun H locs hI => ?_)
  have hI : zI D tc _ s.heap [(pm, .inr (13, [.ref lc, .ref lt, .ref pv, .ref pg, .int 0, .int 4000, .int 0, .int 200, .int 5000, .int 600, .int 0, .int 0, .int 0, .int 0, .int 0, .int 0, .int 0, .int 0, .int 0, .long 0, .long 0, .long 0, .long 0, .long 0, .long 0, .int 0, .int 45])), (q1, .inl (tc 1, 6, .inr (.inl (vp_updL (vp_updL (vp_updL (fun _ => 0) (0 : Int32).toNatClampNeg 0) (1 : Int32).toNatClampNeg 0) (2 : Int32).toNatClampNeg 0))))] L κ g _ _ := hI
  refine lv_dup hx hb dX11_account_33 rfl ?_
  refine lv_iconst (v := 3) hx hb dX11_account_34 (by decide) ?_
  refine lv_aload_n hx hb dX11_account_35 rfl (lv_at hl 1 rfl) ?_
  refine z_getX (i := 0) (j := 22) hM hI rfl hinX11 rfl (by decide) (by decide +kernel) (fun _ h9 => h9) rfl dX11_account_36 ?_
  refine z_lastE (i := 1) hM hI rfl (vp_in_c 3 6 (by decide)) dX11_account_39 (fun H locs hI => ?_)
  have hI : zI D tc _ s.heap [(pm, .inr (13, [.ref lc, .ref lt, .ref pv, .ref pg, .int 0, .int 4000, .int 0, .int 200, .int 5000, .int 600, .int 0, .int 0, .int 0, .int 0, .int 0, .int 0, .int 0, .int 0, .int 0, .long 0, .long 0, .long 0, .long 0, .long 0, .long 0, .int 0, .int 45])), (q1, .inl (tc 1, 6, .inr (.inl (vp_updL (vp_updL (vp_updL (vp_updL (fun _ => 0) (0 : Int32).toNatClampNeg 0) (1 : Int32).toNatClampNeg 0) (2 : Int32).toNatClampNeg 0) (3 : Int32).toNatClampNeg 0))))] L κ g _ _ := hI
  refine lv_dup hx hb dX11_account_40 rfl ?_
  refine lv_iconst (v := 4) hx hb dX11_account_41 (by decide) ?_
  refine lv_aload_n hx hb dX11_account_42 rfl (lv_at hl 1 rfl) ?_
  refine z_getX (i := 0) (j := 23) hM hI rfl hinX11 rfl (by decide) (by decide +kernel) (fun _ h9 => h9) rfl dX11_account_43 ?_
  refine z_lastE (i := 1) hM hI rfl (vp_in_c 4 6 (by decide)) dX11_account_46 (fun H locs hI => ?_)
  have hI : zI D tc _ s.heap [(pm, .inr (13, [.ref lc, .ref lt, .ref pv, .ref pg, .int 0, .int 4000, .int 0, .int 200, .int 5000, .int 600, .int 0, .int 0, .int 0, .int 0, .int 0, .int 0, .int 0, .int 0, .int 0, .long 0, .long 0, .long 0, .long 0, .long 0, .long 0, .int 0, .int 45])), (q1, .inl (tc 1, 6, .inr (.inl (vp_updL (vp_updL (vp_updL (vp_updL (vp_updL (fun _ => 0) (0 : Int32).toNatClampNeg 0) (1 : Int32).toNatClampNeg 0) (2 : Int32).toNatClampNeg 0) (3 : Int32).toNatClampNeg 0) (4 : Int32).toNatClampNeg 0))))] L κ g _ _ := hI
  refine lv_dup hx hb dX11_account_47 rfl ?_
  refine lv_iconst (v := 5) hx hb dX11_account_48 (by decide) ?_
  refine lv_aload_n hx hb dX11_account_49 rfl (lv_at hl 1 rfl) ?_
  refine z_getX (i := 0) (j := 24) hM hI rfl hinX11 rfl (by decide) (by decide +kernel) (fun _ h9 => h9) rfl dX11_account_50 ?_
  refine z_lastE (i := 1) hM hI rfl (vp_in_c 5 6 (by decide)) dX11_account_53 (fun H locs hI => ?_)
  have hI : zI D tc _ s.heap [(pm, .inr (13, [.ref lc, .ref lt, .ref pv, .ref pg, .int 0, .int 4000, .int 0, .int 200, .int 5000, .int 600, .int 0, .int 0, .int 0, .int 0, .int 0, .int 0, .int 0, .int 0, .int 0, .long 0, .long 0, .long 0, .long 0, .long 0, .long 0, .int 0, .int 45])), (q1, .inl (tc 1, 6, .inr (.inl (vp_updL (vp_updL (vp_updL (vp_updL (vp_updL (vp_updL (fun _ => 0) (0 : Int32).toNatClampNeg 0) (1 : Int32).toNatClampNeg 0) (2 : Int32).toNatClampNeg 0) (3 : Int32).toNatClampNeg 0) (4 : Int32).toNatClampNeg 0) (5 : Int32).toNatClampNeg 0))))] L κ g _ _ := hI
  refine lv_astore_n (lv' := [(3, .ref q1), (2, .int 3), (0, .ref pm), (1, .int 104)]) hx hb dX11_account_54 rfl hl (by decide) rfl (fun ls hl => ?_)
  refine lv_aload_n hx hb dX11_account_55 rfl (lv_at hl 2 rfl) ?_
  refine lv_iload_n hx hb dX11_account_56 rfl (lv_at hl 1 rfl) ?_
  refine lv_if_ge (tgt := 64) hx hb dX11_account_57 (by decide) (fun _ => ?_) (fun h9 => by first | exact absurd h9 (by decide) | exact absurd (by decide) h9)
  refine lv_iconst (v := 0) hx hb dX11_account_64 (by decide) ?_
  refine z_ciX (Xc := ([(pm, .inr (13, [.ref lc, .ref lt, .ref pv, .ref pg, .int 0, .int 4000, .int 0, .int 200, .int 5000, .int 600, .int 0, .int 0, .int 0, .int 0, .int 0, .int 0, .int 0, .int 0, .int 0, .long 0, .long 0, .long 0, .long 0, .long 0, .long 0, .int 0, .int 45]))] : va_W)) (wr := ([(q1, .inl (tc 1, 6, .inr (.inl (vp_updL (vp_updL (vp_updL (vp_updL (vp_updL (vp_updL (fun _ => 0) (0 : Int32).toNatClampNeg 0) (1 : Int32).toNatClampNeg 0) (2 : Int32).toNatClampNeg 0) (3 : Int32).toNatClampNeg 0) (4 : Int32).toNatClampNeg 0) (5 : Int32).toNatClampNeg 0))))] : va_W)) (rx := ([(pm, .inr (13, [.ref lc, .ref lt, .ref pv, .ref pg, .int 0, .int 4000, .int 0, .int 200, .int 5000, .int 600, .int 0, .int 0, .int 0, .int 0, .int 0, .int 0, .int 0, .int 0, .int 0, .long 0, .long 0, .long 0, .long 0, .long 0, .long 0, .int 0, .int 45]))] : va_W)) [0] [1] rfl rfl rfl rfl (by decide) hI (va_runV (As := [.int 0]) (rest := []) ⟨hx, hb, hml, hown, hts⟩ (x_X11_fails_0 l D tc z0 _ κ g _ pm lc lt pv pg ) (cwV 1 hts gX11_account_X11_fails rfl rfl rfl (by decide +kernel) ⟨Nat.le_of_ble_eq_true rfl, Nat.le_of_ble_eq_true rfl⟩) (z_preV (Xc := ([(pm, .inr (13, [.ref lc, .ref lt, .ref pv, .ref pg, .int 0, .int 4000, .int 0, .int 200, .int 5000, .int 600, .int 0, .int 0, .int 0, .int 0, .int 0, .int 0, .int 0, .int 0, .int 0, .long 0, .long 0, .long 0, .long 0, .long 0, .long 0, .int 0, .int 45]))] : va_W)) hK hE hI [0] rfl rfl (z_recvX hK hI (i := 0) rfl rfl)) rfl rfl hl.1 rfl (lv_room (Nat.le_of_ble_eq_true rfl)) dX11_account_65 ⟨Nat.le_of_ble_eq_true rfl, Nat.le_of_ble_eq_true rfl⟩) (fun v2 u H locs hw hI => ?_)
  obtain ⟨rfl, rfl⟩ := hw
  have hI : zI D tc _ s.heap [(q1, .inl (tc 1, 6, .inr (.inl (vp_updL (vp_updL (vp_updL (vp_updL (vp_updL (vp_updL (fun _ => 0) (0 : Int32).toNatClampNeg 0) (1 : Int32).toNatClampNeg 0) (2 : Int32).toNatClampNeg 0) (3 : Int32).toNatClampNeg 0) (4 : Int32).toNatClampNeg 0) (5 : Int32).toNatClampNeg 0)))), (pm, .inr (13, [.ref lc, .ref lt, .ref pv, .ref pg, .int 0, .int 4000, .int 0, .int 200, .int 5000, .int 600, .int 0, .int 0, .int 0, .int 0, .int 0, .int 0, .int 0, .int 0, .int 0, .long 0, .long 0, .long 0, .long 0, .long 0, .long 0, .int 0, .int 45]))] L κ g _ _ := hI
  refine lv_if_eq (tgt := 75) hx hb dX11_account_68 (by decide) (fun _ => ?_) (fun h9 => by first | exact absurd h9 (by decide) | exact absurd (by decide) h9)
  refine lv_aload_n hx hb dX11_account_75 rfl (lv_at hl 0 rfl) ?_
  refine lv_iload_n hx hb dX11_account_76 rfl (lv_at hl 1 rfl) ?_
  refine z_laldE (i := 0) (v := 0) hM hI rfl (vp_in_c 3 6 (by decide)) (by first | rfl | decide +kernel) dX11_account_77 ?_
  have hI := z_part (X' := ([(pm, .inr (13, [.ref lc, .ref lt, .ref pv, .ref pg, .int 0, .int 4000, .int 0, .int 200, .int 5000, .int 600, .int 0, .int 0, .int 0, .int 0, .int 0, .int 0, .int 0, .int 0, .int 0, .long 0, .long 0, .long 0, .long 0, .long 0, .long 0, .int 0, .int 45]))] : va_W)) [1] rfl rfl hI
  exact W.lret (v := 0) hx hb hr (fun t ht hW => ⟨⟨_, (L, κ, g), rfl, ⟨rfl, rfl⟩, z_end hK hI ht hW⟩, z_F hI ht⟩) (z_locs hI) dX11_account_78

set_option maxHeartbeats 4000000 in
set_option maxRecDepth 100000 in
theorem x_X11_account_97 (l : Launch) (D : va_G) (tc : Nat → ClassId) (z0 : Nat) (L : List Nat) (κ : Nat → Nat) (g : Nat → Nat → Value) (sz : Nat) (pm : Nat) (lc : Nat) (lt : Nat) (pv : Nat) (pg : Nat)  : Met l yX11_account wsX11_account ({ frames := 4, cells := 1, slots := 6, locals := 91 }) (zPc D tc z0 [.ref pm, .int 97] ([(pm, .inr (13, [.ref lc, .ref lt, .ref pv, .ref pg, .int 0, .int 4000, .int 0, .int 200, .int 5000, .int 600, .int 0, .int 0, .int 0, .int 0, .int 0, .int 0, .int 0, .int 0, .int 0, .long 0, .long 0, .long 0, .long 0, .long 0, .long 0, .int 0, .int 45]))] : va_W) (L, κ, g) sz) (va_Ql (fun (r : Int64) (u : (zS)) => r = 0 ∧ u = (L, κ, g)) (fun (u : (zS)) (t : State) => zB D tc (zA ([(pm, .inr (13, [.ref lc, .ref lt, .ref pv, .ref pg, .int 0, .int 4000, .int 0, .int 200, .int 5000, .int 600, .int 0, .int 0, .int 0, .int 0, .int 0, .int 0, .int 0, .int 0, .int 0, .long 0, .long 0, .long 0, .long 0, .long 0, .long 0, .int 0, .int 45]))] : va_W) L sz) ([(pm, .inr (13, [.ref lc, .ref lt, .ref pv, .ref pg, .int 0, .int 4000, .int 0, .int 200, .int 5000, .int 600, .int 0, .int 0, .int 0, .int 0, .int 0, .int 0, .int 0, .int 0, .int 0, .long 0, .long 0, .long 0, .long 0, .long 0, .long 0, .int 0, .int 45]))] : va_W) u t) (zA ([(pm, .inr (13, [.ref lc, .ref lt, .ref pv, .ref pg, .int 0, .int 4000, .int 0, .int 200, .int 5000, .int 600, .int 0, .int 0, .int 0, .int 0, .int 0, .int 0, .int 0, .int 0, .int 0, .long 0, .long 0, .long 0, .long 0, .long 0, .long 0, .int 0, .int 45]))] : va_W) L sz)) 1 6 (zA ([(pm, .inr (13, [.ref lc, .ref lt, .ref pv, .ref pg, .int 0, .int 4000, .int 0, .int 200, .int 5000, .int 600, .int 0, .int 0, .int 0, .int 0, .int 0, .int 0, .int 0, .int 0, .int 0, .long 0, .long 0, .long 0, .long 0, .long 0, .long 0, .int 0, .int 45]))] : va_W) L sz) := by
  refine Met.ofW (cc := cX11_account) (maxL := 4) (ret := (some .long)) (by decide) rfl ?_
  intro p e9 s m args below meth c s₁ B hml hv
  obtain ⟨rfl, rfl, hK, hE, hI⟩ := hv.opn
  have hx := B.exec
  have hb := B.bytes
  have hr := B.returns
  have hts := atoms_spec (ws := wsX11_account) B.pre
  have hown : s.vm.findClass RX11 = some m.cls := findClass_of_methodNamed B.named
  have hlocks := B.notSynchronized
  have hM : zM p s m c cX11_account _ wsX11_account RX11 D tc := ⟨hx, hb, hts, hown, hK⟩
  have hinX11 : ∀ w ∈ wsX110, w ∈ wsX11_account := by decide +kernel
  have hl := lv_entry ([.ref pm, .int 97]) (n := 4) (Nat.le_of_ble_eq_true rfl)
  rw [lg_entry_eq]
  generalize (lg_sl ([.ref pm, .int 97]) ++ List.replicate (4 - (lg_sl ([.ref pm, .int 97])).length) Slot.unset).toArray = ls at hl ⊢
  have hl : lv_has ls 4 [(0, .ref pm), (1, .int 97)] := hl
  obtain ⟨adK, adV, hst9, hR0, hR1⟩ := hE.st
  refine z_ldcwS hx hb hown hR1 dX11_account_0 ?_
  refine lv_iload_n hx hb dX11_account_3 rfl (lv_at hl 1 rfl) ?_
  refine vp_callSi (W.runV (As := [.int 97]) (rest := []) ⟨hx, hb, hml, hown, hts⟩ (c_J0_indexOf_0f7a4 l adK adV _ 1 (by decide) 97) (cwV 1 hts gX11_account_J0_indexOf_0f7a4 rfl rfl rfl (by decide +kernel) ⟨Nat.le_of_ble_eq_true rfl, Nat.le_of_ble_eq_true rfl⟩) (z_preVS hst9 hI.2.1 (vk_recv hst9.1 (by decide) hI.2.1)) rfl rfl hl.1 rfl (lv_room (Nat.le_of_ble_eq_true rfl)) dX11_account_4 ⟨Nat.le_of_ble_eq_true rfl, Nat.le_of_ble_eq_true rfl⟩) (fun v9 hw9 => ?_)
  obtain rfl : v9 = 4 := (z_ix9 (k := 4) hw9 (by decide) (by decide) (by decide)).trans (by decide)
  refine lv_istore_n (lv' := [(2, .int 4), (0, .ref pm), (1, .int 97)]) hx hb dX11_account_7 rfl hl (by decide) rfl (fun ls hl => ?_)
  refine lv_bipush (v := 6) hx hb dX11_account_8 (by decide) ?_
  refine z_newa (ty := .long) (ti := 1) (n := 6) hM hI (by decide +kernel) rfl rfl (by intro C h; cases h) (6, .inr (.inl (fun _ => 0))) (fun cA => rfl) (by decide) (by decide) (by decide) (Nat.le_of_ble_eq_true rfl) (Nat.le_of_ble_eq_true rfl) dX11_account_10 (fun q1 H hI => ?_)
  have hI : zI D tc _ s.heap [(pm, .inr (13, [.ref lc, .ref lt, .ref pv, .ref pg, .int 0, .int 4000, .int 0, .int 200, .int 5000, .int 600, .int 0, .int 0, .int 0, .int 0, .int 0, .int 0, .int 0, .int 0, .int 0, .long 0, .long 0, .long 0, .long 0, .long 0, .long 0, .int 0, .int 45])), (q1, .inl (tc 1, 6, .inr (.inl (fun _ => 0))))] L κ g _ _ := hI
  refine lv_dup hx hb dX11_account_12 rfl ?_
  refine lv_iconst (v := 0) hx hb dX11_account_13 (by decide) ?_
  refine lv_aload_n hx hb dX11_account_14 rfl (lv_at hl 1 rfl) ?_
  refine z_getX (i := 0) (j := 19) hM hI rfl hinX11 rfl (by decide) (by decide +kernel) (fun _ h9 => h9) rfl dX11_account_15 ?_
  refine z_lastE (i := 1) hM hI rfl (vp_in_c 0 6 (by decide)) dX11_account_18 (fun H locs hI => ?_)
  have hI : zI D tc _ s.heap [(pm, .inr (13, [.ref lc, .ref lt, .ref pv, .ref pg, .int 0, .int 4000, .int 0, .int 200, .int 5000, .int 600, .int 0, .int 0, .int 0, .int 0, .int 0, .int 0, .int 0, .int 0, .int 0, .long 0, .long 0, .long 0, .long 0, .long 0, .long 0, .int 0, .int 45])), (q1, .inl (tc 1, 6, .inr (.inl (vp_updL (fun _ => 0) (0 : Int32).toNatClampNeg 0))))] L κ g _ _ := hI
  refine lv_dup hx hb dX11_account_19 rfl ?_
  refine lv_iconst (v := 1) hx hb dX11_account_20 (by decide) ?_
  refine lv_aload_n hx hb dX11_account_21 rfl (lv_at hl 1 rfl) ?_
  refine z_getX (i := 0) (j := 20) hM hI rfl hinX11 rfl (by decide) (by decide +kernel) (fun _ h9 => h9) rfl dX11_account_22 ?_
  refine z_lastE (i := 1) hM hI rfl (vp_in_c 1 6 (by decide)) dX11_account_25 (fun H locs hI => ?_)
  have hI : zI D tc _ s.heap [(pm, .inr (13, [.ref lc, .ref lt, .ref pv, .ref pg, .int 0, .int 4000, .int 0, .int 200, .int 5000, .int 600, .int 0, .int 0, .int 0, .int 0, .int 0, .int 0, .int 0, .int 0, .int 0, .long 0, .long 0, .long 0, .long 0, .long 0, .long 0, .int 0, .int 45])), (q1, .inl (tc 1, 6, .inr (.inl (vp_updL (vp_updL (fun _ => 0) (0 : Int32).toNatClampNeg 0) (1 : Int32).toNatClampNeg 0))))] L κ g _ _ := hI
  refine lv_dup hx hb dX11_account_26 rfl ?_
  refine lv_iconst (v := 2) hx hb dX11_account_27 (by decide) ?_
  refine lv_aload_n hx hb dX11_account_28 rfl (lv_at hl 1 rfl) ?_
  refine z_getX (i := 0) (j := 21) hM hI rfl hinX11 rfl (by decide) (by decide +kernel) (fun _ h9 => h9) rfl dX11_account_29 ?_
  refine z_lastE (i := 1) hM hI rfl (vp_in_c 2 6 (by decide)) dX11_account_32 (fun H locs hI => ?_)
  have hI : zI D tc _ s.heap [(pm, .inr (13, [.ref lc, .ref lt, .ref pv, .ref pg, .int 0, .int 4000, .int 0, .int 200, .int 5000, .int 600, .int 0, .int 0, .int 0, .int 0, .int 0, .int 0, .int 0, .int 0, .int 0, .long 0, .long 0, .long 0, .long 0, .long 0, .long 0, .int 0, .int 45])), (q1, .inl (tc 1, 6, .inr (.inl (vp_updL (vp_updL (vp_updL (fun _ => 0) (0 : Int32).toNatClampNeg 0) (1 : Int32).toNatClampNeg 0) (2 : Int32).toNatClampNeg 0))))] L κ g _ _ := hI
  refine lv_dup hx hb dX11_account_33 rfl ?_
  refine lv_iconst (v := 3) hx hb dX11_account_34 (by decide) ?_
  refine lv_aload_n hx hb dX11_account_35 rfl (lv_at hl 1 rfl) ?_
  refine z_getX (i := 0) (j := 22) hM hI rfl hinX11 rfl (by decide) (by decide +kernel) (fun _ h9 => h9) rfl dX11_account_36 ?_
  refine z_lastE (i := 1) hM hI rfl (vp_in_c 3 6 (by decide)) dX11_account_39 (fun H locs hI => ?_)
  have hI : zI D tc _ s.heap [(pm, .inr (13, [.ref lc, .ref lt, .ref pv, .ref pg, .int 0, .int 4000, .int 0, .int 200, .int 5000, .int 600, .int 0, .int 0, .int 0, .int 0, .int 0, .int 0, .int 0, .int 0, .int 0, .long 0, .long 0, .long 0, .long 0, .long 0, .long 0, .int 0, .int 45])), (q1, .inl (tc 1, 6, .inr (.inl (vp_updL (vp_updL (vp_updL (vp_updL (fun _ => 0) (0 : Int32).toNatClampNeg 0) (1 : Int32).toNatClampNeg 0) (2 : Int32).toNatClampNeg 0) (3 : Int32).toNatClampNeg 0))))] L κ g _ _ := hI
  refine lv_dup hx hb dX11_account_40 rfl ?_
  refine lv_iconst (v := 4) hx hb dX11_account_41 (by decide) ?_
  refine lv_aload_n hx hb dX11_account_42 rfl (lv_at hl 1 rfl) ?_
  refine z_getX (i := 0) (j := 23) hM hI rfl hinX11 rfl (by decide) (by decide +kernel) (fun _ h9 => h9) rfl dX11_account_43 ?_
  refine z_lastE (i := 1) hM hI rfl (vp_in_c 4 6 (by decide)) dX11_account_46 (fun H locs hI => ?_)
  have hI : zI D tc _ s.heap [(pm, .inr (13, [.ref lc, .ref lt, .ref pv, .ref pg, .int 0, .int 4000, .int 0, .int 200, .int 5000, .int 600, .int 0, .int 0, .int 0, .int 0, .int 0, .int 0, .int 0, .int 0, .int 0, .long 0, .long 0, .long 0, .long 0, .long 0, .long 0, .int 0, .int 45])), (q1, .inl (tc 1, 6, .inr (.inl (vp_updL (vp_updL (vp_updL (vp_updL (vp_updL (fun _ => 0) (0 : Int32).toNatClampNeg 0) (1 : Int32).toNatClampNeg 0) (2 : Int32).toNatClampNeg 0) (3 : Int32).toNatClampNeg 0) (4 : Int32).toNatClampNeg 0))))] L κ g _ _ := hI
  refine lv_dup hx hb dX11_account_47 rfl ?_
  refine lv_iconst (v := 5) hx hb dX11_account_48 (by decide) ?_
  refine lv_aload_n hx hb dX11_account_49 rfl (lv_at hl 1 rfl) ?_
  refine z_getX (i := 0) (j := 24) hM hI rfl hinX11 rfl (by decide) (by decide +kernel) (fun _ h9 => h9) rfl dX11_account_50 ?_
  refine z_lastE (i := 1) hM hI rfl (vp_in_c 5 6 (by decide)) dX11_account_53 (fun H locs hI => ?_)
  have hI : zI D tc _ s.heap [(pm, .inr (13, [.ref lc, .ref lt, .ref pv, .ref pg, .int 0, .int 4000, .int 0, .int 200, .int 5000, .int 600, .int 0, .int 0, .int 0, .int 0, .int 0, .int 0, .int 0, .int 0, .int 0, .long 0, .long 0, .long 0, .long 0, .long 0, .long 0, .int 0, .int 45])), (q1, .inl (tc 1, 6, .inr (.inl (vp_updL (vp_updL (vp_updL (vp_updL (vp_updL (vp_updL (fun _ => 0) (0 : Int32).toNatClampNeg 0) (1 : Int32).toNatClampNeg 0) (2 : Int32).toNatClampNeg 0) (3 : Int32).toNatClampNeg 0) (4 : Int32).toNatClampNeg 0) (5 : Int32).toNatClampNeg 0))))] L κ g _ _ := hI
  refine lv_astore_n (lv' := [(3, .ref q1), (2, .int 4), (0, .ref pm), (1, .int 97)]) hx hb dX11_account_54 rfl hl (by decide) rfl (fun ls hl => ?_)
  refine lv_aload_n hx hb dX11_account_55 rfl (lv_at hl 2 rfl) ?_
  refine lv_iload_n hx hb dX11_account_56 rfl (lv_at hl 1 rfl) ?_
  refine lv_if_ge (tgt := 64) hx hb dX11_account_57 (by decide) (fun _ => ?_) (fun h9 => by first | exact absurd h9 (by decide) | exact absurd (by decide) h9)
  refine lv_iconst (v := 0) hx hb dX11_account_64 (by decide) ?_
  refine z_ciX (Xc := ([(pm, .inr (13, [.ref lc, .ref lt, .ref pv, .ref pg, .int 0, .int 4000, .int 0, .int 200, .int 5000, .int 600, .int 0, .int 0, .int 0, .int 0, .int 0, .int 0, .int 0, .int 0, .int 0, .long 0, .long 0, .long 0, .long 0, .long 0, .long 0, .int 0, .int 45]))] : va_W)) (wr := ([(q1, .inl (tc 1, 6, .inr (.inl (vp_updL (vp_updL (vp_updL (vp_updL (vp_updL (vp_updL (fun _ => 0) (0 : Int32).toNatClampNeg 0) (1 : Int32).toNatClampNeg 0) (2 : Int32).toNatClampNeg 0) (3 : Int32).toNatClampNeg 0) (4 : Int32).toNatClampNeg 0) (5 : Int32).toNatClampNeg 0))))] : va_W)) (rx := ([(pm, .inr (13, [.ref lc, .ref lt, .ref pv, .ref pg, .int 0, .int 4000, .int 0, .int 200, .int 5000, .int 600, .int 0, .int 0, .int 0, .int 0, .int 0, .int 0, .int 0, .int 0, .int 0, .long 0, .long 0, .long 0, .long 0, .long 0, .long 0, .int 0, .int 45]))] : va_W)) [0] [1] rfl rfl rfl rfl (by decide) hI (va_runV (As := [.int 0]) (rest := []) ⟨hx, hb, hml, hown, hts⟩ (x_X11_fails_0 l D tc z0 _ κ g _ pm lc lt pv pg ) (cwV 1 hts gX11_account_X11_fails rfl rfl rfl (by decide +kernel) ⟨Nat.le_of_ble_eq_true rfl, Nat.le_of_ble_eq_true rfl⟩) (z_preV (Xc := ([(pm, .inr (13, [.ref lc, .ref lt, .ref pv, .ref pg, .int 0, .int 4000, .int 0, .int 200, .int 5000, .int 600, .int 0, .int 0, .int 0, .int 0, .int 0, .int 0, .int 0, .int 0, .int 0, .long 0, .long 0, .long 0, .long 0, .long 0, .long 0, .int 0, .int 45]))] : va_W)) hK hE hI [0] rfl rfl (z_recvX hK hI (i := 0) rfl rfl)) rfl rfl hl.1 rfl (lv_room (Nat.le_of_ble_eq_true rfl)) dX11_account_65 ⟨Nat.le_of_ble_eq_true rfl, Nat.le_of_ble_eq_true rfl⟩) (fun v2 u H locs hw hI => ?_)
  obtain ⟨rfl, rfl⟩ := hw
  have hI : zI D tc _ s.heap [(q1, .inl (tc 1, 6, .inr (.inl (vp_updL (vp_updL (vp_updL (vp_updL (vp_updL (vp_updL (fun _ => 0) (0 : Int32).toNatClampNeg 0) (1 : Int32).toNatClampNeg 0) (2 : Int32).toNatClampNeg 0) (3 : Int32).toNatClampNeg 0) (4 : Int32).toNatClampNeg 0) (5 : Int32).toNatClampNeg 0)))), (pm, .inr (13, [.ref lc, .ref lt, .ref pv, .ref pg, .int 0, .int 4000, .int 0, .int 200, .int 5000, .int 600, .int 0, .int 0, .int 0, .int 0, .int 0, .int 0, .int 0, .int 0, .int 0, .long 0, .long 0, .long 0, .long 0, .long 0, .long 0, .int 0, .int 45]))] L κ g _ _ := hI
  refine lv_if_eq (tgt := 75) hx hb dX11_account_68 (by decide) (fun _ => ?_) (fun h9 => by first | exact absurd h9 (by decide) | exact absurd (by decide) h9)
  refine lv_aload_n hx hb dX11_account_75 rfl (lv_at hl 0 rfl) ?_
  refine lv_iload_n hx hb dX11_account_76 rfl (lv_at hl 1 rfl) ?_
  refine z_laldE (i := 0) (v := 0) hM hI rfl (vp_in_c 4 6 (by decide)) (by first | rfl | decide +kernel) dX11_account_77 ?_
  have hI := z_part (X' := ([(pm, .inr (13, [.ref lc, .ref lt, .ref pv, .ref pg, .int 0, .int 4000, .int 0, .int 200, .int 5000, .int 600, .int 0, .int 0, .int 0, .int 0, .int 0, .int 0, .int 0, .int 0, .int 0, .long 0, .long 0, .long 0, .long 0, .long 0, .long 0, .int 0, .int 45]))] : va_W)) [1] rfl rfl hI
  exact W.lret (v := 0) hx hb hr (fun t ht hW => ⟨⟨_, (L, κ, g), rfl, ⟨rfl, rfl⟩, z_end hK hI ht hW⟩, z_F hI ht⟩) (z_locs hI) dX11_account_78

set_option maxHeartbeats 4000000 in
set_option maxRecDepth 100000 in
theorem x_X11_account_116 (l : Launch) (D : va_G) (tc : Nat → ClassId) (z0 : Nat) (L : List Nat) (κ : Nat → Nat) (g : Nat → Nat → Value) (sz : Nat) (pm : Nat) (lc : Nat) (lt : Nat) (pv : Nat) (pg : Nat)  : Met l yX11_account wsX11_account ({ frames := 4, cells := 1, slots := 6, locals := 91 }) (zPc D tc z0 [.ref pm, .int 116] ([(pm, .inr (13, [.ref lc, .ref lt, .ref pv, .ref pg, .int 0, .int 4000, .int 0, .int 200, .int 5000, .int 600, .int 0, .int 0, .int 0, .int 0, .int 0, .int 0, .int 0, .int 0, .int 0, .long 0, .long 0, .long 0, .long 0, .long 0, .long 0, .int 0, .int 45]))] : va_W) (L, κ, g) sz) (va_Ql (fun (r : Int64) (u : (zS)) => r = 0 ∧ u = (L, κ, g)) (fun (u : (zS)) (t : State) => zB D tc (zA ([(pm, .inr (13, [.ref lc, .ref lt, .ref pv, .ref pg, .int 0, .int 4000, .int 0, .int 200, .int 5000, .int 600, .int 0, .int 0, .int 0, .int 0, .int 0, .int 0, .int 0, .int 0, .int 0, .long 0, .long 0, .long 0, .long 0, .long 0, .long 0, .int 0, .int 45]))] : va_W) L sz) ([(pm, .inr (13, [.ref lc, .ref lt, .ref pv, .ref pg, .int 0, .int 4000, .int 0, .int 200, .int 5000, .int 600, .int 0, .int 0, .int 0, .int 0, .int 0, .int 0, .int 0, .int 0, .int 0, .long 0, .long 0, .long 0, .long 0, .long 0, .long 0, .int 0, .int 45]))] : va_W) u t) (zA ([(pm, .inr (13, [.ref lc, .ref lt, .ref pv, .ref pg, .int 0, .int 4000, .int 0, .int 200, .int 5000, .int 600, .int 0, .int 0, .int 0, .int 0, .int 0, .int 0, .int 0, .int 0, .int 0, .long 0, .long 0, .long 0, .long 0, .long 0, .long 0, .int 0, .int 45]))] : va_W) L sz)) 1 6 (zA ([(pm, .inr (13, [.ref lc, .ref lt, .ref pv, .ref pg, .int 0, .int 4000, .int 0, .int 200, .int 5000, .int 600, .int 0, .int 0, .int 0, .int 0, .int 0, .int 0, .int 0, .int 0, .int 0, .long 0, .long 0, .long 0, .long 0, .long 0, .long 0, .int 0, .int 45]))] : va_W) L sz) := by
  refine Met.ofW (cc := cX11_account) (maxL := 4) (ret := (some .long)) (by decide) rfl ?_
  intro p e9 s m args below meth c s₁ B hml hv
  obtain ⟨rfl, rfl, hK, hE, hI⟩ := hv.opn
  have hx := B.exec
  have hb := B.bytes
  have hr := B.returns
  have hts := atoms_spec (ws := wsX11_account) B.pre
  have hown : s.vm.findClass RX11 = some m.cls := findClass_of_methodNamed B.named
  have hlocks := B.notSynchronized
  have hM : zM p s m c cX11_account _ wsX11_account RX11 D tc := ⟨hx, hb, hts, hown, hK⟩
  have hinX11 : ∀ w ∈ wsX110, w ∈ wsX11_account := by decide +kernel
  have hl := lv_entry ([.ref pm, .int 116]) (n := 4) (Nat.le_of_ble_eq_true rfl)
  rw [lg_entry_eq]
  generalize (lg_sl ([.ref pm, .int 116]) ++ List.replicate (4 - (lg_sl ([.ref pm, .int 116])).length) Slot.unset).toArray = ls at hl ⊢
  have hl : lv_has ls 4 [(0, .ref pm), (1, .int 116)] := hl
  obtain ⟨adK, adV, hst9, hR0, hR1⟩ := hE.st
  refine z_ldcwS hx hb hown hR1 dX11_account_0 ?_
  refine lv_iload_n hx hb dX11_account_3 rfl (lv_at hl 1 rfl) ?_
  refine vp_callSi (W.runV (As := [.int 116]) (rest := []) ⟨hx, hb, hml, hown, hts⟩ (c_J0_indexOf_0f7a4 l adK adV _ 1 (by decide) 116) (cwV 1 hts gX11_account_J0_indexOf_0f7a4 rfl rfl rfl (by decide +kernel) ⟨Nat.le_of_ble_eq_true rfl, Nat.le_of_ble_eq_true rfl⟩) (z_preVS hst9 hI.2.1 (vk_recv hst9.1 (by decide) hI.2.1)) rfl rfl hl.1 rfl (lv_room (Nat.le_of_ble_eq_true rfl)) dX11_account_4 ⟨Nat.le_of_ble_eq_true rfl, Nat.le_of_ble_eq_true rfl⟩) (fun v9 hw9 => ?_)
  obtain rfl : v9 = 5 := (z_ix9 (k := 5) hw9 (by decide) (by decide) (by decide)).trans (by decide)
  refine lv_istore_n (lv' := [(2, .int 5), (0, .ref pm), (1, .int 116)]) hx hb dX11_account_7 rfl hl (by decide) rfl (fun ls hl => ?_)
  refine lv_bipush (v := 6) hx hb dX11_account_8 (by decide) ?_
  refine z_newa (ty := .long) (ti := 1) (n := 6) hM hI (by decide +kernel) rfl rfl (by intro C h; cases h) (6, .inr (.inl (fun _ => 0))) (fun cA => rfl) (by decide) (by decide) (by decide) (Nat.le_of_ble_eq_true rfl) (Nat.le_of_ble_eq_true rfl) dX11_account_10 (fun q1 H hI => ?_)
  have hI : zI D tc _ s.heap [(pm, .inr (13, [.ref lc, .ref lt, .ref pv, .ref pg, .int 0, .int 4000, .int 0, .int 200, .int 5000, .int 600, .int 0, .int 0, .int 0, .int 0, .int 0, .int 0, .int 0, .int 0, .int 0, .long 0, .long 0, .long 0, .long 0, .long 0, .long 0, .int 0, .int 45])), (q1, .inl (tc 1, 6, .inr (.inl (fun _ => 0))))] L κ g _ _ := hI
  refine lv_dup hx hb dX11_account_12 rfl ?_
  refine lv_iconst (v := 0) hx hb dX11_account_13 (by decide) ?_
  refine lv_aload_n hx hb dX11_account_14 rfl (lv_at hl 1 rfl) ?_
  refine z_getX (i := 0) (j := 19) hM hI rfl hinX11 rfl (by decide) (by decide +kernel) (fun _ h9 => h9) rfl dX11_account_15 ?_
  refine z_lastE (i := 1) hM hI rfl (vp_in_c 0 6 (by decide)) dX11_account_18 (fun H locs hI => ?_)
  have hI : zI D tc _ s.heap [(pm, .inr (13, [.ref lc, .ref lt, .ref pv, .ref pg, .int 0, .int 4000, .int 0, .int 200, .int 5000, .int 600, .int 0, .int 0, .int 0, .int 0, .int 0, .int 0, .int 0, .int 0, .int 0, .long 0, .long 0, .long 0, .long 0, .long 0, .long 0, .int 0, .int 45])), (q1, .inl (tc 1, 6, .inr (.inl (vp_updL (fun _ => 0) (0 : Int32).toNatClampNeg 0))))] L κ g _ _ := hI
  refine lv_dup hx hb dX11_account_19 rfl ?_
  refine lv_iconst (v := 1) hx hb dX11_account_20 (by decide) ?_
  refine lv_aload_n hx hb dX11_account_21 rfl (lv_at hl 1 rfl) ?_
  refine z_getX (i := 0) (j := 20) hM hI rfl hinX11 rfl (by decide) (by decide +kernel) (fun _ h9 => h9) rfl dX11_account_22 ?_
  refine z_lastE (i := 1) hM hI rfl (vp_in_c 1 6 (by decide)) dX11_account_25 (fun H locs hI => ?_)
  have hI : zI D tc _ s.heap [(pm, .inr (13, [.ref lc, .ref lt, .ref pv, .ref pg, .int 0, .int 4000, .int 0, .int 200, .int 5000, .int 600, .int 0, .int 0, .int 0, .int 0, .int 0, .int 0, .int 0, .int 0, .int 0, .long 0, .long 0, .long 0, .long 0, .long 0, .long 0, .int 0, .int 45])), (q1, .inl (tc 1, 6, .inr (.inl (vp_updL (vp_updL (fun _ => 0) (0 : Int32).toNatClampNeg 0) (1 : Int32).toNatClampNeg 0))))] L κ g _ _ := hI
  refine lv_dup hx hb dX11_account_26 rfl ?_
  refine lv_iconst (v := 2) hx hb dX11_account_27 (by decide) ?_
  refine lv_aload_n hx hb dX11_account_28 rfl (lv_at hl 1 rfl) ?_
  refine z_getX (i := 0) (j := 21) hM hI rfl hinX11 rfl (by decide) (by decide +kernel) (fun _ h9 => h9) rfl dX11_account_29 ?_
  refine z_lastE (i := 1) hM hI rfl (vp_in_c 2 6 (by decide)) dX11_account_32 (fun H locs hI => ?_)
  have hI : zI D tc _ s.heap [(pm, .inr (13, [.ref lc, .ref lt, .ref pv, .ref pg, .int 0, .int 4000, .int 0, .int 200, .int 5000, .int 600, .int 0, .int 0, .int 0, .int 0, .int 0, .int 0, .int 0, .int 0, .int 0, .long 0, .long 0, .long 0, .long 0, .long 0, .long 0, .int 0, .int 45])), (q1, .inl (tc 1, 6, .inr (.inl (vp_updL (vp_updL (vp_updL (fun _ => 0) (0 : Int32).toNatClampNeg 0) (1 : Int32).toNatClampNeg 0) (2 : Int32).toNatClampNeg 0))))] L κ g _ _ := hI
  refine lv_dup hx hb dX11_account_33 rfl ?_
  refine lv_iconst (v := 3) hx hb dX11_account_34 (by decide) ?_
  refine lv_aload_n hx hb dX11_account_35 rfl (lv_at hl 1 rfl) ?_
  refine z_getX (i := 0) (j := 22) hM hI rfl hinX11 rfl (by decide) (by decide +kernel) (fun _ h9 => h9) rfl dX11_account_36 ?_
  refine z_lastE (i := 1) hM hI rfl (vp_in_c 3 6 (by decide)) dX11_account_39 (fun H locs hI => ?_)
  have hI : zI D tc _ s.heap [(pm, .inr (13, [.ref lc, .ref lt, .ref pv, .ref pg, .int 0, .int 4000, .int 0, .int 200, .int 5000, .int 600, .int 0, .int 0, .int 0, .int 0, .int 0, .int 0, .int 0, .int 0, .int 0, .long 0, .long 0, .long 0, .long 0, .long 0, .long 0, .int 0, .int 45])), (q1, .inl (tc 1, 6, .inr (.inl (vp_updL (vp_updL (vp_updL (vp_updL (fun _ => 0) (0 : Int32).toNatClampNeg 0) (1 : Int32).toNatClampNeg 0) (2 : Int32).toNatClampNeg 0) (3 : Int32).toNatClampNeg 0))))] L κ g _ _ := hI
  refine lv_dup hx hb dX11_account_40 rfl ?_
  refine lv_iconst (v := 4) hx hb dX11_account_41 (by decide) ?_
  refine lv_aload_n hx hb dX11_account_42 rfl (lv_at hl 1 rfl) ?_
  refine z_getX (i := 0) (j := 23) hM hI rfl hinX11 rfl (by decide) (by decide +kernel) (fun _ h9 => h9) rfl dX11_account_43 ?_
  refine z_lastE (i := 1) hM hI rfl (vp_in_c 4 6 (by decide)) dX11_account_46 (fun H locs hI => ?_)
  have hI : zI D tc _ s.heap [(pm, .inr (13, [.ref lc, .ref lt, .ref pv, .ref pg, .int 0, .int 4000, .int 0, .int 200, .int 5000, .int 600, .int 0, .int 0, .int 0, .int 0, .int 0, .int 0, .int 0, .int 0, .int 0, .long 0, .long 0, .long 0, .long 0, .long 0, .long 0, .int 0, .int 45])), (q1, .inl (tc 1, 6, .inr (.inl (vp_updL (vp_updL (vp_updL (vp_updL (vp_updL (fun _ => 0) (0 : Int32).toNatClampNeg 0) (1 : Int32).toNatClampNeg 0) (2 : Int32).toNatClampNeg 0) (3 : Int32).toNatClampNeg 0) (4 : Int32).toNatClampNeg 0))))] L κ g _ _ := hI
  refine lv_dup hx hb dX11_account_47 rfl ?_
  refine lv_iconst (v := 5) hx hb dX11_account_48 (by decide) ?_
  refine lv_aload_n hx hb dX11_account_49 rfl (lv_at hl 1 rfl) ?_
  refine z_getX (i := 0) (j := 24) hM hI rfl hinX11 rfl (by decide) (by decide +kernel) (fun _ h9 => h9) rfl dX11_account_50 ?_
  refine z_lastE (i := 1) hM hI rfl (vp_in_c 5 6 (by decide)) dX11_account_53 (fun H locs hI => ?_)
  have hI : zI D tc _ s.heap [(pm, .inr (13, [.ref lc, .ref lt, .ref pv, .ref pg, .int 0, .int 4000, .int 0, .int 200, .int 5000, .int 600, .int 0, .int 0, .int 0, .int 0, .int 0, .int 0, .int 0, .int 0, .int 0, .long 0, .long 0, .long 0, .long 0, .long 0, .long 0, .int 0, .int 45])), (q1, .inl (tc 1, 6, .inr (.inl (vp_updL (vp_updL (vp_updL (vp_updL (vp_updL (vp_updL (fun _ => 0) (0 : Int32).toNatClampNeg 0) (1 : Int32).toNatClampNeg 0) (2 : Int32).toNatClampNeg 0) (3 : Int32).toNatClampNeg 0) (4 : Int32).toNatClampNeg 0) (5 : Int32).toNatClampNeg 0))))] L κ g _ _ := hI
  refine lv_astore_n (lv' := [(3, .ref q1), (2, .int 5), (0, .ref pm), (1, .int 116)]) hx hb dX11_account_54 rfl hl (by decide) rfl (fun ls hl => ?_)
  refine lv_aload_n hx hb dX11_account_55 rfl (lv_at hl 2 rfl) ?_
  refine lv_iload_n hx hb dX11_account_56 rfl (lv_at hl 1 rfl) ?_
  refine lv_if_ge (tgt := 64) hx hb dX11_account_57 (by decide) (fun _ => ?_) (fun h9 => by first | exact absurd h9 (by decide) | exact absurd (by decide) h9)
  refine lv_iconst (v := 0) hx hb dX11_account_64 (by decide) ?_
  refine z_ciX (Xc := ([(pm, .inr (13, [.ref lc, .ref lt, .ref pv, .ref pg, .int 0, .int 4000, .int 0, .int 200, .int 5000, .int 600, .int 0, .int 0, .int 0, .int 0, .int 0, .int 0, .int 0, .int 0, .int 0, .long 0, .long 0, .long 0, .long 0, .long 0, .long 0, .int 0, .int 45]))] : va_W)) (wr := ([(q1, .inl (tc 1, 6, .inr (.inl (vp_updL (vp_updL (vp_updL (vp_updL (vp_updL (vp_updL (fun _ => 0) (0 : Int32).toNatClampNeg 0) (1 : Int32).toNatClampNeg 0) (2 : Int32).toNatClampNeg 0) (3 : Int32).toNatClampNeg 0) (4 : Int32).toNatClampNeg 0) (5 : Int32).toNatClampNeg 0))))] : va_W)) (rx := ([(pm, .inr (13, [.ref lc, .ref lt, .ref pv, .ref pg, .int 0, .int 4000, .int 0, .int 200, .int 5000, .int 600, .int 0, .int 0, .int 0, .int 0, .int 0, .int 0, .int 0, .int 0, .int 0, .long 0, .long 0, .long 0, .long 0, .long 0, .long 0, .int 0, .int 45]))] : va_W)) [0] [1] rfl rfl rfl rfl (by decide) hI (va_runV (As := [.int 0]) (rest := []) ⟨hx, hb, hml, hown, hts⟩ (x_X11_fails_0 l D tc z0 _ κ g _ pm lc lt pv pg ) (cwV 1 hts gX11_account_X11_fails rfl rfl rfl (by decide +kernel) ⟨Nat.le_of_ble_eq_true rfl, Nat.le_of_ble_eq_true rfl⟩) (z_preV (Xc := ([(pm, .inr (13, [.ref lc, .ref lt, .ref pv, .ref pg, .int 0, .int 4000, .int 0, .int 200, .int 5000, .int 600, .int 0, .int 0, .int 0, .int 0, .int 0, .int 0, .int 0, .int 0, .int 0, .long 0, .long 0, .long 0, .long 0, .long 0, .long 0, .int 0, .int 45]))] : va_W)) hK hE hI [0] rfl rfl (z_recvX hK hI (i := 0) rfl rfl)) rfl rfl hl.1 rfl (lv_room (Nat.le_of_ble_eq_true rfl)) dX11_account_65 ⟨Nat.le_of_ble_eq_true rfl, Nat.le_of_ble_eq_true rfl⟩) (fun v2 u H locs hw hI => ?_)
  obtain ⟨rfl, rfl⟩ := hw
  have hI : zI D tc _ s.heap [(q1, .inl (tc 1, 6, .inr (.inl (vp_updL (vp_updL (vp_updL (vp_updL (vp_updL (vp_updL (fun _ => 0) (0 : Int32).toNatClampNeg 0) (1 : Int32).toNatClampNeg 0) (2 : Int32).toNatClampNeg 0) (3 : Int32).toNatClampNeg 0) (4 : Int32).toNatClampNeg 0) (5 : Int32).toNatClampNeg 0)))), (pm, .inr (13, [.ref lc, .ref lt, .ref pv, .ref pg, .int 0, .int 4000, .int 0, .int 200, .int 5000, .int 600, .int 0, .int 0, .int 0, .int 0, .int 0, .int 0, .int 0, .int 0, .int 0, .long 0, .long 0, .long 0, .long 0, .long 0, .long 0, .int 0, .int 45]))] L κ g _ _ := hI
  refine lv_if_eq (tgt := 75) hx hb dX11_account_68 (by decide) (fun _ => ?_) (fun h9 => by first | exact absurd h9 (by decide) | exact absurd (by decide) h9)
  refine lv_aload_n hx hb dX11_account_75 rfl (lv_at hl 0 rfl) ?_
  refine lv_iload_n hx hb dX11_account_76 rfl (lv_at hl 1 rfl) ?_
  refine z_laldE (i := 0) (v := 0) hM hI rfl (vp_in_c 5 6 (by decide)) (by first | rfl | decide +kernel) dX11_account_77 ?_
  have hI := z_part (X' := ([(pm, .inr (13, [.ref lc, .ref lt, .ref pv, .ref pg, .int 0, .int 4000, .int 0, .int 200, .int 5000, .int 600, .int 0, .int 0, .int 0, .int 0, .int 0, .int 0, .int 0, .int 0, .int 0, .long 0, .long 0, .long 0, .long 0, .long 0, .long 0, .int 0, .int 45]))] : va_W)) [1] rfl rfl hI
  exact W.lret (v := 0) hx hb hr (fun t ht hW => ⟨⟨_, (L, κ, g), rfl, ⟨rfl, rfl⟩, z_end hK hI ht hW⟩, z_F hI ht⟩) (z_locs hI) dX11_account_78

set_option maxHeartbeats 4000000 in
set_option maxRecDepth 100000 in
theorem x_X11_checksum (l : Launch) (D : va_G) (tc : Nat → ClassId) (z0 : Nat) (L : List Nat) (κ : Nat → Nat) (g : Nat → Nat → Value) (sz : Nat) (pm : Nat) (lc : Nat) (lt : Nat) (pv : Nat) (pg : Nat) (hLC : zLi κ g z0 lc 1 z0 25 11 0 0 (fun _ => 0)) (hLT : zLi κ g z0 lt 14 z0 26 12 0 0 (fun _ => 0)) : Met l yX11_checksum wsX11_checksum ({ frames := 3, cells := 2, slots := 8, locals := 61 }) (zPc D tc z0 [.ref pm] ([(pm, .inr (13, [.ref lc, .ref lt, .ref pv, .ref pg, .int 0, .int 4000, .int 0, .int 200, .int 5000, .int 600, .int 0, .int 0, .int 0, .int 0, .int 0, .int 0, .int 0, .int 0, .int 0, .long 0, .long 0, .long 0, .long 0, .long 0, .long 0, .int 0, .int 45]))] : va_W) (L, κ, g) sz) (va_Ql (fun (r : Int64) (u : (zS)) => r = 135727 ∧ u = (L, κ, g)) (fun (u : (zS)) (t : State) => zB D tc (zA ([(pm, .inr (13, [.ref lc, .ref lt, .ref pv, .ref pg, .int 0, .int 4000, .int 0, .int 200, .int 5000, .int 600, .int 0, .int 0, .int 0, .int 0, .int 0, .int 0, .int 0, .int 0, .int 0, .long 0, .long 0, .long 0, .long 0, .long 0, .long 0, .int 0, .int 45]))] : va_W) L sz) ([(pm, .inr (13, [.ref lc, .ref lt, .ref pv, .ref pg, .int 0, .int 4000, .int 0, .int 200, .int 5000, .int 600, .int 0, .int 0, .int 0, .int 0, .int 0, .int 0, .int 0, .int 0, .int 0, .long 0, .long 0, .long 0, .long 0, .long 0, .long 0, .int 0, .int 45]))] : va_W) u t) (zA ([(pm, .inr (13, [.ref lc, .ref lt, .ref pv, .ref pg, .int 0, .int 4000, .int 0, .int 200, .int 5000, .int 600, .int 0, .int 0, .int 0, .int 0, .int 0, .int 0, .int 0, .int 0, .int 0, .long 0, .long 0, .long 0, .long 0, .long 0, .long 0, .int 0, .int 45]))] : va_W) L sz)) 2 8 (zA ([(pm, .inr (13, [.ref lc, .ref lt, .ref pv, .ref pg, .int 0, .int 4000, .int 0, .int 200, .int 5000, .int 600, .int 0, .int 0, .int 0, .int 0, .int 0, .int 0, .int 0, .int 0, .int 0, .long 0, .long 0, .long 0, .long 0, .long 0, .long 0, .int 0, .int 45]))] : va_W) L sz) := by
  refine Met.ofW (cc := cX11_checksum) (maxL := 5) (ret := (some .long)) (by decide) rfl ?_
  intro p e9 s m args below meth c s₁ B hml hv
  obtain ⟨rfl, rfl, hK, hE, hI⟩ := hv.opn
  have hx := B.exec
  have hb := B.bytes
  have hr := B.returns
  have hts := atoms_spec (ws := wsX11_checksum) B.pre
  have hown : s.vm.findClass RX11 = some m.cls := findClass_of_methodNamed B.named
  have hlocks := B.notSynchronized
  have hM : zM p s m c cX11_checksum _ wsX11_checksum RX11 D tc := ⟨hx, hb, hts, hown, hK⟩
  have hinX11 : ∀ w ∈ wsX110, w ∈ wsX11_checksum := by decide +kernel
  have hl := lv_entry ([.ref pm]) (n := 5) (Nat.le_of_ble_eq_true rfl)
  rw [lg_entry_eq]
  generalize (lg_sl ([.ref pm]) ++ List.replicate (5 - (lg_sl ([.ref pm])).length) Slot.unset).toArray = ls at hl ⊢
  have hl : lv_has ls 5 [(0, .ref pm)] := hl
  refine lv_aload_n hx hb dX11_checksum_0 rfl (lv_at hl 0 rfl) ?_
  refine lv_iconst (v := 0) hx hb dX11_checksum_1 (by decide) ?_
  refine z_putX (i := 0) (j := 12) hM hI rfl hinX11 tyX11 tyX11_ok nmX11 rfl (by decide) (by decide +kernel) (fun _ h9 => h9) rfl rfl rfl rfl (Nat.le_of_ble_eq_true rfl) dX11_checksum_2 (fun H locs hI => ?_)
  have hI : zI D tc _ s.heap [(pm, .inr (13, [.ref lc, .ref lt, .ref pv, .ref pg, .int 0, .int 4000, .int 0, .int 200, .int 5000, .int 600, .int 0, .int 0, .int 0, .int 0, .int 0, .int 0, .int 0, .int 0, .int 0, .long 0, .long 0, .long 0, .long 0, .long 0, .long 0, .int 0, .int 45]))] L κ g _ _ := hI
  refine lv_ldc2 (v := 7) hx hb hown (hts (.constantLong RX11 291 (7)) (by decide +kernel)) dX11_checksum_5 ?_
  refine lv_lstore_n (lv' := [(1, .long 7), (0, .ref pm)]) hx hb dX11_checksum_8 rfl hl (by decide) rfl (fun ls hl => ?_)
  refine lv_aload_n hx hb dX11_checksum_9 rfl (lv_at hl 1 rfl) ?_
  refine z_getX (i := 0) (j := 0) hM hI rfl hinX11 rfl (by decide) (by decide +kernel) (fun _ h9 => h9) rfl dX11_checksum_10 ?_
  refine z_qFX (sel := fun u : Nat × zS => u.2) (rxf := fun u : Nat × zS => [(u.1, .inr (0, [.int (nI 0), .int (-1), .int 0, .ref lc]))]) (Xc := []) (wr := ([(pm, .inr (13, [.ref lc, .ref lt, .ref pv, .ref pg, .int 0, .int 4000, .int 0, .int 200, .int 5000, .int 600, .int 0, .int 0, .int 0, .int 0, .int 0, .int 0, .int 0, .int 0, .int 0, .long 0, .long 0, .long 0, .long 0, .long 0, .long 0, .int 0, .int 45]))] : va_W)) [] [0] rfl rfl rfl rfl (by decide) hI (va_runF (As := []) (rest := []) (hK.1 1 _ rfl).2 ⟨hx, hb, hml, hown, hts⟩ (c_Jx4a65c_iterator_32c93 l D tc z0 _ κ g _ lc 1 z0 25 11 0 0 (fun _ => 0) rfl hLC) (va_cwF 0 hts gX11_checksum_Jx4a65c_iterator_32c93_f56Jx4a65c rfl rfl rfl (hE.2.2.1 (RJx4a65c, ⟨"java/util/List", "iterator", "()Ljava/util/Iterator;"⟩, yJx4a65c_iterator_32c93) (by decide +kernel)) (by decide +kernel) ⟨Nat.le_of_ble_eq_true rfl, Nat.le_of_ble_eq_true rfl⟩) (z_preV (Xc := []) hK hE hI [] rfl rfl (z_recv hK hI hLC.1 rfl rfl)) rfl rfl hl.1 rfl (lv_room (Nat.le_of_ble_eq_true rfl)) dX11_checksum_13 ⟨Nat.le_of_ble_eq_true rfl, Nat.le_of_ble_eq_true rfl⟩) (fun _ u H locs hw hI => ?_)
  obtain ⟨q1, u⟩ := u
  obtain ⟨rfl, hw⟩ := hw
  dsimp only at hw hI
  subst hw
  have hI : zI D tc _ s.heap [(pm, .inr (13, [.ref lc, .ref lt, .ref pv, .ref pg, .int 0, .int 4000, .int 0, .int 200, .int 5000, .int 600, .int 0, .int 0, .int 0, .int 0, .int 0, .int 0, .int 0, .int 0, .int 0, .long 0, .long 0, .long 0, .long 0, .long 0, .long 0, .int 0, .int 45])), (q1, .inr (0, [.int (nI 0), .int (-1), .int 0, .ref lc]))] L κ g _ _ := hI
  show W p l e9 _ s m _ below meth c _ _ _ _ _ (F0 m 18 ls (.ref q1 :: []))
  refine lv_astore_n (lv' := [(3, .ref q1), (1, .long 7), (0, .ref pm)]) hx hb dX11_checksum_18 rfl hl (by decide) rfl (fun ls hl => ?_)
  refine lv_aload_n hx hb dX11_checksum_19 rfl (lv_at hl 0 rfl) ?_
  refine va_csFi (va_runF (As := []) (rest := []) (hK.1 0 _ rfl).2 ⟨hx, hb, hml, hown, hts⟩ (c_Jx35411_hasNext_aae02 l D tc z0 _ κ g _ lc 1 z0 25 11 0 0 (fun _ => 0) rfl hLC q1 0 (-1) (by omega)) (va_cwF 0 hts gX11_checksum_Jx35411_hasNext_aae02_f60Jx35411 rfl rfl rfl (hE.2.2.1 (RJx35411, ⟨"java/util/Iterator", "hasNext", "()Z"⟩, yJx35411_hasNext_aae02) (by decide +kernel)) (by decide +kernel) ⟨Nat.le_of_ble_eq_true rfl, Nat.le_of_ble_eq_true rfl⟩) (z_preV (Xc := [(q1, .inr (0, [.int (nI 0), .int (-1), .int 0, .ref lc]))]) hK hE hI [1] rfl rfl (z_recvX hK hI (i := 1) rfl rfl)) rfl rfl hl.1 rfl (lv_room (Nat.le_of_ble_eq_true rfl)) dX11_checksum_20 ⟨Nat.le_of_ble_eq_true rfl, Nat.le_of_ble_eq_true rfl⟩) (fun v9 hw9 => ?_)
  rcases hw9 with ⟨rfl, hlt⟩ | ⟨rfl, -⟩
  · exact absurd hlt (Nat.not_lt_zero _)
  refine lv_if_eq (tgt := 66) hx hb dX11_checksum_25 (by decide) (fun _ => ?_) (fun h9 => by first | exact absurd h9 (by decide) | exact absurd (by decide) h9)
  refine lv_aload_n hx hb dX11_checksum_66 rfl (lv_at hl 2 rfl) ?_
  refine z_getX (i := 0) (j := 1) hM hI rfl hinX11 rfl (by decide) (by decide +kernel) (fun _ h9 => h9) rfl dX11_checksum_67 ?_
  refine z_qFX (sel := fun u : Nat × zS => u.2) (rxf := fun u : Nat × zS => [(u.1, .inr (0, [.int (nI 0), .int (-1), .int 0, .ref lt]))]) (Xc := []) (wr := ([(pm, .inr (13, [.ref lc, .ref lt, .ref pv, .ref pg, .int 0, .int 4000, .int 0, .int 200, .int 5000, .int 600, .int 0, .int 0, .int 0, .int 0, .int 0, .int 0, .int 0, .int 0, .int 0, .long 0, .long 0, .long 0, .long 0, .long 0, .long 0, .int 0, .int 45])), (q1, .inr (0, [.int (nI 0), .int (-1), .int 0, .ref lc]))] : va_W)) [] [0, 1] rfl rfl rfl rfl (by decide) hI (va_runF (As := []) (rest := []) (hK.1 1 _ rfl).2 ⟨hx, hb, hml, hown, hts⟩ (c_Jx4a65c_iterator_32c93 l D tc z0 _ κ g _ lt 14 z0 26 12 0 0 (fun _ => 0) rfl hLT) (va_cwF 0 hts gX11_checksum_Jx4a65c_iterator_32c93_f56Jx4a65c rfl rfl rfl (hE.2.2.1 (RJx4a65c, ⟨"java/util/List", "iterator", "()Ljava/util/Iterator;"⟩, yJx4a65c_iterator_32c93) (by decide +kernel)) (by decide +kernel) ⟨Nat.le_of_ble_eq_true rfl, Nat.le_of_ble_eq_true rfl⟩) (z_preV (Xc := []) hK hE hI [] rfl rfl (z_recv hK hI hLT.1 rfl rfl)) rfl rfl hl.1 rfl (lv_room (Nat.le_of_ble_eq_true rfl)) dX11_checksum_70 ⟨Nat.le_of_ble_eq_true rfl, Nat.le_of_ble_eq_true rfl⟩) (fun _ u H locs hw hI => ?_)
  obtain ⟨q2, u⟩ := u
  obtain ⟨rfl, hw⟩ := hw
  dsimp only at hw hI
  subst hw
  have hI : zI D tc _ s.heap [(pm, .inr (13, [.ref lc, .ref lt, .ref pv, .ref pg, .int 0, .int 4000, .int 0, .int 200, .int 5000, .int 600, .int 0, .int 0, .int 0, .int 0, .int 0, .int 0, .int 0, .int 0, .int 0, .long 0, .long 0, .long 0, .long 0, .long 0, .long 0, .int 0, .int 45])), (q1, .inr (0, [.int (nI 0), .int (-1), .int 0, .ref lc])), (q2, .inr (0, [.int (nI 0), .int (-1), .int 0, .ref lt]))] L κ g _ _ := hI
  show W p l e9 _ s m _ below meth c _ _ _ _ _ (F0 m 75 ls (.ref q2 :: []))
  refine lv_astore_n (lv' := [(3, .ref q2), (1, .long 7), (0, .ref pm)]) hx hb dX11_checksum_75 rfl hl (by decide) rfl (fun ls hl => ?_)
  refine lv_aload_n hx hb dX11_checksum_76 rfl (lv_at hl 0 rfl) ?_
  refine va_csFi (va_runF (As := []) (rest := []) (hK.1 0 _ rfl).2 ⟨hx, hb, hml, hown, hts⟩ (c_Jx35411_hasNext_aae02 l D tc z0 _ κ g _ lt 14 z0 26 12 0 0 (fun _ => 0) rfl hLT q2 0 (-1) (by omega)) (va_cwF 0 hts gX11_checksum_Jx35411_hasNext_aae02_f60Jx35411 rfl rfl rfl (hE.2.2.1 (RJx35411, ⟨"java/util/Iterator", "hasNext", "()Z"⟩, yJx35411_hasNext_aae02) (by decide +kernel)) (by decide +kernel) ⟨Nat.le_of_ble_eq_true rfl, Nat.le_of_ble_eq_true rfl⟩) (z_preV (Xc := [(q2, .inr (0, [.int (nI 0), .int (-1), .int 0, .ref lt]))]) hK hE hI [2] rfl rfl (z_recvX hK hI (i := 2) rfl rfl)) rfl rfl hl.1 rfl (lv_room (Nat.le_of_ble_eq_true rfl)) dX11_checksum_77 ⟨Nat.le_of_ble_eq_true rfl, Nat.le_of_ble_eq_true rfl⟩) (fun v9 hw9 => ?_)
  rcases hw9 with ⟨rfl, hlt⟩ | ⟨rfl, -⟩
  · exact absurd hlt (Nat.not_lt_zero _)
  refine lv_if_eq (tgt := 112) hx hb dX11_checksum_82 (by decide) (fun _ => ?_) (fun h9 => by first | exact absurd h9 (by decide) | exact absurd (by decide) h9)
  refine lv_ldc2 (v := 31) hx hb hown (hts (.constantLong RX11 293 (31)) (by decide +kernel)) dX11_checksum_112 ?_
  refine lv_ldc2 (v := 31) hx hb hown (hts (.constantLong RX11 293 (31)) (by decide +kernel)) dX11_checksum_115 ?_
  refine lv_lload_n hx hb dX11_checksum_118 rfl (lv_at hl 1 rfl) ?_
  refine lv_lmul hx hb dX11_checksum_119 ?_
  refine lv_topl (fun v3 e4 => ?_)
  obtain rfl : v3 = 217 := e4.trans (by decide +kernel)
  refine lv_aload_n hx hb dX11_checksum_120 rfl (lv_at hl 2 rfl) ?_
  refine z_getX (i := 0) (j := 5) hM hI rfl hinX11 rfl (by decide) (by decide +kernel) (fun _ h9 => h9) rfl dX11_checksum_121 ?_
  refine lv_i2l hx hb dX11_checksum_124 rfl ?_
  refine lv_topl (fun v5 e6 => ?_)
  obtain rfl : v5 = 4000 := e6.trans (by decide +kernel)
  refine lv_ladd hx hb dX11_checksum_125 ?_
  refine lv_topl (fun v7 e8 => ?_)
  obtain rfl : v7 = 4217 := e8.trans (by decide +kernel)
  refine lv_lmul hx hb dX11_checksum_126 ?_
  refine lv_topl (fun v9 e10 => ?_)
  obtain rfl : v9 = 130727 := e10.trans (by decide +kernel)
  refine lv_aload_n hx hb dX11_checksum_127 rfl (lv_at hl 2 rfl) ?_
  refine z_getX (i := 0) (j := 8) hM hI rfl hinX11 rfl (by decide) (by decide +kernel) (fun _ h9 => h9) rfl dX11_checksum_128 ?_
  refine lv_i2l hx hb dX11_checksum_131 rfl ?_
  refine lv_topl (fun v11 e12 => ?_)
  obtain rfl : v11 = 5000 := e12.trans (by decide +kernel)
  refine lv_ladd hx hb dX11_checksum_132 ?_
  refine lv_topl (fun v13 e14 => ?_)
  obtain rfl : v13 = 135727 := e14.trans (by decide +kernel)
  have hI := z_part (X' := ([(pm, .inr (13, [.ref lc, .ref lt, .ref pv, .ref pg, .int 0, .int 4000, .int 0, .int 200, .int 5000, .int 600, .int 0, .int 0, .int 0, .int 0, .int 0, .int 0, .int 0, .int 0, .int 0, .long 0, .long 0, .long 0, .long 0, .long 0, .long 0, .int 0, .int 45]))] : va_W)) [0] rfl rfl hI
  exact W.lret (v := 135727) hx hb hr (fun t ht hW => ⟨⟨_, (L, κ, g), rfl, ⟨rfl, rfl⟩, z_end hK hI ht hW⟩, z_F hI ht⟩) (z_locs hI) dX11_checksum_133
