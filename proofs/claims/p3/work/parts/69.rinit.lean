set_option maxHeartbeats 4000000 in
set_option maxRecDepth 100000 in
theorem c_Jxa1e45_init_da8c8 (l : Launch) (D : va_G) (tc : Nat → ClassId) (z0 : Nat) (L : List Nat) (κ : Nat → Nat) (g : Nat → Nat → Value) (sz : Nat) (q : Nat) : Met l yJxa1e45_init_da8c8 wsJxa1e45_init_da8c8 ({ frames := 1, cells := 0, slots := 0, locals := 20 }) (zPc D tc z0 [.ref q] ([(q, .inr (1, [.int 0, .null, .int 0]))] : va_W) (L, κ, g) sz) (va_Qv (fun (u : zS) => u = (L, κ, g)) (fun (u : zS) (t : State) => zB D tc (zA ([(q, .inr (1, [.int 0, .null, .int 0]))] : va_W) L sz) [(q, .inr (1, [.int 0, .null, .int 0]))] u t) (zA ([(q, .inr (1, [.int 0, .null, .int 0]))] : va_W) L sz)) 0 0 (zA ([(q, .inr (1, [.int 0, .null, .int 0]))] : va_W) L sz) := by
  refine Met.ofW (cc := cJxa1e45_init_da8c8) (maxL := 1) (ret := none) (by decide) rfl ?_
  intro p e9 s m args below meth c s₁ B hml hv
  obtain ⟨rfl, rfl, hK, hE, hI⟩ := hv.opn
  have hx := B.exec
  have hb := B.bytes
  have hr := B.returns
  have hts := atoms_spec (ws := wsJxa1e45_init_da8c8) B.pre
  have hown : s.vm.findClass RJxa1e45 = some m.cls := findClass_of_methodNamed B.named
  have hlocks := B.notSynchronized
  have hM : zM p s m c cJxa1e45_init_da8c8 _ wsJxa1e45_init_da8c8 RJxa1e45 D tc := ⟨hx, hb, hts, hown, hK⟩
  have hin2 : meth.name = "<init>" := (name_of_methodNamed B.named B.method).1
  have hl := lv_entry ([.ref q]) (n := 1) (Nat.le_of_ble_eq_true rfl)
  rw [lg_entry_eq]
  generalize (lg_sl ([.ref q]) ++ List.replicate (1 - (lg_sl ([.ref q])).length) Slot.unset).toArray = ls at hl ⊢
  have hl : lv_has ls 1 [(0, .ref q)] := hl
  refine lv_aload_n hx hb dJxa1e45_init_da8c8_0 rfl (lv_at hl 0 rfl) ?_
  refine W.objInit hx hb hown (hts (.methodLink RJxa1e45 1 objectInit) (by decide +kernel)) (hts (.instanceMethod objectInit) (by decide +kernel)) (hts (.code objectInit ⟨#[0xb1]⟩ 1 none) (by decide +kernel)) rfl (by rw [hml]; exact hl.1) rfl dJxa1e45_init_da8c8_1 (Nat.le_of_ble_eq_true rfl) (Nat.le_of_ble_eq_true rfl) ?_
  refine W.eq (g2 := F0 m 4 ls []) rfl ?_
  exact W.vret hx hb hr (fun t ht hW => ⟨⟨(L, κ, g), rfl, rfl, z_end hK hI ht hW⟩, z_F hI ht⟩) (z_locs hI) dJxa1e45_init_da8c8_4

set_option maxHeartbeats 4000000 in
set_option maxRecDepth 100000 in
theorem c_Jxc12de_init_da8c8 (l : Launch) (D : va_G) (tc : Nat → ClassId) (z0 : Nat) (L : List Nat) (κ : Nat → Nat) (g : Nat → Nat → Value) (sz : Nat) (q : Nat) : Met l yJxc12de_init_da8c8 wsJxc12de_init_da8c8 ({ frames := 2, cells := 0, slots := 0, locals := 40 }) (zPc D tc z0 [.ref q] ([(q, .inr (1, [.int 0, .null, .int 0]))] : va_W) (L, κ, g) sz) (va_Qv (fun (u : zS) => u = (L, κ, g)) (fun (u : zS) (t : State) => zB D tc (zA ([(q, .inr (1, [.int 0, .null, .int 0]))] : va_W) L sz) [(q, .inr (1, [.int 0, .null, .int 0]))] u t) (zA ([(q, .inr (1, [.int 0, .null, .int 0]))] : va_W) L sz)) 0 0 (zA ([(q, .inr (1, [.int 0, .null, .int 0]))] : va_W) L sz) := by
  refine Met.ofW (cc := cJxc12de_init_da8c8) (maxL := 1) (ret := none) (by decide) rfl ?_
  intro p e9 s m args below meth c s₁ B hml hv
  obtain ⟨rfl, rfl, hK, hE, hI⟩ := hv.opn
  have hx := B.exec
  have hb := B.bytes
  have hr := B.returns
  have hts := atoms_spec (ws := wsJxc12de_init_da8c8) B.pre
  have hown : s.vm.findClass RJxc12de = some m.cls := findClass_of_methodNamed B.named
  have hlocks := B.notSynchronized
  have hM : zM p s m c cJxc12de_init_da8c8 _ wsJxc12de_init_da8c8 RJxc12de D tc := ⟨hx, hb, hts, hown, hK⟩
  have hin2 : meth.name = "<init>" := (name_of_methodNamed B.named B.method).1
  have hl := lv_entry ([.ref q]) (n := 1) (Nat.le_of_ble_eq_true rfl)
  rw [lg_entry_eq]
  generalize (lg_sl ([.ref q]) ++ List.replicate (1 - (lg_sl ([.ref q])).length) Slot.unset).toArray = ls at hl ⊢
  have hl : lv_has ls 1 [(0, .ref q)] := hl
  have hin7 : ∀ w ∈ wsJx4a65c0, w ∈ wsJxc12de_init_da8c8 := by decide +kernel
  refine lv_aload_n hx hb dJxc12de_init_da8c8_0 rfl (lv_at hl 0 rfl) ?_
  refine z_cvX (Xc := [(q, .inr (1, [.int 0, .null, .int 0]))]) (wr := []) (rx := [(q, .inr (1, [.int 0, .null, .int 0]))]) [0] [] rfl rfl rfl rfl (by decide) hI (va_runI (As := []) (rest := []) ⟨hx, hb, hml, hown, hts⟩ (c_Jxa1e45_init_da8c8 l D tc z0 _ κ g _ q) (cwI 0 hts gJxc12de_init_da8c8_Jxa1e45_init_da8c8 rfl rfl rfl (hts (.initialized RJxa1e45) (by decide +kernel)) (hts (.methodLink RJxc12de 1 yJxa1e45_init_da8c8) (by decide +kernel)) (hts (.instanceMethod yJxa1e45_init_da8c8) (by decide +kernel)) rfl (by decide +kernel) ⟨Nat.le_of_ble_eq_true rfl, Nat.le_of_ble_eq_true rfl⟩) (z_pre (Xc := [(q, .inr (1, [.int 0, .null, .int 0]))]) hK hE hI [0] rfl rfl) rfl rfl hl.1 rfl (lv_room (Nat.le_of_ble_eq_true rfl)) dJxc12de_init_da8c8_1 ⟨Nat.le_of_ble_eq_true rfl, Nat.le_of_ble_eq_true rfl⟩) (fun u H locs hw hI => ?_)
  obtain rfl := hw
  have hI : zI D tc _ s.heap [(q, .inr (1, [.int 0, .null, .int 0]))] L κ g _ _ := hI
  refine lv_aload_n hx hb dJxc12de_init_da8c8_4 rfl (lv_at hl 0 rfl) ?_
  refine lv_iconst (v := 0) hx hb dJxc12de_init_da8c8_5 (by decide) ?_
  refine z_putX (i := 0) (j := 0) hM hI rfl hin7 tyJx4a65c tyJx4a65c_ok nmJx4a65c rfl (by decide) (by decide +kernel) (fun _ h9 => h9) rfl rfl rfl rfl (Nat.le_of_ble_eq_true rfl) dJxc12de_init_da8c8_6 (fun H locs hI => ?_)
  exact W.vret hx hb hr (fun t ht hW => ⟨⟨(L, κ, g), rfl, rfl, z_end hK hI ht hW⟩, z_F hI ht⟩) (z_locs hI) dJxc12de_init_da8c8_9

set_option maxHeartbeats 4000000 in
set_option maxRecDepth 100000 in
theorem c_Jx4a65c_init_da8c8 (l : Launch) (D : va_G) (tc : Nat → ClassId) (z0 : Nat) (L : List Nat) (κ : Nat → Nat) (g : Nat → Nat → Value) (sz : Nat) (q K : Nat) (hO : zO K = some (1, [(10, 0), (18, 0), (10, 0)])) (hK9 : K < 99) : Met l yJx4a65c_init_da8c8 wsJx4a65c_init_da8c8 ({ frames := 3, cells := 0, slots := 0, locals := 60 }) (zPc D tc z0 [.ref q] ([(q, .inr (1, [.int 0, .null, .int 0]))] : va_W) (L, κ, g) sz) (va_Qv (fun (u : zS) => zExt κ g u.2.1 u.2.2 ∧ u.2.1 q = K ∧ u.2.2 q 0 = .int 0 ∧ u.2.2 q 1 = .ref z0 ∧ u.2.2 q 2 = .int 0) (fun (u : zS) (t : State) => zB D tc (zA ([(q, .inr (1, [.int 0, .null, .int 0]))] : va_W) L sz) [] u t) (zA ([(q, .inr (1, [.int 0, .null, .int 0]))] : va_W) L sz)) 0 0 (zA ([(q, .inr (1, [.int 0, .null, .int 0]))] : va_W) L sz) := by
  refine Met.ofW (cc := cJx4a65c_init_da8c8) (maxL := 1) (ret := none) (by decide) rfl ?_
  intro p e9 s m args below meth c s₁ B hml hv
  obtain ⟨rfl, rfl, hK, hE, hI⟩ := hv.opn
  have hx := B.exec
  have hb := B.bytes
  have hr := B.returns
  have hts := atoms_spec (ws := wsJx4a65c_init_da8c8) B.pre
  have hown : s.vm.findClass RJx4a65c = some m.cls := findClass_of_methodNamed B.named
  have hlocks := B.notSynchronized
  have hM : zM p s m c cJx4a65c_init_da8c8 _ wsJx4a65c_init_da8c8 RJx4a65c D tc := ⟨hx, hb, hts, hown, hK⟩
  have hin2 : meth.name = "<init>" := (name_of_methodNamed B.named B.method).1
  have hl := lv_entry ([.ref q]) (n := 1) (Nat.le_of_ble_eq_true rfl)
  rw [lg_entry_eq]
  generalize (lg_sl ([.ref q]) ++ List.replicate (1 - (lg_sl ([.ref q])).length) Slot.unset).toArray = ls at hl ⊢
  have hl : lv_has ls 1 [(0, .ref q)] := hl
  have hin7 : ∀ w ∈ wsJx4a65c0, w ∈ wsJx4a65c_init_da8c8 := by decide +kernel
  obtain ⟨-, -, -, -, -, -, ⟨hz1, hz2⟩, -⟩ := id hE
  refine lv_aload_n hx hb dJx4a65c_init_da8c8_0 rfl (lv_at hl 0 rfl) ?_
  refine z_cvX (Xc := [(q, .inr (1, [.int 0, .null, .int 0]))]) (wr := []) (rx := [(q, .inr (1, [.int 0, .null, .int 0]))]) [0] [] rfl rfl rfl rfl (by decide) hI (va_runI (As := []) (rest := []) ⟨hx, hb, hml, hown, hts⟩ (c_Jxc12de_init_da8c8 l D tc z0 _ κ g _ q) (cwI 0 hts gJx4a65c_init_da8c8_Jxc12de_init_da8c8 rfl rfl rfl (hts (.initialized RJxc12de) (by decide +kernel)) (hts (.methodLink RJx4a65c 1 yJxc12de_init_da8c8) (by decide +kernel)) (hts (.instanceMethod yJxc12de_init_da8c8) (by decide +kernel)) rfl (by decide +kernel) ⟨Nat.le_of_ble_eq_true rfl, Nat.le_of_ble_eq_true rfl⟩) (z_pre (Xc := [(q, .inr (1, [.int 0, .null, .int 0]))]) hK hE hI [0] rfl rfl) rfl rfl hl.1 rfl (lv_room (Nat.le_of_ble_eq_true rfl)) dJx4a65c_init_da8c8_1 ⟨Nat.le_of_ble_eq_true rfl, Nat.le_of_ble_eq_true rfl⟩) (fun u H locs hw hI => ?_)
  obtain rfl := hw
  have hI : zI D tc _ s.heap [(q, .inr (1, [.int 0, .null, .int 0]))] L κ g _ _ := hI
  refine lv_aload_n hx hb dJx4a65c_init_da8c8_4 rfl (lv_at hl 0 rfl) ?_
  refine va_gets hx hb hz1 hI.2.1 hown (hts (.fieldLink RJx4a65c 39 "java/util/ArrayList" "DEFAULTCAPACITY_EMPTY_ELEMENTDATA" "[Ljava/lang/Object;") (by decide +kernel)) (fun _ h9 => h9) dJx4a65c_init_da8c8_5 ?_
  refine z_putX (i := 0) (j := 1) hM hI rfl hin7 tyJx4a65c tyJx4a65c_ok nmJx4a65c rfl (by decide) (by decide +kernel) (fun _ h9 => h9) rfl rfl rfl rfl (Nat.le_of_ble_eq_true rfl) dJx4a65c_init_da8c8_8 (fun H locs hI => ?_)
  have hI : zI D tc _ s.heap [(q, .inr (1, [.int 0, .ref z0, .int 0]))] L κ g _ _ := hI
  obtain ⟨L2, κ2, g2, hx2, hk2, hv2, hI⟩ := z_poolG (k := K) (fun j => ([.int 0, .ref z0, .int 0] : List Value).getD j .null) hI hK9 (fun κ9 g9 hκ9 hκ8 hg9 => zc_O hO (zvs_cons ⟨(hg9 0).symm, _, rfl⟩ rfl (zvs_cons ⟨(hg9 1).symm, _, rfl⟩ rfl (zvs_cons ⟨(hg9 2).symm, _, rfl⟩ rfl zvs_nil))))
  exact W.vret hx hb hr (fun t ht hW => ⟨⟨(L2, κ2, g2), rfl, ⟨hx2, hk2, hv2 0, hv2 1, hv2 2⟩, z_endG hK hI ht hW⟩, z_F hI ht⟩) (z_locs hI) dJx4a65c_init_da8c8_11

set_option maxHeartbeats 4000000 in
set_option maxRecDepth 100000 in
theorem c_X11_init (l : Launch) (D : va_G) (tc : Nat → ClassId) (z0 : Nat) (L : List Nat) (κ : Nat → Nat) (g : Nat → Nat → Value) (sz : Nat) (p0 : Nat) : Met l yX11_init wsX11_init ({ frames := 4, cells := 4, slots := 15, locals := 80 }) (zPc D tc z0 [.ref p0] ([(p0, .inr (13, [.null, .null, .null, .null, .int 0, .int 0, .int 0, .int 0, .int 0, .int 0, .int 0, .int 0, .int 0, .int 0, .int 0, .int 0, .int 0, .int 0, .int 0, .long 0, .long 0, .long 0, .long 0, .long 0, .long 0, .int 0, .int 0]))] : va_W) (L, κ, g) sz) (va_Qv (fun (u : zS) => zExt κ g u.2.1 u.2.2 ∧ u.2.1 p0 = 13 ∧ ∃ lc lt : Nat, zMo u.2.1 u.2.2 z0 p0 lc z0 0 0 (fun _ => 0) lt z0 0 0 (fun _ => 0) ∧ u.2.2 p0 4 = .int 0 ∧ u.2.2 p0 7 = .int 200 ∧ u.2.2 p0 12 = .int 0 ∧ u.2.2 p0 13 = .int 0 ∧ u.2.2 p0 14 = .int 0 ∧ u.2.2 p0 16 = .int 0 ∧ u.2.2 p0 18 = .int 0 ∧ u.2.2 p0 25 = .int 0 ∧ u.2.2 p0 26 = .int 45) (fun (u : zS) (t : State) => zB D tc (zA ([(p0, .inr (13, [.null, .null, .null, .null, .int 0, .int 0, .int 0, .int 0, .int 0, .int 0, .int 0, .int 0, .int 0, .int 0, .int 0, .int 0, .int 0, .int 0, .int 0, .long 0, .long 0, .long 0, .long 0, .long 0, .long 0, .int 0, .int 0]))] : va_W) L sz) [] u t) (zA ([(p0, .inr (13, [.null, .null, .null, .null, .int 0, .int 0, .int 0, .int 0, .int 0, .int 0, .int 0, .int 0, .int 0, .int 0, .int 0, .int 0, .int 0, .int 0, .int 0, .long 0, .long 0, .long 0, .long 0, .long 0, .long 0, .int 0, .int 0]))] : va_W) L sz)) 4 15 (zA ([(p0, .inr (13, [.null, .null, .null, .null, .int 0, .int 0, .int 0, .int 0, .int 0, .int 0, .int 0, .int 0, .int 0, .int 0, .int 0, .int 0, .int 0, .int 0, .int 0, .long 0, .long 0, .long 0, .long 0, .long 0, .long 0, .int 0, .int 0]))] : va_W) L sz) := by
  refine Met.ofW (cc := cX11_init) (maxL := 1) (ret := none) (by decide) rfl ?_
  intro p e s m args below meth c s₁ B hml hv
  obtain ⟨rfl, rfl, hK, hE, hI⟩ := hv.opn
  have hx := B.exec
  have hb := B.bytes
  have hr := B.returns
  have hts := atoms_spec (ws := wsX11_init) B.pre
  have hown : s.vm.findClass RX11 = some m.cls := findClass_of_methodNamed B.named
  have hlocks := B.notSynchronized
  have hin2 : meth.name = "<init>" := (name_of_methodNamed B.named B.method).1
  have hM : zM p s m c cX11_init _ wsX11_init RX11 D tc := ⟨hx, hb, hts, hown, hK⟩
  have hxt : zExt κ g κ g := zExt.rf
  have hinJx4a65c : ∀ w ∈ wsJx4a65c0, w ∈ wsX11_init := by decide +kernel
  have hinX11 : ∀ w ∈ wsX110, w ∈ wsX11_init := by decide +kernel
  have hl := lv_entry ([.ref p0]) (n := 1) (Nat.le_of_ble_eq_true rfl)
  rw [lg_entry_eq]
  generalize (lg_sl ([.ref p0]) ++ List.replicate (1 - (lg_sl ([.ref p0])).length) Slot.unset).toArray = ls at hl ⊢
  have hl : lv_has ls 1 [(0, .ref p0)] := hl
  refine lv_aload_n hx hb dX11_init_0 rfl (lv_at hl 0 rfl) ?_
  refine W.objInit hx hb hown (hts (.methodLink RX11 1 objectInit) (by decide +kernel)) (hts (.instanceMethod objectInit) (by decide +kernel)) (hts (.code objectInit ⟨#[0xb1]⟩ 1 none) (by decide +kernel)) rfl (by rw [hml]; exact hl.1) rfl dX11_init_1 (Nat.le_of_ble_eq_true rfl) (Nat.le_of_ble_eq_true rfl) ?_
  refine W.eq (g2 := F0 m 4 ls []) rfl ?_
  refine lv_aload_n hx hb dX11_init_4 rfl (lv_at hl 0 rfl) ?_
  refine z_new (ci := 1) (fs := [.int 0, .null, .int 0]) (C := RJx4a65c) (T := TJx4a65c) (N := 3) hM hI hinJx4a65c tyJx4a65c tyJx4a65c_ok (by decide +kernel) (by decide +kernel) (by decide +kernel) rfl (by decide +kernel) (Nat.le_of_ble_eq_true rfl) (Nat.le_of_ble_eq_true rfl) dX11_init_5 (fun q1 H hI => ?_)
  have hI : zI D tc _ s.heap [(p0, .inr (13, [.null, .null, .null, .null, .int 0, .int 0, .int 0, .int 0, .int 0, .int 0, .int 0, .int 0, .int 0, .int 0, .int 0, .int 0, .int 0, .int 0, .int 0, .long 0, .long 0, .long 0, .long 0, .long 0, .long 0, .int 0, .int 0])), (q1, .inr (1, [.int 0, .null, .int 0]))] L κ g _ _ := hI
  refine lv_dup hx hb dX11_init_8 rfl ?_
  refine z_cvX (Xc := [(q1, .inr (1, [.int 0, .null, .int 0]))]) (wr := [(p0, .inr (13, [.null, .null, .null, .null, .int 0, .int 0, .int 0, .int 0, .int 0, .int 0, .int 0, .int 0, .int 0, .int 0, .int 0, .int 0, .int 0, .int 0, .int 0, .long 0, .long 0, .long 0, .long 0, .long 0, .long 0, .int 0, .int 0]))]) (rx := []) [1] [0] rfl rfl rfl rfl (by decide) hI (va_runI (As := []) (rest := [.ref q1, .ref p0]) ⟨hx, hb, hml, hown, hts⟩ (c_Jx4a65c_init_da8c8 l _ _ _ _ _ _ _ q1 1 rfl (by decide)) (cwI 0 hts gX11_init_Jx4a65c_init_da8c8 rfl rfl rfl (hts (.initialized RJx4a65c) (by decide +kernel)) (hts (.methodLink RX11 9 yJx4a65c_init_da8c8) (by decide +kernel)) (hts (.instanceMethod yJx4a65c_init_da8c8) (by decide +kernel)) rfl (by decide +kernel) ⟨Nat.le_of_ble_eq_true rfl, Nat.le_of_ble_eq_true rfl⟩) (z_pre (Xc := [(q1, .inr (1, [.int 0, .null, .int 0]))]) hK hE hI [1] rfl rfl) rfl rfl hl.1 rfl (lv_room (Nat.le_of_ble_eq_true rfl)) dX11_init_9 ⟨Nat.le_of_ble_eq_true rfl, Nat.le_of_ble_eq_true rfl⟩) (fun u H locs hw hI => ?_)
  obtain ⟨L1, κ1, g1⟩ := u
  obtain ⟨hx2, hk2, hf3, hf4, hf5⟩ := hw
  dsimp only at hx2 hk2 hf3 hf4 hf5
  have hxt := hxt.tr hx2
  clear hx2
  have hI : zI D tc _ s.heap [(p0, .inr (13, [.null, .null, .null, .null, .int 0, .int 0, .int 0, .int 0, .int 0, .int 0, .int 0, .int 0, .int 0, .int 0, .int 0, .int 0, .int 0, .int 0, .int 0, .long 0, .long 0, .long 0, .long 0, .long 0, .long 0, .int 0, .int 0]))] L1 κ1 g1 _ _ := hI
  refine z_putXF (i := 0) (j := 0) hM hI hin2 rfl hinX11 tyX11 tyX11_ok nmX11 rfl (by decide) (by decide +kernel) (fun _ h9 => h9) rfl rfl rfl rfl rfl (Nat.le_of_ble_eq_true rfl) dX11_init_12 (fun H locs hI => ?_)
  have hI : zI D tc _ s.heap [(p0, .inr (13, [.ref q1, .null, .null, .null, .int 0, .int 0, .int 0, .int 0, .int 0, .int 0, .int 0, .int 0, .int 0, .int 0, .int 0, .int 0, .int 0, .int 0, .int 0, .long 0, .long 0, .long 0, .long 0, .long 0, .long 0, .int 0, .int 0]))] L1 κ1 g1 _ _ := hI
  refine lv_aload_n hx hb dX11_init_15 rfl (lv_at hl 0 rfl) ?_
  refine z_new (ci := 1) (fs := [.int 0, .null, .int 0]) (C := RJx4a65c) (T := TJx4a65c) (N := 3) hM hI hinJx4a65c tyJx4a65c tyJx4a65c_ok (by decide +kernel) (by decide +kernel) (by decide +kernel) rfl (by decide +kernel) (Nat.le_of_ble_eq_true rfl) (Nat.le_of_ble_eq_true rfl) dX11_init_16 (fun q6 H hI => ?_)
  have hI : zI D tc _ s.heap [(p0, .inr (13, [.ref q1, .null, .null, .null, .int 0, .int 0, .int 0, .int 0, .int 0, .int 0, .int 0, .int 0, .int 0, .int 0, .int 0, .int 0, .int 0, .int 0, .int 0, .long 0, .long 0, .long 0, .long 0, .long 0, .long 0, .int 0, .int 0])), (q6, .inr (1, [.int 0, .null, .int 0]))] L1 κ1 g1 _ _ := hI
  refine lv_dup hx hb dX11_init_19 rfl ?_
  refine z_cvX (Xc := [(q6, .inr (1, [.int 0, .null, .int 0]))]) (wr := [(p0, .inr (13, [.ref q1, .null, .null, .null, .int 0, .int 0, .int 0, .int 0, .int 0, .int 0, .int 0, .int 0, .int 0, .int 0, .int 0, .int 0, .int 0, .int 0, .int 0, .long 0, .long 0, .long 0, .long 0, .long 0, .long 0, .int 0, .int 0]))]) (rx := []) [1] [0] rfl rfl rfl rfl (by decide) hI (va_runI (As := []) (rest := [.ref q6, .ref p0]) ⟨hx, hb, hml, hown, hts⟩ (c_Jx4a65c_init_da8c8 l _ _ _ _ _ _ _ q6 14 rfl (by decide)) (cwI 0 hts gX11_init_Jx4a65c_init_da8c8 rfl rfl rfl (hts (.initialized RJx4a65c) (by decide +kernel)) (hts (.methodLink RX11 9 yJx4a65c_init_da8c8) (by decide +kernel)) (hts (.instanceMethod yJx4a65c_init_da8c8) (by decide +kernel)) rfl (by decide +kernel) ⟨Nat.le_of_ble_eq_true rfl, Nat.le_of_ble_eq_true rfl⟩) (z_pre (Xc := [(q6, .inr (1, [.int 0, .null, .int 0]))]) hK hE hI [1] rfl rfl) rfl rfl hl.1 rfl (lv_room (Nat.le_of_ble_eq_true rfl)) dX11_init_20 ⟨Nat.le_of_ble_eq_true rfl, Nat.le_of_ble_eq_true rfl⟩) (fun u H locs hw hI => ?_)
  obtain ⟨L2, κ2, g2⟩ := u
  obtain ⟨hx2, hk7, hf8, hf9, hf10⟩ := hw
  dsimp only at hx2 hk7 hf8 hf9 hf10
  have hf3 := hx2.g hk2 (by decide) hf3
  have hf4 := hx2.g hk2 (by decide) hf4
  have hf5 := hx2.g hk2 (by decide) hf5
  have hk2 := hx2.k hk2 (by decide)
  have hxt := hxt.tr hx2
  clear hx2
  have hI : zI D tc _ s.heap [(p0, .inr (13, [.ref q1, .null, .null, .null, .int 0, .int 0, .int 0, .int 0, .int 0, .int 0, .int 0, .int 0, .int 0, .int 0, .int 0, .int 0, .int 0, .int 0, .int 0, .long 0, .long 0, .long 0, .long 0, .long 0, .long 0, .int 0, .int 0]))] L2 κ2 g2 _ _ := hI
  refine z_putXF (i := 0) (j := 1) hM hI hin2 rfl hinX11 tyX11 tyX11_ok nmX11 rfl (by decide) (by decide +kernel) (fun _ h9 => h9) rfl rfl rfl rfl rfl (Nat.le_of_ble_eq_true rfl) dX11_init_23 (fun H locs hI => ?_)
  have hI : zI D tc _ s.heap [(p0, .inr (13, [.ref q1, .ref q6, .null, .null, .int 0, .int 0, .int 0, .int 0, .int 0, .int 0, .int 0, .int 0, .int 0, .int 0, .int 0, .int 0, .int 0, .int 0, .int 0, .long 0, .long 0, .long 0, .long 0, .long 0, .long 0, .int 0, .int 0]))] L2 κ2 g2 _ _ := hI
  refine lv_aload_n hx hb dX11_init_26 rfl (lv_at hl 0 rfl) ?_
  refine lv_iconst (v := 3) hx hb dX11_init_27 (by decide) ?_
  refine z_newa (ty := .int) (ti := 0) (n := 3) hM hI (by decide +kernel) rfl rfl (by intro C h; cases h) (3, .inl (fun _ => 0)) (fun cA => rfl) (by decide) (by decide) (by decide) (Nat.le_of_ble_eq_true rfl) (Nat.le_of_ble_eq_true rfl) dX11_init_28 (fun q11 H hI => ?_)
  have hI : zI D tc _ s.heap [(p0, .inr (13, [.ref q1, .ref q6, .null, .null, .int 0, .int 0, .int 0, .int 0, .int 0, .int 0, .int 0, .int 0, .int 0, .int 0, .int 0, .int 0, .int 0, .int 0, .int 0, .long 0, .long 0, .long 0, .long 0, .long 0, .long 0, .int 0, .int 0])), (q11, .inl (tc 0, 3, .inl (fun _ => 0)))] L2 κ2 g2 _ _ := hI
  refine lv_dup hx hb dX11_init_30 rfl ?_
  refine lv_iconst (v := 0) hx hb dX11_init_31 (by decide) ?_
  refine lv_sipush (v := 500) hx hb dX11_init_32 (by decide) ?_
  refine z_iastX (i := 1) hM hI rfl (vp_in_c 0 3 (by decide)) dX11_init_35 (fun a12 H locs hI => ?_)
  have hI : zI D tc _ s.heap [(p0, .inr (13, [.ref q1, .ref q6, .null, .null, .int 0, .int 0, .int 0, .int 0, .int 0, .int 0, .int 0, .int 0, .int 0, .int 0, .int 0, .int 0, .int 0, .int 0, .int 0, .long 0, .long 0, .long 0, .long 0, .long 0, .long 0, .int 0, .int 0])), (q11, .inl (tc 0, 3, .inl a12))] L2 κ2 g2 _ _ := hI
  refine lv_dup hx hb dX11_init_36 rfl ?_
  refine lv_iconst (v := 1) hx hb dX11_init_37 (by decide) ?_
  refine lv_sipush (v := 500) hx hb dX11_init_38 (by decide) ?_
  refine z_iastX (i := 1) hM hI rfl (vp_in_c 1 3 (by decide)) dX11_init_41 (fun a13 H locs hI => ?_)
  have hI : zI D tc _ s.heap [(p0, .inr (13, [.ref q1, .ref q6, .null, .null, .int 0, .int 0, .int 0, .int 0, .int 0, .int 0, .int 0, .int 0, .int 0, .int 0, .int 0, .int 0, .int 0, .int 0, .int 0, .long 0, .long 0, .long 0, .long 0, .long 0, .long 0, .int 0, .int 0])), (q11, .inl (tc 0, 3, .inl a13))] L2 κ2 g2 _ _ := hI
  refine lv_dup hx hb dX11_init_42 rfl ?_
  refine lv_iconst (v := 2) hx hb dX11_init_43 (by decide) ?_
  refine lv_sipush (v := 500) hx hb dX11_init_44 (by decide) ?_
  refine z_iastX (i := 1) hM hI rfl (vp_in_c 2 3 (by decide)) dX11_init_47 (fun a14 H locs hI => ?_)
  have hI : zI D tc _ s.heap [(p0, .inr (13, [.ref q1, .ref q6, .null, .null, .int 0, .int 0, .int 0, .int 0, .int 0, .int 0, .int 0, .int 0, .int 0, .int 0, .int 0, .int 0, .int 0, .int 0, .int 0, .long 0, .long 0, .long 0, .long 0, .long 0, .long 0, .int 0, .int 0])), (q11, .inl (tc 0, 3, .inl a14))] L2 κ2 g2 _ _ := hI
  refine z_putXF (i := 0) (j := 2) hM hI hin2 rfl hinX11 tyX11 tyX11_ok nmX11 rfl (by decide) (by decide +kernel) (fun _ h9 => h9) rfl rfl rfl rfl rfl (Nat.le_of_ble_eq_true rfl) dX11_init_48 (fun H locs hI => ?_)
  have hI : zI D tc _ s.heap [(p0, .inr (13, [.ref q1, .ref q6, .ref q11, .null, .int 0, .int 0, .int 0, .int 0, .int 0, .int 0, .int 0, .int 0, .int 0, .int 0, .int 0, .int 0, .int 0, .int 0, .int 0, .long 0, .long 0, .long 0, .long 0, .long 0, .long 0, .int 0, .int 0])), (q11, .inl (tc 0, 3, .inl a14))] L2 κ2 g2 _ _ := hI
  refine lv_aload_n hx hb dX11_init_51 rfl (lv_at hl 0 rfl) ?_
  refine lv_bipush (v := 6) hx hb dX11_init_52 (by decide) ?_
  refine z_newa (ty := .int) (ti := 0) (n := 6) hM hI (by decide +kernel) rfl rfl (by intro C h; cases h) (6, .inl (fun _ => 0)) (fun cA => rfl) (by decide) (by decide) (by decide) (Nat.le_of_ble_eq_true rfl) (Nat.le_of_ble_eq_true rfl) dX11_init_54 (fun q15 H hI => ?_)
  have hI : zI D tc _ s.heap [(p0, .inr (13, [.ref q1, .ref q6, .ref q11, .null, .int 0, .int 0, .int 0, .int 0, .int 0, .int 0, .int 0, .int 0, .int 0, .int 0, .int 0, .int 0, .int 0, .int 0, .int 0, .long 0, .long 0, .long 0, .long 0, .long 0, .long 0, .int 0, .int 0])), (q11, .inl (tc 0, 3, .inl a14)), (q15, .inl (tc 0, 6, .inl (fun _ => 0)))] L2 κ2 g2 _ _ := hI
  refine z_putXF (i := 0) (j := 3) hM hI hin2 rfl hinX11 tyX11 tyX11_ok nmX11 rfl (by decide) (by decide +kernel) (fun _ h9 => h9) rfl rfl rfl rfl rfl (Nat.le_of_ble_eq_true rfl) dX11_init_56 (fun H locs hI => ?_)
  have hI : zI D tc _ s.heap [(p0, .inr (13, [.ref q1, .ref q6, .ref q11, .ref q15, .int 0, .int 0, .int 0, .int 0, .int 0, .int 0, .int 0, .int 0, .int 0, .int 0, .int 0, .int 0, .int 0, .int 0, .int 0, .long 0, .long 0, .long 0, .long 0, .long 0, .long 0, .int 0, .int 0])), (q11, .inl (tc 0, 3, .inl a14)), (q15, .inl (tc 0, 6, .inl (fun _ => 0)))] L2 κ2 g2 _ _ := hI
  refine lv_aload_n hx hb dX11_init_59 rfl (lv_at hl 0 rfl) ?_
  refine lv_sipush (v := 4000) hx hb dX11_init_60 (by decide) ?_
  refine z_putX (i := 0) (j := 5) hM hI rfl hinX11 tyX11 tyX11_ok nmX11 rfl (by decide) (by decide +kernel) (fun _ h9 => h9) rfl rfl rfl rfl (Nat.le_of_ble_eq_true rfl) dX11_init_63 (fun H locs hI => ?_)
  have hI : zI D tc _ s.heap [(p0, .inr (13, [.ref q1, .ref q6, .ref q11, .ref q15, .int 0, .int 4000, .int 0, .int 0, .int 0, .int 0, .int 0, .int 0, .int 0, .int 0, .int 0, .int 0, .int 0, .int 0, .int 0, .long 0, .long 0, .long 0, .long 0, .long 0, .long 0, .int 0, .int 0])), (q11, .inl (tc 0, 3, .inl a14)), (q15, .inl (tc 0, 6, .inl (fun _ => 0)))] L2 κ2 g2 _ _ := hI
  refine lv_aload_n hx hb dX11_init_66 rfl (lv_at hl 0 rfl) ?_
  refine lv_sipush (v := 200) hx hb dX11_init_67 (by decide) ?_
  refine z_putX (i := 0) (j := 7) hM hI rfl hinX11 tyX11 tyX11_ok nmX11 rfl (by decide) (by decide +kernel) (fun _ h9 => h9) rfl rfl rfl rfl (Nat.le_of_ble_eq_true rfl) dX11_init_70 (fun H locs hI => ?_)
  have hI : zI D tc _ s.heap [(p0, .inr (13, [.ref q1, .ref q6, .ref q11, .ref q15, .int 0, .int 4000, .int 0, .int 200, .int 0, .int 0, .int 0, .int 0, .int 0, .int 0, .int 0, .int 0, .int 0, .int 0, .int 0, .long 0, .long 0, .long 0, .long 0, .long 0, .long 0, .int 0, .int 0])), (q11, .inl (tc 0, 3, .inl a14)), (q15, .inl (tc 0, 6, .inl (fun _ => 0)))] L2 κ2 g2 _ _ := hI
  refine lv_aload_n hx hb dX11_init_73 rfl (lv_at hl 0 rfl) ?_
  refine lv_sipush (v := 5000) hx hb dX11_init_74 (by decide) ?_
  refine z_putX (i := 0) (j := 8) hM hI rfl hinX11 tyX11 tyX11_ok nmX11 rfl (by decide) (by decide +kernel) (fun _ h9 => h9) rfl rfl rfl rfl (Nat.le_of_ble_eq_true rfl) dX11_init_77 (fun H locs hI => ?_)
  have hI : zI D tc _ s.heap [(p0, .inr (13, [.ref q1, .ref q6, .ref q11, .ref q15, .int 0, .int 4000, .int 0, .int 200, .int 5000, .int 0, .int 0, .int 0, .int 0, .int 0, .int 0, .int 0, .int 0, .int 0, .int 0, .long 0, .long 0, .long 0, .long 0, .long 0, .long 0, .int 0, .int 0])), (q11, .inl (tc 0, 3, .inl a14)), (q15, .inl (tc 0, 6, .inl (fun _ => 0)))] L2 κ2 g2 _ _ := hI
  refine lv_aload_n hx hb dX11_init_80 rfl (lv_at hl 0 rfl) ?_
  refine lv_sipush (v := 600) hx hb dX11_init_81 (by decide) ?_
  refine z_putX (i := 0) (j := 9) hM hI rfl hinX11 tyX11 tyX11_ok nmX11 rfl (by decide) (by decide +kernel) (fun _ h9 => h9) rfl rfl rfl rfl (Nat.le_of_ble_eq_true rfl) dX11_init_84 (fun H locs hI => ?_)
  have hI : zI D tc _ s.heap [(p0, .inr (13, [.ref q1, .ref q6, .ref q11, .ref q15, .int 0, .int 4000, .int 0, .int 200, .int 5000, .int 600, .int 0, .int 0, .int 0, .int 0, .int 0, .int 0, .int 0, .int 0, .int 0, .long 0, .long 0, .long 0, .long 0, .long 0, .long 0, .int 0, .int 0])), (q11, .inl (tc 0, 3, .inl a14)), (q15, .inl (tc 0, 6, .inl (fun _ => 0)))] L2 κ2 g2 _ _ := hI
  refine lv_aload_n hx hb dX11_init_87 rfl (lv_at hl 0 rfl) ?_
  refine lv_bipush (v := 45) hx hb dX11_init_88 (by decide) ?_
  refine z_putX (i := 0) (j := 26) hM hI rfl hinX11 tyX11 tyX11_ok nmX11 rfl (by decide) (by decide +kernel) (fun _ h9 => h9) rfl rfl rfl rfl (Nat.le_of_ble_eq_true rfl) dX11_init_90 (fun H locs hI => ?_)
  have hI : zI D tc _ s.heap [(p0, .inr (13, [.ref q1, .ref q6, .ref q11, .ref q15, .int 0, .int 4000, .int 0, .int 200, .int 5000, .int 600, .int 0, .int 0, .int 0, .int 0, .int 0, .int 0, .int 0, .int 0, .int 0, .long 0, .long 0, .long 0, .long 0, .long 0, .long 0, .int 0, .int 45])), (q11, .inl (tc 0, 3, .inl a14)), (q15, .inl (tc 0, 6, .inl (fun _ => 0)))] L2 κ2 g2 _ _ := hI
  have hI := z_part (X' := [(q11, .inl (tc 0, 3, .inl a14)), (p0, .inr (13, [.ref q1, .ref q6, .ref q11, .ref q15, .int 0, .int 4000, .int 0, .int 200, .int 5000, .int 600, .int 0, .int 0, .int 0, .int 0, .int 0, .int 0, .int 0, .int 0, .int 0, .long 0, .long 0, .long 0, .long 0, .long 0, .long 0, .int 0, .int 45])), (q15, .inl (tc 0, 6, .inl (fun _ => 0)))]) [1, 0, 2] rfl rfl hI
  obtain ⟨L3, κ3, g3, hx2, hk16, hv17, hI⟩ := z_poolG (k := 27) (fun _ => .null) hI (by decide) (fun κ9 g9 hκ9 hκ8 hg9 => Or.inr ⟨rfl, 0, 3, 0, (0, 0), fun j => .int (a14 j), rfl, ⟨_, rfl, fun j hj => rfl⟩, fun j hj => ⟨_, rfl⟩⟩)
  have hf3 := hx2.g hk2 (by decide) hf3
  have hf4 := hx2.g hk2 (by decide) hf4
  have hf5 := hx2.g hk2 (by decide) hf5
  have hf8 := hx2.g hk7 (by decide) hf8
  have hf9 := hx2.g hk7 (by decide) hf9
  have hf10 := hx2.g hk7 (by decide) hf10
  have hk2 := hx2.k hk2 (by decide)
  have hk7 := hx2.k hk7 (by decide)
  have hxt := hxt.tr hx2
  clear hx2
  have hI := z_part (X' := [(q15, .inl (tc 0, 6, .inl (fun _ => 0))), (p0, .inr (13, [.ref q1, .ref q6, .ref q11, .ref q15, .int 0, .int 4000, .int 0, .int 200, .int 5000, .int 600, .int 0, .int 0, .int 0, .int 0, .int 0, .int 0, .int 0, .int 0, .int 0, .long 0, .long 0, .long 0, .long 0, .long 0, .long 0, .int 0, .int 45]))]) [1, 0] rfl rfl hI
  obtain ⟨L4, κ4, g4, hx2, hk18, hv19, hI⟩ := z_poolG (k := 28) (fun _ => .null) hI (by decide) (fun κ9 g9 hκ9 hκ8 hg9 => Or.inr ⟨rfl, 0, 6, 0, (0, 0), fun j => .int ((fun _ => 0) j), rfl, ⟨_, rfl, fun j hj => rfl⟩, fun j hj => ⟨_, rfl⟩⟩)
  have hf3 := hx2.g hk2 (by decide) hf3
  have hf4 := hx2.g hk2 (by decide) hf4
  have hf5 := hx2.g hk2 (by decide) hf5
  have hf8 := hx2.g hk7 (by decide) hf8
  have hf9 := hx2.g hk7 (by decide) hf9
  have hf10 := hx2.g hk7 (by decide) hf10
  have hk2 := hx2.k hk2 (by decide)
  have hk7 := hx2.k hk7 (by decide)
  have hk16 := hx2.k hk16 (by decide)
  have hxt := hxt.tr hx2
  clear hx2
  obtain ⟨L5, κ5, g5, hx2, hk20, hv21, hI⟩ := z_poolG (k := 13) (fun j => ([.ref q1, .ref q6, .ref q11, .ref q15, .int 0, .int 4000, .int 0, .int 200, .int 5000, .int 600, .int 0, .int 0, .int 0, .int 0, .int 0, .int 0, .int 0, .int 0, .int 0, .long 0, .long 0, .long 0, .long 0, .long 0, .long 0, .int 0, .int 45] : List Value).getD j .null) hI (by decide) (fun κ9 g9 hκ9 hκ8 hg9 => zc_O rfl (zvs_cons ⟨(hg9 0).symm, _, rfl, (hκ9 _ (by rw [hk2]; decide)).trans hk2⟩ rfl (zvs_cons ⟨(hg9 1).symm, _, rfl, (hκ9 _ (by rw [hk7]; decide)).trans hk7⟩ rfl (zvs_cons ⟨(hg9 2).symm, _, rfl, (hκ9 _ (by rw [hk16]; decide)).trans hk16⟩ rfl (zvs_cons ⟨(hg9 3).symm, _, rfl, (hκ9 _ (by rw [hk18]; decide)).trans hk18⟩ rfl (zvs_cons ⟨(hg9 4).symm, _, rfl⟩ rfl (zvs_cons ⟨_, rfl⟩ rfl (zvs_cons ⟨_, rfl⟩ rfl (zvs_cons ⟨(hg9 7).symm, _, rfl⟩ rfl (zvs_cons ⟨_, rfl⟩ rfl (zvs_cons ⟨_, rfl⟩ rfl (zvs_cons ⟨_, rfl⟩ rfl (zvs_cons ⟨_, rfl⟩ rfl (zvs_cons ⟨(hg9 12).symm, _, rfl⟩ rfl (zvs_cons ⟨(hg9 13).symm, _, rfl⟩ rfl (zvs_cons ⟨(hg9 14).symm, _, rfl⟩ rfl (zvs_cons ⟨_, rfl⟩ rfl (zvs_cons ⟨(hg9 16).symm, _, rfl⟩ rfl (zvs_cons ⟨_, rfl⟩ rfl (zvs_cons ⟨(hg9 18).symm, _, rfl⟩ rfl (zvs_cons ⟨_, rfl⟩ rfl (zvs_cons ⟨_, rfl⟩ rfl (zvs_cons ⟨_, rfl⟩ rfl (zvs_cons ⟨_, rfl⟩ rfl (zvs_cons ⟨_, rfl⟩ rfl (zvs_cons ⟨_, rfl⟩ rfl (zvs_cons ⟨(hg9 25).symm, Or.inl rfl⟩ rfl (zvs_cons ⟨(hg9 26).symm, _, rfl, by decide⟩ rfl zvs_nil))))))))))))))))))))))))))))
  have hf3 := hx2.g hk2 (by decide) hf3
  have hf4 := hx2.g hk2 (by decide) hf4
  have hf5 := hx2.g hk2 (by decide) hf5
  have hf8 := hx2.g hk7 (by decide) hf8
  have hf9 := hx2.g hk7 (by decide) hf9
  have hf10 := hx2.g hk7 (by decide) hf10
  have hk2 := hx2.k hk2 (by decide)
  have hk7 := hx2.k hk7 (by decide)
  have hk16 := hx2.k hk16 (by decide)
  have hk18 := hx2.k hk18 (by decide)
  have hxt := hxt.tr hx2
  clear hx2
  have hf22 : g5 p0 0 = .ref q1 := hv21 0
  have hf23 : g5 p0 1 = .ref q6 := hv21 1
  have hf24 : g5 p0 2 = .ref q11 := hv21 2
  have hf25 : g5 p0 3 = .ref q15 := hv21 3
  have hf26 : g5 p0 4 = .int 0 := hv21 4
  have hf27 : g5 p0 7 = .int 200 := hv21 7
  have hf28 : g5 p0 12 = .int 0 := hv21 12
  have hf29 : g5 p0 13 = .int 0 := hv21 13
  have hf30 : g5 p0 14 = .int 0 := hv21 14
  have hf31 : g5 p0 16 = .int 0 := hv21 16
  have hf32 : g5 p0 18 = .int 0 := hv21 18
  have hf33 : g5 p0 25 = .int 0 := hv21 25
  have hf34 : g5 p0 26 = .int 45 := hv21 26
  exact W.vret hx hb hr (fun t ht hW => ⟨⟨(L5, κ5, g5), rfl, ⟨hxt, hk20, q1, q6, ⟨hk20, hf22, hf23, ⟨hk2, hf3, hf4, (hf5).trans (by rw [nI_0]), by decide, fun h => absurd h (by decide), fun _ => rfl, fun j hj => absurd hj (Nat.not_lt_zero _)⟩, ⟨hk7, hf8, hf9, (hf10).trans (by rw [nI_0]), by decide, fun h => absurd h (by decide), fun _ => rfl, fun j hj => absurd hj (Nat.not_lt_zero _)⟩, by decide, by decide⟩, hf26, hf27, hf28, hf29, hf30, hf31, hf32, hf33, hf34⟩, z_endG hK hI ht hW⟩, z_F hI ht⟩) (z_locs hI) dX11_init_93

