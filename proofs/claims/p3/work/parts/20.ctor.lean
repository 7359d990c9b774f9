set_option maxHeartbeats 4000000 in
set_option maxRecDepth 100000 in
theorem c_X0_init (l : Launch) (D : va_G) (tc : Nat → ClassId) (z0 : Nat) (L : List Nat) (κ : Nat → Nat) (g : Nat → Nat → Value) (sz : Nat) (p0 : Nat) : Met l yX0_init wsX0_init ({ frames := 1, cells := 1, slots := 16, locals := 20 }) (zPc D tc z0 [.ref p0] ([(p0, .inr (2, [.null, .int 0]))] : va_W) (L, κ, g) sz) (va_Qv (fun (u : zS) => zExt κ g u.2.1 u.2.2 ∧ u.2.1 p0 = 2) (fun (u : zS) (t : State) => zB D tc (zA ([(p0, .inr (2, [.null, .int 0]))] : va_W) L sz) [] u t) (zA ([(p0, .inr (2, [.null, .int 0]))] : va_W) L sz)) 1 16 (zA ([(p0, .inr (2, [.null, .int 0]))] : va_W) L sz) := by
  refine Met.ofW (cc := cX0_init) (maxL := 1) (ret := none) (by decide) rfl ?_
  intro p e s m args below meth c s₁ B hml hv
  obtain ⟨rfl, rfl, hK, hE, hI⟩ := hv.opn
  have hx := B.exec
  have hb := B.bytes
  have hr := B.returns
  have hts := atoms_spec (ws := wsX0_init) B.pre
  have hown : s.vm.findClass RX0 = some m.cls := findClass_of_methodNamed B.named
  have hlocks := B.notSynchronized
  have hin2 : meth.name = "<init>" := (name_of_methodNamed B.named B.method).1
  have hM : zM p s m c cX0_init _ wsX0_init RX0 D tc := ⟨hx, hb, hts, hown, hK⟩
  have hxt : zExt κ g κ g := zExt.rf
  have hinX0 : ∀ w ∈ wsX00, w ∈ wsX0_init := by decide +kernel
  have hl := lv_entry ([.ref p0]) (n := 1) (Nat.le_of_ble_eq_true rfl)
  rw [lg_entry_eq]
  generalize (lg_sl ([.ref p0]) ++ List.replicate (1 - (lg_sl ([.ref p0])).length) Slot.unset).toArray = ls at hl ⊢
  have hl : lv_has ls 1 [(0, .ref p0)] := hl
  refine lv_aload_n hx hb dX0_init_0 rfl (lv_at hl 0 rfl) ?_
  refine W.objInit hx hb hown (hts (.methodLink RX0 3 objectInit) (by decide +kernel)) (hts (.instanceMethod objectInit) (by decide +kernel)) (hts (.code objectInit ⟨#[0xb1]⟩ 1 none) (by decide +kernel)) rfl (by rw [hml]; exact hl.1) rfl dX0_init_1 (Nat.le_of_ble_eq_true rfl) (Nat.le_of_ble_eq_true rfl) ?_
  refine W.eq (g2 := F0 m 4 ls []) rfl ?_
  refine lv_aload_n hx hb dX0_init_4 rfl (lv_at hl 0 rfl) ?_
  refine lv_bipush (v := 16) hx hb dX0_init_5 (by decide) ?_
  refine z_newa (ty := .long) (ti := 1) (n := 16) hM hI (by decide +kernel) rfl rfl (by intro C h; cases h) (16, .inr (.inl (fun _ => 0))) (fun cA => rfl) (by decide) (by decide) (by decide) (Nat.le_of_ble_eq_true rfl) (Nat.le_of_ble_eq_true rfl) dX0_init_7 (fun q1 H hI => ?_)
  have hI : zI D tc _ s.heap [(p0, .inr (2, [.null, .int 0])), (q1, .inl (tc 1, 16, .inr (.inl (fun _ => 0))))] L κ g _ _ := hI
  have hI := z_part (X' := [(q1, .inl (tc 1, 16, .inr (.inl (fun _ => 0)))), (p0, .inr (2, [.null, .int 0]))]) [1, 0] rfl rfl hI
  obtain ⟨L1, κ1, g1, hx2, hk2, hv3, hI⟩ := z_poolG (k := 21) (fun _ => .null) hI (by decide) (fun κ9 g9 hκ9 hκ8 hg9 => Or.inr ⟨rfl, 1, 16, 1, (3, 0), fun j => .long 0, rfl, ⟨_, rfl, fun j hj => rfl⟩, fun j hj => ⟨_, rfl⟩⟩)
  have hxt := hxt.tr hx2
  clear hx2
  refine z_putXF (i := 0) (j := 0) hM hI hin2 rfl hinX0 tyX0 tyX0_ok nmX0 rfl (by decide) (by decide +kernel) (fun _ h9 => h9) rfl rfl rfl rfl rfl (Nat.le_of_ble_eq_true rfl) dX0_init_9 (fun H locs hI => ?_)
  have hI : zI D tc _ s.heap [(p0, .inr (2, [.ref q1, .int 0]))] L1 κ1 g1 _ _ := hI
  refine lv_aload_n hx hb dX0_init_12 rfl (lv_at hl 0 rfl) ?_
  refine lv_iconst (v := 0) hx hb dX0_init_13 (by decide) ?_
  refine z_putX (i := 0) (j := 1) hM hI rfl hinX0 tyX0 tyX0_ok nmX0 rfl (by decide) (by decide +kernel) (fun _ h9 => h9) rfl rfl rfl rfl (Nat.le_of_ble_eq_true rfl) dX0_init_14 (fun H locs hI => ?_)
  have hI : zI D tc _ s.heap [(p0, .inr (2, [.ref q1, .int 0]))] L1 κ1 g1 _ _ := hI
  obtain ⟨L2, κ2, g2, hx2, hk4, hv5, hI⟩ := z_poolG (k := 2) (fun _ => .null) hI (by decide) (fun κ9 g9 hκ9 hκ8 hg9 => zc_O rfl (zvs_cons ⟨_, rfl, (hκ9 _ (by rw [hk2]; decide)).trans hk2⟩ rfl (zvs_cons ⟨0, by decide, rfl⟩ rfl zvs_nil)))
  have hk2 := hx2.k hk2 (by decide)
  have hxt := hxt.tr hx2
  clear hx2
  exact W.vret hx hb hr (fun t ht hW => ⟨⟨(L2, κ2, g2), rfl, ⟨hxt, hk4⟩, z_endG hK hI ht hW⟩, z_F hI ht⟩) (z_locs hI) dX0_init_17

set_option maxHeartbeats 4000000 in
set_option maxRecDepth 100000 in
theorem c_X1_init (l : Launch) (D : va_G) (tc : Nat → ClassId) (z0 : Nat) (L : List Nat) (κ : Nat → Nat) (g : Nat → Nat → Value) (sz : Nat) (p0 : Nat) (p1 : Int32) (p2 : Int32) : Met l yX1_init wsX1_init ({ frames := 3, cells := 4, slots := 36, locals := 68 }) (zPc D tc z0 [.ref p0, .int p1, .int p2] ([(p0, .inr (3, [.int 0, .null, .null]))] : va_W) (L, κ, g) sz) (va_Qv (fun (u : zS) => zExt κ g u.2.1 u.2.2 ∧ u.2.1 p0 = 3) (fun (u : zS) (t : State) => zB D tc (zA ([(p0, .inr (3, [.int 0, .null, .null]))] : va_W) L sz) [] u t) (zA ([(p0, .inr (3, [.int 0, .null, .null]))] : va_W) L sz)) 4 36 (zA ([(p0, .inr (3, [.int 0, .null, .null]))] : va_W) L sz) := by
  refine Met.ofW (cc := cX1_init) (maxL := 3) (ret := none) (by decide) rfl ?_
  intro p e s m args below meth c s₁ B hml hv
  obtain ⟨rfl, rfl, hK, hE, hI⟩ := hv.opn
  have hx := B.exec
  have hb := B.bytes
  have hr := B.returns
  have hts := atoms_spec (ws := wsX1_init) B.pre
  have hown : s.vm.findClass RX1 = some m.cls := findClass_of_methodNamed B.named
  have hlocks := B.notSynchronized
  have hin2 : meth.name = "<init>" := (name_of_methodNamed B.named B.method).1
  have hM : zM p s m c cX1_init _ wsX1_init RX1 D tc := ⟨hx, hb, hts, hown, hK⟩
  have hxt : zExt κ g κ g := zExt.rf
  have hinX0 : ∀ w ∈ wsX00, w ∈ wsX1_init := by decide +kernel
  have hinX1 : ∀ w ∈ wsX10, w ∈ wsX1_init := by decide +kernel
  have hl := lv_entry ([.ref p0, .int p1, .int p2]) (n := 3) (Nat.le_of_ble_eq_true rfl)
  rw [lg_entry_eq]
  generalize (lg_sl ([.ref p0, .int p1, .int p2]) ++ List.replicate (3 - (lg_sl ([.ref p0, .int p1, .int p2])).length) Slot.unset).toArray = ls at hl ⊢
  have hl : lv_has ls 3 [(0, .ref p0), (1, .int p1), (2, .int p2)] := hl
  refine lv_aload_n hx hb dX1_init_0 rfl (lv_at hl 0 rfl) ?_
  refine W.objInit hx hb hown (hts (.methodLink RX1 1 objectInit) (by decide +kernel)) (hts (.instanceMethod objectInit) (by decide +kernel)) (hts (.code objectInit ⟨#[0xb1]⟩ 1 none) (by decide +kernel)) rfl (by rw [hml]; exact hl.1) rfl dX1_init_1 (Nat.le_of_ble_eq_true rfl) (Nat.le_of_ble_eq_true rfl) ?_
  refine W.eq (g2 := F0 m 4 ls []) rfl ?_
  refine lv_aload_n hx hb dX1_init_4 rfl (lv_at hl 0 rfl) ?_
  refine z_new (ci := 2) (fs := [.null, .int 0]) (C := RX0) (T := TX0) (N := 2) hM hI hinX0 tyX0 tyX0_ok (by decide +kernel) (by decide +kernel) (by decide +kernel) rfl (by decide +kernel) (Nat.le_of_ble_eq_true rfl) (Nat.le_of_ble_eq_true rfl) dX1_init_5 (fun q1 H hI => ?_)
  have hI : zI D tc _ s.heap [(p0, .inr (3, [.int 0, .null, .null])), (q1, .inr (2, [.null, .int 0]))] L κ g _ _ := hI
  refine lv_dup hx hb dX1_init_8 rfl ?_
  refine z_cvX (Xc := [(q1, .inr (2, [.null, .int 0]))]) (wr := [(p0, .inr (3, [.int 0, .null, .null]))]) (rx := []) [1] [0] rfl rfl rfl rfl (by decide) hI (va_runIN (As := []) (rest := [.ref q1, .ref p0]) ⟨hx, hb, hml, hown, hts⟩ (c_X0_init l _ _ _ _ _ _ _ q1) ⟨va_cnB 0 hts gX1_init_X0_init_n9 rfl rfl rfl (hE.1 (.methodLinkNest RX1 9 yX0_init "Wattgovern") (by decide +kernel) rfl) (hts (.initialized yX0_init.cls) (by decide +kernel)) (by decide +kernel) ⟨Nat.le_of_ble_eq_true rfl, Nat.le_of_ble_eq_true rfl⟩, rfl, (hts (.instanceMethod yX0_init) (by decide +kernel))⟩ (z_pre (Xc := [(q1, .inr (2, [.null, .int 0]))]) hK hE hI [1] rfl rfl) rfl rfl hl.1 rfl (lv_room (Nat.le_of_ble_eq_true rfl)) dX1_init_9 ⟨Nat.le_of_ble_eq_true rfl, Nat.le_of_ble_eq_true rfl⟩) (fun u H locs hw hI => ?_)
  obtain ⟨L1, κ1, g1⟩ := u
  obtain ⟨hx2, hk2⟩ := hw
  dsimp only at hx2 hk2
  have hxt := hxt.tr hx2
  clear hx2
  have hI : zI D tc _ s.heap [(p0, .inr (3, [.int 0, .null, .null]))] L1 κ1 g1 _ _ := hI
  refine z_putXF (i := 0) (j := 1) hM hI hin2 rfl hinX1 tyX1 tyX1_ok nmX1 rfl (by decide) (by decide +kernel) (fun _ h9 => h9) rfl rfl rfl rfl rfl (Nat.le_of_ble_eq_true rfl) dX1_init_12 (fun H locs hI => ?_)
  have hI : zI D tc _ s.heap [(p0, .inr (3, [.int 0, .ref q1, .null]))] L1 κ1 g1 _ _ := hI
  refine lv_aload_n hx hb dX1_init_15 rfl (lv_at hl 0 rfl) ?_
  refine z_new (ci := 2) (fs := [.null, .int 0]) (C := RX0) (T := TX0) (N := 2) hM hI hinX0 tyX0 tyX0_ok (by decide +kernel) (by decide +kernel) (by decide +kernel) rfl (by decide +kernel) (Nat.le_of_ble_eq_true rfl) (Nat.le_of_ble_eq_true rfl) dX1_init_16 (fun q3 H hI => ?_)
  have hI : zI D tc _ s.heap [(p0, .inr (3, [.int 0, .ref q1, .null])), (q3, .inr (2, [.null, .int 0]))] L1 κ1 g1 _ _ := hI
  refine lv_dup hx hb dX1_init_19 rfl ?_
  refine z_cvX (Xc := [(q3, .inr (2, [.null, .int 0]))]) (wr := [(p0, .inr (3, [.int 0, .ref q1, .null]))]) (rx := []) [1] [0] rfl rfl rfl rfl (by decide) hI (va_runIN (As := []) (rest := [.ref q3, .ref p0]) ⟨hx, hb, hml, hown, hts⟩ (c_X0_init l _ _ _ _ _ _ _ q3) ⟨va_cnB 0 hts gX1_init_X0_init_n9 rfl rfl rfl (hE.1 (.methodLinkNest RX1 9 yX0_init "Wattgovern") (by decide +kernel) rfl) (hts (.initialized yX0_init.cls) (by decide +kernel)) (by decide +kernel) ⟨Nat.le_of_ble_eq_true rfl, Nat.le_of_ble_eq_true rfl⟩, rfl, (hts (.instanceMethod yX0_init) (by decide +kernel))⟩ (z_pre (Xc := [(q3, .inr (2, [.null, .int 0]))]) hK hE hI [1] rfl rfl) rfl rfl hl.1 rfl (lv_room (Nat.le_of_ble_eq_true rfl)) dX1_init_20 ⟨Nat.le_of_ble_eq_true rfl, Nat.le_of_ble_eq_true rfl⟩) (fun u H locs hw hI => ?_)
  obtain ⟨L2, κ2, g2⟩ := u
  obtain ⟨hx2, hk4⟩ := hw
  dsimp only at hx2 hk4
  have hk2 := hx2.k hk2 (by decide)
  have hxt := hxt.tr hx2
  clear hx2
  have hI : zI D tc _ s.heap [(p0, .inr (3, [.int 0, .ref q1, .null]))] L2 κ2 g2 _ _ := hI
  refine z_putXF (i := 0) (j := 2) hM hI hin2 rfl hinX1 tyX1 tyX1_ok nmX1 rfl (by decide) (by decide +kernel) (fun _ h9 => h9) rfl rfl rfl rfl rfl (Nat.le_of_ble_eq_true rfl) dX1_init_23 (fun H locs hI => ?_)
  have hI : zI D tc _ s.heap [(p0, .inr (3, [.int 0, .ref q1, .ref q3]))] L2 κ2 g2 _ _ := hI
  refine lv_aload_n hx hb dX1_init_26 rfl (lv_at hl 0 rfl) ?_
  refine lv_iload_n hx hb dX1_init_27 rfl (lv_at hl 2 rfl) ?_
  refine z_putXF (i := 0) (j := 0) hM hI hin2 rfl hinX1 tyX1 tyX1_ok nmX1 rfl (by decide) (by decide +kernel) (fun _ h9 => h9) rfl rfl rfl rfl rfl (Nat.le_of_ble_eq_true rfl) dX1_init_28 (fun H locs hI => ?_)
  have hI : zI D tc _ s.heap [(p0, .inr (3, [.int p2, .ref q1, .ref q3]))] L2 κ2 g2 _ _ := hI
  refine lv_aload_n hx hb dX1_init_31 rfl (lv_at hl 0 rfl) ?_
  refine z_getX (i := 0) (j := 1) hM hI rfl hinX1 rfl (by decide) (by decide +kernel) (fun _ h9 => h9) rfl dX1_init_32 ?_
  refine lv_iload_n hx hb dX1_init_35 rfl (lv_at hl 1 rfl) ?_
  refine z_cvX (Xc := []) (wr := [(p0, .inr (3, [.int p2, .ref q1, .ref q3]))]) (rx := []) [] [0] rfl rfl rfl rfl (by decide) hI (va_runV (As := [.int p1]) (rest := []) ⟨hx, hb, hml, hown, hts⟩ (c_X0_become l _ _ _ _ _ _ _ q1 hk2 p1) (cwV 1 hts gX1_init_X0_become rfl rfl rfl (by decide +kernel) ⟨Nat.le_of_ble_eq_true rfl, Nat.le_of_ble_eq_true rfl⟩) (z_preV (Xc := []) hK hE hI [] rfl rfl (z_recv hK hI hk2 rfl rfl)) rfl rfl hl.1 rfl (lv_room (Nat.le_of_ble_eq_true rfl)) dX1_init_36 ⟨Nat.le_of_ble_eq_true rfl, Nat.le_of_ble_eq_true rfl⟩) (fun u H locs hw hI => ?_)
  obtain rfl := hw
  have hI : zI D tc _ s.heap [(p0, .inr (3, [.int p2, .ref q1, .ref q3]))] L2 κ2 g2 _ _ := hI
  refine lv_aload_n hx hb dX1_init_39 rfl (lv_at hl 0 rfl) ?_
  refine z_getX (i := 0) (j := 2) hM hI rfl hinX1 rfl (by decide) (by decide +kernel) (fun _ h9 => h9) rfl dX1_init_40 ?_
  refine lv_aload_n hx hb dX1_init_43 rfl (lv_at hl 0 rfl) ?_
  refine z_getX (i := 0) (j := 1) hM hI rfl hinX1 rfl (by decide) (by decide +kernel) (fun _ h9 => h9) rfl dX1_init_44 ?_
  refine lv_iload_n hx hb dX1_init_47 rfl (lv_at hl 2 rfl) ?_
  refine z_cvX (Xc := []) (wr := [(p0, .inr (3, [.int p2, .ref q1, .ref q3]))]) (rx := []) [] [0] rfl rfl rfl rfl (by decide) hI (va_runV (As := [.ref q1, .int p2]) (rest := []) ⟨hx, hb, hml, hown, hts⟩ (c_X0_becomeQuotient l _ _ _ _ _ _ _ q3 hk4 q1 hk2 p2) (cwV 2 hts gX1_init_X0_becomeQuotient rfl rfl rfl (by decide +kernel) ⟨Nat.le_of_ble_eq_true rfl, Nat.le_of_ble_eq_true rfl⟩) (z_preV (Xc := []) hK hE hI [] rfl rfl (z_recv hK hI hk4 rfl rfl)) rfl rfl hl.1 rfl (lv_room (Nat.le_of_ble_eq_true rfl)) dX1_init_48 ⟨Nat.le_of_ble_eq_true rfl, Nat.le_of_ble_eq_true rfl⟩) (fun u H locs hw hI => ?_)
  obtain rfl := hw
  have hI : zI D tc _ s.heap [(p0, .inr (3, [.int p2, .ref q1, .ref q3]))] L2 κ2 g2 _ _ := hI
  obtain ⟨L3, κ3, g3, hx2, hk5, hv6, hI⟩ := z_poolG (k := 3) (fun _ => .null) hI (by decide) (fun κ9 g9 hκ9 hκ8 hg9 => zc_O rfl (zvs_cons ⟨_, rfl⟩ rfl (zvs_cons ⟨_, rfl, (hκ9 _ (by rw [hk2]; decide)).trans hk2⟩ rfl (zvs_cons ⟨_, rfl, (hκ9 _ (by rw [hk4]; decide)).trans hk4⟩ rfl zvs_nil))))
  have hk2 := hx2.k hk2 (by decide)
  have hk4 := hx2.k hk4 (by decide)
  have hxt := hxt.tr hx2
  clear hx2
  exact W.vret hx hb hr (fun t ht hW => ⟨⟨(L3, κ3, g3), rfl, ⟨hxt, hk5⟩, z_endG hK hI ht hW⟩, z_F hI ht⟩) (z_locs hI) dX1_init_51

set_option maxHeartbeats 4000000 in
set_option maxRecDepth 100000 in
theorem c_X2_init (l : Launch) (D : va_G) (tc : Nat → ClassId) (z0 : Nat) (L : List Nat) (κ : Nat → Nat) (g : Nat → Nat → Value) (sz : Nat) (p0 : Nat) : Met l yX2_init wsX2_init ({ frames := 4, cells := 7, slots := 57, locals := 90 }) (zPc D tc z0 [.ref p0] ([(p0, .inr (4, [.null, .null, .long 0, .int 0, .int 0]))] : va_W) (L, κ, g) sz) (va_Qv (fun (u : zS) => zExt κ g u.2.1 u.2.2 ∧ u.2.1 p0 = 4 ∧ u.2.2 p0 4 = .int 0) (fun (u : zS) (t : State) => zB D tc (zA ([(p0, .inr (4, [.null, .null, .long 0, .int 0, .int 0]))] : va_W) L sz) [] u t) (zA ([(p0, .inr (4, [.null, .null, .long 0, .int 0, .int 0]))] : va_W) L sz)) 7 57 (zA ([(p0, .inr (4, [.null, .null, .long 0, .int 0, .int 0]))] : va_W) L sz) := by
  refine Met.ofW (cc := cX2_init) (maxL := 1) (ret := none) (by decide) rfl ?_
  intro p e s m args below meth c s₁ B hml hv
  obtain ⟨rfl, rfl, hK, hE, hI⟩ := hv.opn
  have hx := B.exec
  have hb := B.bytes
  have hr := B.returns
  have hts := atoms_spec (ws := wsX2_init) B.pre
  have hown : s.vm.findClass RX2 = some m.cls := findClass_of_methodNamed B.named
  have hlocks := B.notSynchronized
  have hin2 : meth.name = "<init>" := (name_of_methodNamed B.named B.method).1
  have hM : zM p s m c cX2_init _ wsX2_init RX2 D tc := ⟨hx, hb, hts, hown, hK⟩
  have hxt : zExt κ g κ g := zExt.rf
  have hinX1 : ∀ w ∈ wsX10, w ∈ wsX2_init := by decide +kernel
  have hinX2 : ∀ w ∈ wsX20, w ∈ wsX2_init := by decide +kernel
  have hinX0 : ∀ w ∈ wsX00, w ∈ wsX2_init := by decide +kernel
  have hl := lv_entry ([.ref p0]) (n := 1) (Nat.le_of_ble_eq_true rfl)
  rw [lg_entry_eq]
  generalize (lg_sl ([.ref p0]) ++ List.replicate (1 - (lg_sl ([.ref p0])).length) Slot.unset).toArray = ls at hl ⊢
  have hl : lv_has ls 1 [(0, .ref p0)] := hl
  refine lv_aload_n hx hb dX2_init_0 rfl (lv_at hl 0 rfl) ?_
  refine W.objInit hx hb hown (hts (.methodLink RX2 3 objectInit) (by decide +kernel)) (hts (.instanceMethod objectInit) (by decide +kernel)) (hts (.code objectInit ⟨#[0xb1]⟩ 1 none) (by decide +kernel)) rfl (by rw [hml]; exact hl.1) rfl dX2_init_1 (Nat.le_of_ble_eq_true rfl) (Nat.le_of_ble_eq_true rfl) ?_
  refine W.eq (g2 := F0 m 4 ls []) rfl ?_
  refine lv_aload_n hx hb dX2_init_4 rfl (lv_at hl 0 rfl) ?_
  refine z_new (ci := 3) (fs := [.int 0, .null, .null]) (C := RX1) (T := TX1) (N := 3) hM hI hinX1 tyX1 tyX1_ok (by decide +kernel) (by decide +kernel) (by decide +kernel) rfl (by decide +kernel) (Nat.le_of_ble_eq_true rfl) (Nat.le_of_ble_eq_true rfl) dX2_init_5 (fun q1 H hI => ?_)
  have hI : zI D tc _ s.heap [(p0, .inr (4, [.null, .null, .long 0, .int 0, .int 0])), (q1, .inr (3, [.int 0, .null, .null]))] L κ g _ _ := hI
  refine lv_dup hx hb dX2_init_8 rfl ?_
  refine lv_sipush (v := 4000) hx hb dX2_init_9 (by decide) ?_
  refine lv_sipush (v := 200) hx hb dX2_init_12 (by decide) ?_
  refine z_cvX (Xc := [(q1, .inr (3, [.int 0, .null, .null]))]) (wr := [(p0, .inr (4, [.null, .null, .long 0, .int 0, .int 0]))]) (rx := []) [1] [0] rfl rfl rfl rfl (by decide) hI (va_runI (As := [.int 4000, .int 200]) (rest := [.ref q1, .ref p0]) ⟨hx, hb, hml, hown, hts⟩ (c_X1_init l _ _ _ _ _ _ _ q1 4000 200) (cwI 2 hts gX2_init_X1_init rfl rfl rfl (hts (.initialized RX1) (by decide +kernel)) (hts (.methodLink RX2 11 yX1_init) (by decide +kernel)) (hts (.instanceMethod yX1_init) (by decide +kernel)) rfl (by decide +kernel) ⟨Nat.le_of_ble_eq_true rfl, Nat.le_of_ble_eq_true rfl⟩) (z_pre (Xc := [(q1, .inr (3, [.int 0, .null, .null]))]) hK hE hI [1] rfl rfl) rfl rfl hl.1 rfl (lv_room (Nat.le_of_ble_eq_true rfl)) dX2_init_15 ⟨Nat.le_of_ble_eq_true rfl, Nat.le_of_ble_eq_true rfl⟩) (fun u H locs hw hI => ?_)
  obtain ⟨L1, κ1, g1⟩ := u
  obtain ⟨hx2, hk2⟩ := hw
  dsimp only at hx2 hk2
  have hxt := hxt.tr hx2
  clear hx2
  have hI : zI D tc _ s.heap [(p0, .inr (4, [.null, .null, .long 0, .int 0, .int 0]))] L1 κ1 g1 _ _ := hI
  refine z_putXF (i := 0) (j := 0) hM hI hin2 rfl hinX2 tyX2 tyX2_ok nmX2 rfl (by decide) (by decide +kernel) (fun _ h9 => h9) rfl rfl rfl rfl rfl (Nat.le_of_ble_eq_true rfl) dX2_init_18 (fun H locs hI => ?_)
  have hI : zI D tc _ s.heap [(p0, .inr (4, [.ref q1, .null, .long 0, .int 0, .int 0]))] L1 κ1 g1 _ _ := hI
  refine lv_aload_n hx hb dX2_init_21 rfl (lv_at hl 0 rfl) ?_
  refine z_new (ci := 2) (fs := [.null, .int 0]) (C := RX0) (T := TX0) (N := 2) hM hI hinX0 tyX0 tyX0_ok (by decide +kernel) (by decide +kernel) (by decide +kernel) rfl (by decide +kernel) (Nat.le_of_ble_eq_true rfl) (Nat.le_of_ble_eq_true rfl) dX2_init_22 (fun q3 H hI => ?_)
  have hI : zI D tc _ s.heap [(p0, .inr (4, [.ref q1, .null, .long 0, .int 0, .int 0])), (q3, .inr (2, [.null, .int 0]))] L1 κ1 g1 _ _ := hI
  refine lv_dup hx hb dX2_init_25 rfl ?_
  refine z_cvX (Xc := [(q3, .inr (2, [.null, .int 0]))]) (wr := [(p0, .inr (4, [.ref q1, .null, .long 0, .int 0, .int 0]))]) (rx := []) [1] [0] rfl rfl rfl rfl (by decide) hI (va_runIN (As := []) (rest := [.ref q3, .ref p0]) ⟨hx, hb, hml, hown, hts⟩ (c_X0_init l _ _ _ _ _ _ _ q3) ⟨va_cnB 0 hts gX2_init_X0_init_n22 rfl rfl rfl (hE.1 (.methodLinkNest RX2 22 yX0_init "Wattgovern") (by decide +kernel) rfl) (hts (.initialized yX0_init.cls) (by decide +kernel)) (by decide +kernel) ⟨Nat.le_of_ble_eq_true rfl, Nat.le_of_ble_eq_true rfl⟩, rfl, (hts (.instanceMethod yX0_init) (by decide +kernel))⟩ (z_pre (Xc := [(q3, .inr (2, [.null, .int 0]))]) hK hE hI [1] rfl rfl) rfl rfl hl.1 rfl (lv_room (Nat.le_of_ble_eq_true rfl)) dX2_init_26 ⟨Nat.le_of_ble_eq_true rfl, Nat.le_of_ble_eq_true rfl⟩) (fun u H locs hw hI => ?_)
  obtain ⟨L2, κ2, g2⟩ := u
  obtain ⟨hx2, hk4⟩ := hw
  dsimp only at hx2 hk4
  have hk2 := hx2.k hk2 (by decide)
  have hxt := hxt.tr hx2
  clear hx2
  have hI : zI D tc _ s.heap [(p0, .inr (4, [.ref q1, .null, .long 0, .int 0, .int 0]))] L2 κ2 g2 _ _ := hI
  refine z_putXF (i := 0) (j := 1) hM hI hin2 rfl hinX2 tyX2 tyX2_ok nmX2 rfl (by decide) (by decide +kernel) (fun _ h9 => h9) rfl rfl rfl rfl rfl (Nat.le_of_ble_eq_true rfl) dX2_init_29 (fun H locs hI => ?_)
  have hI : zI D tc _ s.heap [(p0, .inr (4, [.ref q1, .ref q3, .long 0, .int 0, .int 0]))] L2 κ2 g2 _ _ := hI
  refine lv_aload_n hx hb dX2_init_32 rfl (lv_at hl 0 rfl) ?_
  refine lv_lconst (v := 0) hx hb dX2_init_33 (by decide) ?_
  refine z_putX (i := 0) (j := 2) hM hI rfl hinX2 tyX2 tyX2_ok nmX2 rfl (by decide) (by decide +kernel) (fun _ h9 => h9) rfl rfl rfl rfl (Nat.le_of_ble_eq_true rfl) dX2_init_34 (fun H locs hI => ?_)
  have hI : zI D tc _ s.heap [(p0, .inr (4, [.ref q1, .ref q3, .long 0, .int 0, .int 0]))] L2 κ2 g2 _ _ := hI
  refine lv_aload_n hx hb dX2_init_37 rfl (lv_at hl 0 rfl) ?_
  refine lv_iconst (v := 0) hx hb dX2_init_38 (by decide) ?_
  refine z_putX (i := 0) (j := 3) hM hI rfl hinX2 tyX2 tyX2_ok nmX2 rfl (by decide) (by decide +kernel) (fun _ h9 => h9) rfl rfl rfl rfl (Nat.le_of_ble_eq_true rfl) dX2_init_39 (fun H locs hI => ?_)
  have hI : zI D tc _ s.heap [(p0, .inr (4, [.ref q1, .ref q3, .long 0, .int 0, .int 0]))] L2 κ2 g2 _ _ := hI
  refine lv_aload_n hx hb dX2_init_42 rfl (lv_at hl 0 rfl) ?_
  refine lv_iconst (v := 0) hx hb dX2_init_43 (by decide) ?_
  refine z_putX (i := 0) (j := 4) hM hI rfl hinX2 tyX2 tyX2_ok nmX2 rfl (by decide) (by decide +kernel) (fun _ h9 => h9) rfl rfl rfl rfl (Nat.le_of_ble_eq_true rfl) dX2_init_44 (fun H locs hI => ?_)
  have hI : zI D tc _ s.heap [(p0, .inr (4, [.ref q1, .ref q3, .long 0, .int 0, .int 0]))] L2 κ2 g2 _ _ := hI
  refine lv_aload_n hx hb dX2_init_47 rfl (lv_at hl 0 rfl) ?_
  refine z_getX (i := 0) (j := 1) hM hI rfl hinX2 rfl (by decide) (by decide +kernel) (fun _ h9 => h9) rfl dX2_init_48 ?_
  refine lv_bipush (v := 20) hx hb dX2_init_51 (by decide) ?_
  refine z_cvX (Xc := []) (wr := [(p0, .inr (4, [.ref q1, .ref q3, .long 0, .int 0, .int 0]))]) (rx := []) [] [0] rfl rfl rfl rfl (by decide) hI (va_runV (As := [.int 20]) (rest := []) ⟨hx, hb, hml, hown, hts⟩ (c_X0_become l _ _ _ _ _ _ _ q3 hk4 20) (cwV 1 hts gX2_init_X0_become rfl rfl rfl (by decide +kernel) ⟨Nat.le_of_ble_eq_true rfl, Nat.le_of_ble_eq_true rfl⟩) (z_preV (Xc := []) hK hE hI [] rfl rfl (z_recv hK hI hk4 rfl rfl)) rfl rfl hl.1 rfl (lv_room (Nat.le_of_ble_eq_true rfl)) dX2_init_53 ⟨Nat.le_of_ble_eq_true rfl, Nat.le_of_ble_eq_true rfl⟩) (fun u H locs hw hI => ?_)
  obtain rfl := hw
  have hI : zI D tc _ s.heap [(p0, .inr (4, [.ref q1, .ref q3, .long 0, .int 0, .int 0]))] L2 κ2 g2 _ _ := hI
  obtain ⟨L3, κ3, g3, hx2, hk5, hv6, hI⟩ := z_poolG (k := 4) (fun j => ([.ref q1, .ref q3, .long 0, .int 0, .int 0] : List Value).getD j .null) hI (by decide) (fun κ9 g9 hκ9 hκ8 hg9 => zc_O rfl (zvs_cons ⟨_, rfl, (hκ9 _ (by rw [hk2]; decide)).trans hk2⟩ rfl (zvs_cons ⟨_, rfl, (hκ9 _ (by rw [hk4]; decide)).trans hk4⟩ rfl (zvs_cons ⟨_, rfl⟩ rfl (zvs_cons ⟨_, rfl⟩ rfl (zvs_cons ⟨(hg9 4).symm, Or.inl rfl⟩ rfl zvs_nil))))))
  have hk2 := hx2.k hk2 (by decide)
  have hk4 := hx2.k hk4 (by decide)
  have hxt := hxt.tr hx2
  clear hx2
  have hf7 : g3 p0 4 = .int 0 := hv6 4
  exact W.vret hx hb hr (fun t ht hW => ⟨⟨(L3, κ3, g3), rfl, ⟨hxt, hk5, hf7⟩, z_endG hK hI ht hW⟩, z_F hI ht⟩) (z_locs hI) dX2_init_56

set_option maxHeartbeats 4000000 in
set_option maxRecDepth 100000 in
theorem c_X3_init (l : Launch) (D : va_G) (tc : Nat → ClassId) (z0 : Nat) (L : List Nat) (κ : Nat → Nat) (g : Nat → Nat → Value) (sz : Nat) (p0 : Nat) (p1 : Int32) (p2 : Nat) (hkp2 : κ p2 = 6) (p3 : Int32) (hp3 : p3 = 0 ∨ p3 = 1) : Met l yX3_init wsX3_init ({ frames := 4, cells := 5, slots := 39, locals := 90 }) (zPc D tc z0 [.ref p0, .int p1, .ref p2, .int p3] ([(p0, .inr (5, [.int 0, .null, .int 0, .int 0, .int 0, .int 0, .int 0, .int 0, .int 0, .int 0, .int 0, .int 0, .int 0, .int 0, .int 0, .null, .int 0, .int 0, .int 0, .int 0]))] : va_W) (L, κ, g) sz) (va_Qv (fun (u : zS) => zExt κ g u.2.1 u.2.2 ∧ u.2.1 p0 = 5 ∧ u.2.2 p0 3 = .int 108 ∧ u.2.2 p0 17 = .int 0) (fun (u : zS) (t : State) => zB D tc (zA ([(p0, .inr (5, [.int 0, .null, .int 0, .int 0, .int 0, .int 0, .int 0, .int 0, .int 0, .int 0, .int 0, .int 0, .int 0, .int 0, .int 0, .null, .int 0, .int 0, .int 0, .int 0]))] : va_W) L sz) [] u t) (zA ([(p0, .inr (5, [.int 0, .null, .int 0, .int 0, .int 0, .int 0, .int 0, .int 0, .int 0, .int 0, .int 0, .int 0, .int 0, .int 0, .int 0, .null, .int 0, .int 0, .int 0, .int 0]))] : va_W) L sz)) 5 39 (zA ([(p0, .inr (5, [.int 0, .null, .int 0, .int 0, .int 0, .int 0, .int 0, .int 0, .int 0, .int 0, .int 0, .int 0, .int 0, .int 0, .int 0, .null, .int 0, .int 0, .int 0, .int 0]))] : va_W) L sz) := by
  refine Met.ofW (cc := cX3_init) (maxL := 4) (ret := none) (by decide) rfl ?_
  intro p e s m args below meth c s₁ B hml hv
  obtain ⟨rfl, rfl, hK, hE, hI⟩ := hv.opn
  have hx := B.exec
  have hb := B.bytes
  have hr := B.returns
  have hts := atoms_spec (ws := wsX3_init) B.pre
  have hown : s.vm.findClass RX3 = some m.cls := findClass_of_methodNamed B.named
  have hlocks := B.notSynchronized
  have hin2 : meth.name = "<init>" := (name_of_methodNamed B.named B.method).1
  have hM : zM p s m c cX3_init _ wsX3_init RX3 D tc := ⟨hx, hb, hts, hown, hK⟩
  have hxt : zExt κ g κ g := zExt.rf
  have hinX3 : ∀ w ∈ wsX30, w ∈ wsX3_init := by decide +kernel
  have hinX1 : ∀ w ∈ wsX10, w ∈ wsX3_init := by decide +kernel
  have hl := lv_entry ([.ref p0, .int p1, .ref p2, .int p3]) (n := 4) (Nat.le_of_ble_eq_true rfl)
  rw [lg_entry_eq]
  generalize (lg_sl ([.ref p0, .int p1, .ref p2, .int p3]) ++ List.replicate (4 - (lg_sl ([.ref p0, .int p1, .ref p2, .int p3])).length) Slot.unset).toArray = ls at hl ⊢
  have hl : lv_has ls 4 [(0, .ref p0), (1, .int p1), (2, .ref p2), (3, .int p3)] := hl
  refine lv_aload_n hx hb dX3_init_0 rfl (lv_at hl 0 rfl) ?_
  refine W.objInit hx hb hown (hts (.methodLink RX3 3 objectInit) (by decide +kernel)) (hts (.instanceMethod objectInit) (by decide +kernel)) (hts (.code objectInit ⟨#[0xb1]⟩ 1 none) (by decide +kernel)) rfl (by rw [hml]; exact hl.1) rfl dX3_init_1 (Nat.le_of_ble_eq_true rfl) (Nat.le_of_ble_eq_true rfl) ?_
  refine W.eq (g2 := F0 m 4 ls []) rfl ?_
  refine lv_aload_n hx hb dX3_init_4 rfl (lv_at hl 0 rfl) ?_
  refine lv_bipush (v := 108) hx hb dX3_init_5 (by decide) ?_
  refine z_putX (i := 0) (j := 3) hM hI rfl hinX3 tyX3 tyX3_ok nmX3 rfl (by decide) (by decide +kernel) (fun _ h9 => h9) rfl rfl rfl rfl (Nat.le_of_ble_eq_true rfl) dX3_init_7 (fun H locs hI => ?_)
  have hI : zI D tc _ s.heap [(p0, .inr (5, [.int 0, .null, .int 0, .int 108, .int 0, .int 0, .int 0, .int 0, .int 0, .int 0, .int 0, .int 0, .int 0, .int 0, .int 0, .null, .int 0, .int 0, .int 0, .int 0]))] L κ g _ _ := hI
  refine lv_aload_n hx hb dX3_init_10 rfl (lv_at hl 0 rfl) ?_
  refine lv_iconst (v := 0) hx hb dX3_init_11 (by decide) ?_
  refine z_putX (i := 0) (j := 4) hM hI rfl hinX3 tyX3 tyX3_ok nmX3 rfl (by decide) (by decide +kernel) (fun _ h9 => h9) rfl rfl rfl rfl (Nat.le_of_ble_eq_true rfl) dX3_init_12 (fun H locs hI => ?_)
  have hI : zI D tc _ s.heap [(p0, .inr (5, [.int 0, .null, .int 0, .int 108, .int 0, .int 0, .int 0, .int 0, .int 0, .int 0, .int 0, .int 0, .int 0, .int 0, .int 0, .null, .int 0, .int 0, .int 0, .int 0]))] L κ g _ _ := hI
  refine lv_aload_n hx hb dX3_init_15 rfl (lv_at hl 0 rfl) ?_
  refine lv_iconst (v := 0) hx hb dX3_init_16 (by decide) ?_
  refine z_putX (i := 0) (j := 5) hM hI rfl hinX3 tyX3 tyX3_ok nmX3 rfl (by decide) (by decide +kernel) (fun _ h9 => h9) rfl rfl rfl rfl (Nat.le_of_ble_eq_true rfl) dX3_init_17 (fun H locs hI => ?_)
  have hI : zI D tc _ s.heap [(p0, .inr (5, [.int 0, .null, .int 0, .int 108, .int 0, .int 0, .int 0, .int 0, .int 0, .int 0, .int 0, .int 0, .int 0, .int 0, .int 0, .null, .int 0, .int 0, .int 0, .int 0]))] L κ g _ _ := hI
  refine lv_aload_n hx hb dX3_init_20 rfl (lv_at hl 0 rfl) ?_
  refine lv_iconst (v := 0) hx hb dX3_init_21 (by decide) ?_
  refine z_putX (i := 0) (j := 6) hM hI rfl hinX3 tyX3 tyX3_ok nmX3 rfl (by decide) (by decide +kernel) (fun _ h9 => h9) rfl rfl rfl rfl (Nat.le_of_ble_eq_true rfl) dX3_init_22 (fun H locs hI => ?_)
  have hI : zI D tc _ s.heap [(p0, .inr (5, [.int 0, .null, .int 0, .int 108, .int 0, .int 0, .int 0, .int 0, .int 0, .int 0, .int 0, .int 0, .int 0, .int 0, .int 0, .null, .int 0, .int 0, .int 0, .int 0]))] L κ g _ _ := hI
  refine lv_aload_n hx hb dX3_init_25 rfl (lv_at hl 0 rfl) ?_
  refine lv_iconst (v := 0) hx hb dX3_init_26 (by decide) ?_
  refine z_putX (i := 0) (j := 7) hM hI rfl hinX3 tyX3 tyX3_ok nmX3 rfl (by decide) (by decide +kernel) (fun _ h9 => h9) rfl rfl rfl rfl (Nat.le_of_ble_eq_true rfl) dX3_init_27 (fun H locs hI => ?_)
  have hI : zI D tc _ s.heap [(p0, .inr (5, [.int 0, .null, .int 0, .int 108, .int 0, .int 0, .int 0, .int 0, .int 0, .int 0, .int 0, .int 0, .int 0, .int 0, .int 0, .null, .int 0, .int 0, .int 0, .int 0]))] L κ g _ _ := hI
  refine lv_aload_n hx hb dX3_init_30 rfl (lv_at hl 0 rfl) ?_
  refine lv_bipush (v := 45) hx hb dX3_init_31 (by decide) ?_
  refine z_putX (i := 0) (j := 8) hM hI rfl hinX3 tyX3 tyX3_ok nmX3 rfl (by decide) (by decide +kernel) (fun _ h9 => h9) rfl rfl rfl rfl (Nat.le_of_ble_eq_true rfl) dX3_init_33 (fun H locs hI => ?_)
  have hI : zI D tc _ s.heap [(p0, .inr (5, [.int 0, .null, .int 0, .int 108, .int 0, .int 0, .int 0, .int 0, .int 45, .int 0, .int 0, .int 0, .int 0, .int 0, .int 0, .null, .int 0, .int 0, .int 0, .int 0]))] L κ g _ _ := hI
  refine lv_aload_n hx hb dX3_init_36 rfl (lv_at hl 0 rfl) ?_
  refine lv_bipush (v := 97) hx hb dX3_init_37 (by decide) ?_
  refine z_putX (i := 0) (j := 9) hM hI rfl hinX3 tyX3 tyX3_ok nmX3 rfl (by decide) (by decide +kernel) (fun _ h9 => h9) rfl rfl rfl rfl (Nat.le_of_ble_eq_true rfl) dX3_init_39 (fun H locs hI => ?_)
  have hI : zI D tc _ s.heap [(p0, .inr (5, [.int 0, .null, .int 0, .int 108, .int 0, .int 0, .int 0, .int 0, .int 45, .int 97, .int 0, .int 0, .int 0, .int 0, .int 0, .null, .int 0, .int 0, .int 0, .int 0]))] L κ g _ _ := hI
  refine lv_aload_n hx hb dX3_init_42 rfl (lv_at hl 0 rfl) ?_
  refine lv_iconst (v := 0) hx hb dX3_init_43 (by decide) ?_
  refine z_putX (i := 0) (j := 10) hM hI rfl hinX3 tyX3 tyX3_ok nmX3 rfl (by decide) (by decide +kernel) (fun _ h9 => h9) rfl rfl rfl rfl (Nat.le_of_ble_eq_true rfl) dX3_init_44 (fun H locs hI => ?_)
  have hI : zI D tc _ s.heap [(p0, .inr (5, [.int 0, .null, .int 0, .int 108, .int 0, .int 0, .int 0, .int 0, .int 45, .int 97, .int 0, .int 0, .int 0, .int 0, .int 0, .null, .int 0, .int 0, .int 0, .int 0]))] L κ g _ _ := hI
  refine lv_aload_n hx hb dX3_init_47 rfl (lv_at hl 0 rfl) ?_
  refine lv_iconst (v := 0) hx hb dX3_init_48 (by decide) ?_
  refine z_putX (i := 0) (j := 11) hM hI rfl hinX3 tyX3 tyX3_ok nmX3 rfl (by decide) (by decide +kernel) (fun _ h9 => h9) rfl rfl rfl rfl (Nat.le_of_ble_eq_true rfl) dX3_init_49 (fun H locs hI => ?_)
  have hI : zI D tc _ s.heap [(p0, .inr (5, [.int 0, .null, .int 0, .int 108, .int 0, .int 0, .int 0, .int 0, .int 45, .int 97, .int 0, .int 0, .int 0, .int 0, .int 0, .null, .int 0, .int 0, .int 0, .int 0]))] L κ g _ _ := hI
  refine lv_aload_n hx hb dX3_init_52 rfl (lv_at hl 0 rfl) ?_
  refine lv_iconst (v := 0) hx hb dX3_init_53 (by decide) ?_
  refine z_putX (i := 0) (j := 12) hM hI rfl hinX3 tyX3 tyX3_ok nmX3 rfl (by decide) (by decide +kernel) (fun _ h9 => h9) rfl rfl rfl rfl (Nat.le_of_ble_eq_true rfl) dX3_init_54 (fun H locs hI => ?_)
  have hI : zI D tc _ s.heap [(p0, .inr (5, [.int 0, .null, .int 0, .int 108, .int 0, .int 0, .int 0, .int 0, .int 45, .int 97, .int 0, .int 0, .int 0, .int 0, .int 0, .null, .int 0, .int 0, .int 0, .int 0]))] L κ g _ _ := hI
  refine lv_aload_n hx hb dX3_init_57 rfl (lv_at hl 0 rfl) ?_
  refine lv_iconst (v := 0) hx hb dX3_init_58 (by decide) ?_
  refine z_putX (i := 0) (j := 13) hM hI rfl hinX3 tyX3 tyX3_ok nmX3 rfl (by decide) (by decide +kernel) (fun _ h9 => h9) rfl rfl rfl rfl (Nat.le_of_ble_eq_true rfl) dX3_init_59 (fun H locs hI => ?_)
  have hI : zI D tc _ s.heap [(p0, .inr (5, [.int 0, .null, .int 0, .int 108, .int 0, .int 0, .int 0, .int 0, .int 45, .int 97, .int 0, .int 0, .int 0, .int 0, .int 0, .null, .int 0, .int 0, .int 0, .int 0]))] L κ g _ _ := hI
  refine lv_aload_n hx hb dX3_init_62 rfl (lv_at hl 0 rfl) ?_
  refine lv_iconst (v := 0) hx hb dX3_init_63 (by decide) ?_
  refine z_putX (i := 0) (j := 14) hM hI rfl hinX3 tyX3 tyX3_ok nmX3 rfl (by decide) (by decide +kernel) (fun _ h9 => h9) rfl rfl rfl rfl (Nat.le_of_ble_eq_true rfl) dX3_init_64 (fun H locs hI => ?_)
  have hI : zI D tc _ s.heap [(p0, .inr (5, [.int 0, .null, .int 0, .int 108, .int 0, .int 0, .int 0, .int 0, .int 45, .int 97, .int 0, .int 0, .int 0, .int 0, .int 0, .null, .int 0, .int 0, .int 0, .int 0]))] L κ g _ _ := hI
  refine lv_aload_n hx hb dX3_init_67 rfl (lv_at hl 0 rfl) ?_
  refine z_new (ci := 3) (fs := [.int 0, .null, .null]) (C := RX1) (T := TX1) (N := 3) hM hI hinX1 tyX1 tyX1_ok (by decide +kernel) (by decide +kernel) (by decide +kernel) rfl (by decide +kernel) (Nat.le_of_ble_eq_true rfl) (Nat.le_of_ble_eq_true rfl) dX3_init_68 (fun q1 H hI => ?_)
  have hI : zI D tc _ s.heap [(p0, .inr (5, [.int 0, .null, .int 0, .int 108, .int 0, .int 0, .int 0, .int 0, .int 45, .int 97, .int 0, .int 0, .int 0, .int 0, .int 0, .null, .int 0, .int 0, .int 0, .int 0])), (q1, .inr (3, [.int 0, .null, .null]))] L κ g _ _ := hI
  refine lv_dup hx hb dX3_init_71 rfl ?_
  refine lv_sipush (v := 400) hx hb dX3_init_72 (by decide) ?_
  refine lv_bipush (v := 20) hx hb dX3_init_75 (by decide) ?_
  refine z_cvX (Xc := [(q1, .inr (3, [.int 0, .null, .null]))]) (wr := [(p0, .inr (5, [.int 0, .null, .int 0, .int 108, .int 0, .int 0, .int 0, .int 0, .int 45, .int 97, .int 0, .int 0, .int 0, .int 0, .int 0, .null, .int 0, .int 0, .int 0, .int 0]))]) (rx := []) [1] [0] rfl rfl rfl rfl (by decide) hI (va_runI (As := [.int 400, .int 20]) (rest := [.ref q1, .ref p0]) ⟨hx, hb, hml, hown, hts⟩ (c_X1_init l _ _ _ _ _ _ _ q1 400 20) (cwI 2 hts gX3_init_X1_init rfl rfl rfl (hts (.initialized RX1) (by decide +kernel)) (hts (.methodLink RX3 52 yX1_init) (by decide +kernel)) (hts (.instanceMethod yX1_init) (by decide +kernel)) rfl (by decide +kernel) ⟨Nat.le_of_ble_eq_true rfl, Nat.le_of_ble_eq_true rfl⟩) (z_pre (Xc := [(q1, .inr (3, [.int 0, .null, .null]))]) hK hE hI [1] rfl rfl) rfl rfl hl.1 rfl (lv_room (Nat.le_of_ble_eq_true rfl)) dX3_init_77 ⟨Nat.le_of_ble_eq_true rfl, Nat.le_of_ble_eq_true rfl⟩) (fun u H locs hw hI => ?_)
  obtain ⟨L1, κ1, g1⟩ := u
  obtain ⟨hx2, hk2⟩ := hw
  dsimp only at hx2 hk2
  have hkp2 := hx2.k hkp2 (by decide)
  have hxt := hxt.tr hx2
  clear hx2
  have hI : zI D tc _ s.heap [(p0, .inr (5, [.int 0, .null, .int 0, .int 108, .int 0, .int 0, .int 0, .int 0, .int 45, .int 97, .int 0, .int 0, .int 0, .int 0, .int 0, .null, .int 0, .int 0, .int 0, .int 0]))] L1 κ1 g1 _ _ := hI
  refine z_putXF (i := 0) (j := 15) hM hI hin2 rfl hinX3 tyX3 tyX3_ok nmX3 rfl (by decide) (by decide +kernel) (fun _ h9 => h9) rfl rfl rfl rfl rfl (Nat.le_of_ble_eq_true rfl) dX3_init_80 (fun H locs hI => ?_)
  have hI : zI D tc _ s.heap [(p0, .inr (5, [.int 0, .null, .int 0, .int 108, .int 0, .int 0, .int 0, .int 0, .int 45, .int 97, .int 0, .int 0, .int 0, .int 0, .int 0, .ref q1, .int 0, .int 0, .int 0, .int 0]))] L1 κ1 g1 _ _ := hI
  refine lv_aload_n hx hb dX3_init_83 rfl (lv_at hl 0 rfl) ?_
  refine lv_bipush (v := 20) hx hb dX3_init_84 (by decide) ?_
  refine z_putX (i := 0) (j := 16) hM hI rfl hinX3 tyX3 tyX3_ok nmX3 rfl (by decide) (by decide +kernel) (fun _ h9 => h9) rfl rfl rfl rfl (Nat.le_of_ble_eq_true rfl) dX3_init_86 (fun H locs hI => ?_)
  have hI : zI D tc _ s.heap [(p0, .inr (5, [.int 0, .null, .int 0, .int 108, .int 0, .int 0, .int 0, .int 0, .int 45, .int 97, .int 0, .int 0, .int 0, .int 0, .int 0, .ref q1, .int 20, .int 0, .int 0, .int 0]))] L1 κ1 g1 _ _ := hI
  refine lv_aload_n hx hb dX3_init_89 rfl (lv_at hl 0 rfl) ?_
  refine lv_iconst (v := 0) hx hb dX3_init_90 (by decide) ?_
  refine z_putX (i := 0) (j := 17) hM hI rfl hinX3 tyX3 tyX3_ok nmX3 rfl (by decide) (by decide +kernel) (fun _ h9 => h9) rfl rfl rfl rfl (Nat.le_of_ble_eq_true rfl) dX3_init_91 (fun H locs hI => ?_)
  have hI : zI D tc _ s.heap [(p0, .inr (5, [.int 0, .null, .int 0, .int 108, .int 0, .int 0, .int 0, .int 0, .int 45, .int 97, .int 0, .int 0, .int 0, .int 0, .int 0, .ref q1, .int 20, .int 0, .int 0, .int 0]))] L1 κ1 g1 _ _ := hI
  refine lv_aload_n hx hb dX3_init_94 rfl (lv_at hl 0 rfl) ?_
  refine lv_iconst (v := 0) hx hb dX3_init_95 (by decide) ?_
  refine z_putX (i := 0) (j := 18) hM hI rfl hinX3 tyX3 tyX3_ok nmX3 rfl (by decide) (by decide +kernel) (fun _ h9 => h9) rfl rfl rfl rfl (Nat.le_of_ble_eq_true rfl) dX3_init_96 (fun H locs hI => ?_)
  have hI : zI D tc _ s.heap [(p0, .inr (5, [.int 0, .null, .int 0, .int 108, .int 0, .int 0, .int 0, .int 0, .int 45, .int 97, .int 0, .int 0, .int 0, .int 0, .int 0, .ref q1, .int 20, .int 0, .int 0, .int 0]))] L1 κ1 g1 _ _ := hI
  refine lv_aload_n hx hb dX3_init_99 rfl (lv_at hl 0 rfl) ?_
  refine lv_iconst (v := 0) hx hb dX3_init_100 (by decide) ?_
  refine z_putX (i := 0) (j := 19) hM hI rfl hinX3 tyX3 tyX3_ok nmX3 rfl (by decide) (by decide +kernel) (fun _ h9 => h9) rfl rfl rfl rfl (Nat.le_of_ble_eq_true rfl) dX3_init_101 (fun H locs hI => ?_)
  have hI : zI D tc _ s.heap [(p0, .inr (5, [.int 0, .null, .int 0, .int 108, .int 0, .int 0, .int 0, .int 0, .int 45, .int 97, .int 0, .int 0, .int 0, .int 0, .int 0, .ref q1, .int 20, .int 0, .int 0, .int 0]))] L1 κ1 g1 _ _ := hI
  refine lv_aload_n hx hb dX3_init_104 rfl (lv_at hl 0 rfl) ?_
  refine lv_iload_n hx hb dX3_init_105 rfl (lv_at hl 1 rfl) ?_
  refine z_putXF (i := 0) (j := 0) hM hI hin2 rfl hinX3 tyX3 tyX3_ok nmX3 rfl (by decide) (by decide +kernel) (fun _ h9 => h9) rfl rfl rfl rfl rfl (Nat.le_of_ble_eq_true rfl) dX3_init_106 (fun H locs hI => ?_)
  have hI : zI D tc _ s.heap [(p0, .inr (5, [.int p1, .null, .int 0, .int 108, .int 0, .int 0, .int 0, .int 0, .int 45, .int 97, .int 0, .int 0, .int 0, .int 0, .int 0, .ref q1, .int 20, .int 0, .int 0, .int 0]))] L1 κ1 g1 _ _ := hI
  refine lv_aload_n hx hb dX3_init_109 rfl (lv_at hl 0 rfl) ?_
  refine lv_aload_n hx hb dX3_init_110 rfl (lv_at hl 2 rfl) ?_
  refine z_putXF (i := 0) (j := 1) hM hI hin2 rfl hinX3 tyX3 tyX3_ok nmX3 rfl (by decide) (by decide +kernel) (fun _ h9 => h9) rfl rfl rfl rfl rfl (Nat.le_of_ble_eq_true rfl) dX3_init_111 (fun H locs hI => ?_)
  have hI : zI D tc _ s.heap [(p0, .inr (5, [.int p1, .ref p2, .int 0, .int 108, .int 0, .int 0, .int 0, .int 0, .int 45, .int 97, .int 0, .int 0, .int 0, .int 0, .int 0, .ref q1, .int 20, .int 0, .int 0, .int 0]))] L1 κ1 g1 _ _ := hI
  refine lv_aload_n hx hb dX3_init_114 rfl (lv_at hl 0 rfl) ?_
  refine lv_iload_n hx hb dX3_init_115 rfl (lv_at hl 3 rfl) ?_
  refine z_putXF (i := 0) (j := 2) hM hI hin2 rfl hinX3 tyX3 tyX3_ok nmX3 rfl (by decide) (by decide +kernel) (fun _ h9 => h9) rfl rfl rfl (z_bn hp3) (z_bf hp3) (Nat.le_of_ble_eq_true rfl) dX3_init_116 (fun H locs hI => ?_)
  have hI : zI D tc _ s.heap [(p0, .inr (5, [.int p1, .ref p2, .int p3, .int 108, .int 0, .int 0, .int 0, .int 0, .int 45, .int 97, .int 0, .int 0, .int 0, .int 0, .int 0, .ref q1, .int 20, .int 0, .int 0, .int 0]))] L1 κ1 g1 _ _ := hI
  obtain ⟨L2, κ2, g2, hx2, hk3, hv4, hI⟩ := z_poolG (k := 5) (fun j => ([.int p1, .ref p2, .int p3, .int 108, .int 0, .int 0, .int 0, .int 0, .int 45, .int 97, .int 0, .int 0, .int 0, .int 0, .int 0, .ref q1, .int 20, .int 0, .int 0, .int 0] : List Value).getD j .null) hI (by decide) (fun κ9 g9 hκ9 hκ8 hg9 => zc_O rfl (zvs_cons ⟨_, rfl⟩ rfl (zvs_cons ⟨_, rfl, (hκ9 _ (by rw [hkp2]; decide)).trans hkp2⟩ rfl (zvs_cons (z_bv hp3) rfl (zvs_cons ⟨(hg9 3).symm, _, rfl, by decide⟩ rfl (zvs_cons ⟨_, rfl⟩ rfl (zvs_cons ⟨_, rfl⟩ rfl (zvs_cons ⟨_, rfl⟩ rfl (zvs_cons ⟨_, rfl⟩ rfl (zvs_cons ⟨_, rfl, by decide⟩ rfl (zvs_cons ⟨_, rfl, by decide⟩ rfl (zvs_cons ⟨_, rfl⟩ rfl (zvs_cons ⟨_, rfl⟩ rfl (zvs_cons (Or.inl rfl) rfl (zvs_cons (Or.inl rfl) rfl (zvs_cons (Or.inl rfl) rfl (zvs_cons ⟨_, rfl, (hκ9 _ (by rw [hk2]; decide)).trans hk2⟩ rfl (zvs_cons ⟨_, rfl⟩ rfl (zvs_cons ⟨(hg9 17).symm, Or.inl rfl⟩ rfl (zvs_cons (Or.inl rfl) rfl (zvs_cons ⟨_, rfl⟩ rfl zvs_nil)))))))))))))))))))))
  have hkp2 := hx2.k hkp2 (by decide)
  have hk2 := hx2.k hk2 (by decide)
  have hxt := hxt.tr hx2
  clear hx2
  have hf5 : g2 p0 3 = .int 108 := hv4 3
  have hf6 : g2 p0 17 = .int 0 := hv4 17
  exact W.vret hx hb hr (fun t ht hW => ⟨⟨(L2, κ2, g2), rfl, ⟨hxt, hk3, hf5, hf6⟩, z_endG hK hI ht hW⟩, z_F hI ht⟩) (z_locs hI) dX3_init_119

set_option maxHeartbeats 4000000 in
set_option maxRecDepth 100000 in
theorem c_X4_init (l : Launch) (D : va_G) (tc : Nat → ClassId) (z0 : Nat) (L : List Nat) (κ : Nat → Nat) (g : Nat → Nat → Value) (sz : Nat) (p0 : Nat) : Met l yX4_init wsX4_init ({ frames := 1, cells := 0, slots := 0, locals := 20 }) (zPc D tc z0 [.ref p0] ([(p0, .inr (6, [.int 0, .int 0]))] : va_W) (L, κ, g) sz) (va_Qv (fun (u : zS) => zExt κ g u.2.1 u.2.2 ∧ u.2.1 p0 = 6) (fun (u : zS) (t : State) => zB D tc (zA ([(p0, .inr (6, [.int 0, .int 0]))] : va_W) L sz) [] u t) (zA ([(p0, .inr (6, [.int 0, .int 0]))] : va_W) L sz)) 0 0 (zA ([(p0, .inr (6, [.int 0, .int 0]))] : va_W) L sz) := by
  refine Met.ofW (cc := cX4_init) (maxL := 1) (ret := none) (by decide) rfl ?_
  intro p e s m args below meth c s₁ B hml hv
  obtain ⟨rfl, rfl, hK, hE, hI⟩ := hv.opn
  have hx := B.exec
  have hb := B.bytes
  have hr := B.returns
  have hts := atoms_spec (ws := wsX4_init) B.pre
  have hown : s.vm.findClass RX4 = some m.cls := findClass_of_methodNamed B.named
  have hlocks := B.notSynchronized
  have hin2 : meth.name = "<init>" := (name_of_methodNamed B.named B.method).1
  have hM : zM p s m c cX4_init _ wsX4_init RX4 D tc := ⟨hx, hb, hts, hown, hK⟩
  have hxt : zExt κ g κ g := zExt.rf
  have hinX4 : ∀ w ∈ wsX40, w ∈ wsX4_init := by decide +kernel
  have hl := lv_entry ([.ref p0]) (n := 1) (Nat.le_of_ble_eq_true rfl)
  rw [lg_entry_eq]
  generalize (lg_sl ([.ref p0]) ++ List.replicate (1 - (lg_sl ([.ref p0])).length) Slot.unset).toArray = ls at hl ⊢
  have hl : lv_has ls 1 [(0, .ref p0)] := hl
  refine lv_aload_n hx hb dX4_init_0 rfl (lv_at hl 0 rfl) ?_
  refine W.objInit hx hb hown (hts (.methodLink RX4 3 objectInit) (by decide +kernel)) (hts (.instanceMethod objectInit) (by decide +kernel)) (hts (.code objectInit ⟨#[0xb1]⟩ 1 none) (by decide +kernel)) rfl (by rw [hml]; exact hl.1) rfl dX4_init_1 (Nat.le_of_ble_eq_true rfl) (Nat.le_of_ble_eq_true rfl) ?_
  refine W.eq (g2 := F0 m 4 ls []) rfl ?_
  refine lv_aload_n hx hb dX4_init_4 rfl (lv_at hl 0 rfl) ?_
  refine lv_sipush (v := 500) hx hb dX4_init_5 (by decide) ?_
  refine z_putX (i := 0) (j := 0) hM hI rfl hinX4 tyX4 tyX4_ok nmX4 rfl (by decide) (by decide +kernel) (fun _ h9 => h9) rfl rfl rfl rfl (Nat.le_of_ble_eq_true rfl) dX4_init_8 (fun H locs hI => ?_)
  have hI : zI D tc _ s.heap [(p0, .inr (6, [.int 500, .int 0]))] L κ g _ _ := hI
  refine lv_aload_n hx hb dX4_init_11 rfl (lv_at hl 0 rfl) ?_
  refine lv_sipush (v := 500) hx hb dX4_init_12 (by decide) ?_
  refine z_putX (i := 0) (j := 1) hM hI rfl hinX4 tyX4 tyX4_ok nmX4 rfl (by decide) (by decide +kernel) (fun _ h9 => h9) rfl rfl rfl rfl (Nat.le_of_ble_eq_true rfl) dX4_init_15 (fun H locs hI => ?_)
  have hI : zI D tc _ s.heap [(p0, .inr (6, [.int 500, .int 500]))] L κ g _ _ := hI
  obtain ⟨L1, κ1, g1, hx2, hk1, hv2, hI⟩ := z_poolG (k := 6) (fun _ => .null) hI (by decide) (fun κ9 g9 hκ9 hκ8 hg9 => zc_O rfl (zvs_cons ⟨_, rfl⟩ rfl (zvs_cons ⟨_, rfl⟩ rfl zvs_nil)))
  have hxt := hxt.tr hx2
  clear hx2
  exact W.vret hx hb hr (fun t ht hW => ⟨⟨(L1, κ1, g1), rfl, ⟨hxt, hk1⟩, z_endG hK hI ht hW⟩, z_F hI ht⟩) (z_locs hI) dX4_init_18

set_option maxHeartbeats 4000000 in
set_option maxRecDepth 100000 in
theorem c_X5_init (l : Launch) (D : va_G) (tc : Nat → ClassId) (z0 : Nat) (L : List Nat) (κ : Nat → Nat) (g : Nat → Nat → Value) (sz : Nat) (p0 : Nat) : Met l yX5_init wsX5_init ({ frames := 1, cells := 0, slots := 0, locals := 20 }) (zPc D tc z0 [.ref p0] ([(p0, .inr (7, [.int 0, .int 0, .int 0, .int 0, .int 0, .int 0, .int 0]))] : va_W) (L, κ, g) sz) (va_Qv (fun (u : zS) => zExt κ g u.2.1 u.2.2 ∧ u.2.1 p0 = 7 ∧ u.2.2 p0 0 = .int 0 ∧ u.2.2 p0 1 = .int 0 ∧ u.2.2 p0 2 = .int 0 ∧ u.2.2 p0 4 = .int 0 ∧ u.2.2 p0 6 = .int 45) (fun (u : zS) (t : State) => zB D tc (zA ([(p0, .inr (7, [.int 0, .int 0, .int 0, .int 0, .int 0, .int 0, .int 0]))] : va_W) L sz) [] u t) (zA ([(p0, .inr (7, [.int 0, .int 0, .int 0, .int 0, .int 0, .int 0, .int 0]))] : va_W) L sz)) 0 0 (zA ([(p0, .inr (7, [.int 0, .int 0, .int 0, .int 0, .int 0, .int 0, .int 0]))] : va_W) L sz) := by
  refine Met.ofW (cc := cX5_init) (maxL := 1) (ret := none) (by decide) rfl ?_
  intro p e s m args below meth c s₁ B hml hv
  obtain ⟨rfl, rfl, hK, hE, hI⟩ := hv.opn
  have hx := B.exec
  have hb := B.bytes
  have hr := B.returns
  have hts := atoms_spec (ws := wsX5_init) B.pre
  have hown : s.vm.findClass RX5 = some m.cls := findClass_of_methodNamed B.named
  have hlocks := B.notSynchronized
  have hin2 : meth.name = "<init>" := (name_of_methodNamed B.named B.method).1
  have hM : zM p s m c cX5_init _ wsX5_init RX5 D tc := ⟨hx, hb, hts, hown, hK⟩
  have hxt : zExt κ g κ g := zExt.rf
  have hinX5 : ∀ w ∈ wsX50, w ∈ wsX5_init := by decide +kernel
  have hl := lv_entry ([.ref p0]) (n := 1) (Nat.le_of_ble_eq_true rfl)
  rw [lg_entry_eq]
  generalize (lg_sl ([.ref p0]) ++ List.replicate (1 - (lg_sl ([.ref p0])).length) Slot.unset).toArray = ls at hl ⊢
  have hl : lv_has ls 1 [(0, .ref p0)] := hl
  refine lv_aload_n hx hb dX5_init_0 rfl (lv_at hl 0 rfl) ?_
  refine W.objInit hx hb hown (hts (.methodLink RX5 3 objectInit) (by decide +kernel)) (hts (.instanceMethod objectInit) (by decide +kernel)) (hts (.code objectInit ⟨#[0xb1]⟩ 1 none) (by decide +kernel)) rfl (by rw [hml]; exact hl.1) rfl dX5_init_1 (Nat.le_of_ble_eq_true rfl) (Nat.le_of_ble_eq_true rfl) ?_
  refine W.eq (g2 := F0 m 4 ls []) rfl ?_
  refine lv_aload_n hx hb dX5_init_4 rfl (lv_at hl 0 rfl) ?_
  refine lv_iconst (v := 0) hx hb dX5_init_5 (by decide) ?_
  refine z_putX (i := 0) (j := 0) hM hI rfl hinX5 tyX5 tyX5_ok nmX5 rfl (by decide) (by decide +kernel) (fun _ h9 => h9) rfl rfl rfl rfl (Nat.le_of_ble_eq_true rfl) dX5_init_6 (fun H locs hI => ?_)
  have hI : zI D tc _ s.heap [(p0, .inr (7, [.int 0, .int 0, .int 0, .int 0, .int 0, .int 0, .int 0]))] L κ g _ _ := hI
  refine lv_aload_n hx hb dX5_init_9 rfl (lv_at hl 0 rfl) ?_
  refine lv_iconst (v := 0) hx hb dX5_init_10 (by decide) ?_
  refine z_putX (i := 0) (j := 1) hM hI rfl hinX5 tyX5 tyX5_ok nmX5 rfl (by decide) (by decide +kernel) (fun _ h9 => h9) rfl rfl rfl rfl (Nat.le_of_ble_eq_true rfl) dX5_init_11 (fun H locs hI => ?_)
  have hI : zI D tc _ s.heap [(p0, .inr (7, [.int 0, .int 0, .int 0, .int 0, .int 0, .int 0, .int 0]))] L κ g _ _ := hI
  refine lv_aload_n hx hb dX5_init_14 rfl (lv_at hl 0 rfl) ?_
  refine lv_iconst (v := 0) hx hb dX5_init_15 (by decide) ?_
  refine z_putX (i := 0) (j := 2) hM hI rfl hinX5 tyX5 tyX5_ok nmX5 rfl (by decide) (by decide +kernel) (fun _ h9 => h9) rfl rfl rfl rfl (Nat.le_of_ble_eq_true rfl) dX5_init_16 (fun H locs hI => ?_)
  have hI : zI D tc _ s.heap [(p0, .inr (7, [.int 0, .int 0, .int 0, .int 0, .int 0, .int 0, .int 0]))] L κ g _ _ := hI
  refine lv_aload_n hx hb dX5_init_19 rfl (lv_at hl 0 rfl) ?_
  refine lv_iconst (v := 0) hx hb dX5_init_20 (by decide) ?_
  refine z_putX (i := 0) (j := 3) hM hI rfl hinX5 tyX5 tyX5_ok nmX5 rfl (by decide) (by decide +kernel) (fun _ h9 => h9) rfl rfl rfl rfl (Nat.le_of_ble_eq_true rfl) dX5_init_21 (fun H locs hI => ?_)
  have hI : zI D tc _ s.heap [(p0, .inr (7, [.int 0, .int 0, .int 0, .int 0, .int 0, .int 0, .int 0]))] L κ g _ _ := hI
  refine lv_aload_n hx hb dX5_init_24 rfl (lv_at hl 0 rfl) ?_
  refine lv_iconst (v := 0) hx hb dX5_init_25 (by decide) ?_
  refine z_putX (i := 0) (j := 4) hM hI rfl hinX5 tyX5 tyX5_ok nmX5 rfl (by decide) (by decide +kernel) (fun _ h9 => h9) rfl rfl rfl rfl (Nat.le_of_ble_eq_true rfl) dX5_init_26 (fun H locs hI => ?_)
  have hI : zI D tc _ s.heap [(p0, .inr (7, [.int 0, .int 0, .int 0, .int 0, .int 0, .int 0, .int 0]))] L κ g _ _ := hI
  refine lv_aload_n hx hb dX5_init_29 rfl (lv_at hl 0 rfl) ?_
  refine lv_iconst (v := 0) hx hb dX5_init_30 (by decide) ?_
  refine z_putX (i := 0) (j := 5) hM hI rfl hinX5 tyX5 tyX5_ok nmX5 rfl (by decide) (by decide +kernel) (fun _ h9 => h9) rfl rfl rfl rfl (Nat.le_of_ble_eq_true rfl) dX5_init_31 (fun H locs hI => ?_)
  have hI : zI D tc _ s.heap [(p0, .inr (7, [.int 0, .int 0, .int 0, .int 0, .int 0, .int 0, .int 0]))] L κ g _ _ := hI
  refine lv_aload_n hx hb dX5_init_34 rfl (lv_at hl 0 rfl) ?_
  refine lv_bipush (v := 45) hx hb dX5_init_35 (by decide) ?_
  refine z_putX (i := 0) (j := 6) hM hI rfl hinX5 tyX5 tyX5_ok nmX5 rfl (by decide) (by decide +kernel) (fun _ h9 => h9) rfl rfl rfl rfl (Nat.le_of_ble_eq_true rfl) dX5_init_37 (fun H locs hI => ?_)
  have hI : zI D tc _ s.heap [(p0, .inr (7, [.int 0, .int 0, .int 0, .int 0, .int 0, .int 0, .int 45]))] L κ g _ _ := hI
  obtain ⟨L1, κ1, g1, hx2, hk1, hv2, hI⟩ := z_poolG (k := 7) (fun j => ([.int 0, .int 0, .int 0, .int 0, .int 0, .int 0, .int 45] : List Value).getD j .null) hI (by decide) (fun κ9 g9 hκ9 hκ8 hg9 => zc_O rfl (zvs_cons ⟨(hg9 0).symm, _, rfl⟩ rfl (zvs_cons ⟨(hg9 1).symm, _, rfl⟩ rfl (zvs_cons ⟨(hg9 2).symm, _, rfl⟩ rfl (zvs_cons ⟨_, rfl⟩ rfl (zvs_cons ⟨(hg9 4).symm, _, rfl⟩ rfl (zvs_cons ⟨_, rfl⟩ rfl (zvs_cons ⟨(hg9 6).symm, _, rfl, by decide⟩ rfl zvs_nil))))))))
  have hxt := hxt.tr hx2
  clear hx2
  have hf3 : g1 p0 0 = .int 0 := hv2 0
  have hf4 : g1 p0 1 = .int 0 := hv2 1
  have hf5 : g1 p0 2 = .int 0 := hv2 2
  have hf6 : g1 p0 4 = .int 0 := hv2 4
  have hf7 : g1 p0 6 = .int 45 := hv2 6
  exact W.vret hx hb hr (fun t ht hW => ⟨⟨(L1, κ1, g1), rfl, ⟨hxt, hk1, hf3, hf4, hf5, hf6, hf7⟩, z_endG hK hI ht hW⟩, z_F hI ht⟩) (z_locs hI) dX5_init_40

set_option maxHeartbeats 4000000 in
set_option maxRecDepth 100000 in
theorem c_X6_init (l : Launch) (D : va_G) (tc : Nat → ClassId) (z0 : Nat) (L : List Nat) (κ : Nat → Nat) (g : Nat → Nat → Value) (sz : Nat) (p0 : Nat) : Met l yX6_init wsX6_init ({ frames := 1, cells := 0, slots := 0, locals := 20 }) (zPc D tc z0 [.ref p0] ([(p0, .inr (8, [.int 0, .int 0, .int 0, .long 0, .long 0, .int 0, .long 0, .long 0, .long 0, .long 0]))] : va_W) (L, κ, g) sz) (va_Qv (fun (u : zS) => zExt κ g u.2.1 u.2.2 ∧ u.2.1 p0 = 8 ∧ u.2.2 p0 0 = .int 200) (fun (u : zS) (t : State) => zB D tc (zA ([(p0, .inr (8, [.int 0, .int 0, .int 0, .long 0, .long 0, .int 0, .long 0, .long 0, .long 0, .long 0]))] : va_W) L sz) [] u t) (zA ([(p0, .inr (8, [.int 0, .int 0, .int 0, .long 0, .long 0, .int 0, .long 0, .long 0, .long 0, .long 0]))] : va_W) L sz)) 0 0 (zA ([(p0, .inr (8, [.int 0, .int 0, .int 0, .long 0, .long 0, .int 0, .long 0, .long 0, .long 0, .long 0]))] : va_W) L sz) := by
  refine Met.ofW (cc := cX6_init) (maxL := 1) (ret := none) (by decide) rfl ?_
  intro p e s m args below meth c s₁ B hml hv
  obtain ⟨rfl, rfl, hK, hE, hI⟩ := hv.opn
  have hx := B.exec
  have hb := B.bytes
  have hr := B.returns
  have hts := atoms_spec (ws := wsX6_init) B.pre
  have hown : s.vm.findClass RX6 = some m.cls := findClass_of_methodNamed B.named
  have hlocks := B.notSynchronized
  have hin2 : meth.name = "<init>" := (name_of_methodNamed B.named B.method).1
  have hM : zM p s m c cX6_init _ wsX6_init RX6 D tc := ⟨hx, hb, hts, hown, hK⟩
  have hxt : zExt κ g κ g := zExt.rf
  have hinX6 : ∀ w ∈ wsX60, w ∈ wsX6_init := by decide +kernel
  have hl := lv_entry ([.ref p0]) (n := 1) (Nat.le_of_ble_eq_true rfl)
  rw [lg_entry_eq]
  generalize (lg_sl ([.ref p0]) ++ List.replicate (1 - (lg_sl ([.ref p0])).length) Slot.unset).toArray = ls at hl ⊢
  have hl : lv_has ls 1 [(0, .ref p0)] := hl
  refine lv_aload_n hx hb dX6_init_0 rfl (lv_at hl 0 rfl) ?_
  refine W.objInit hx hb hown (hts (.methodLink RX6 3 objectInit) (by decide +kernel)) (hts (.instanceMethod objectInit) (by decide +kernel)) (hts (.code objectInit ⟨#[0xb1]⟩ 1 none) (by decide +kernel)) rfl (by rw [hml]; exact hl.1) rfl dX6_init_1 (Nat.le_of_ble_eq_true rfl) (Nat.le_of_ble_eq_true rfl) ?_
  refine W.eq (g2 := F0 m 4 ls []) rfl ?_
  refine lv_aload_n hx hb dX6_init_4 rfl (lv_at hl 0 rfl) ?_
  refine lv_sipush (v := 200) hx hb dX6_init_5 (by decide) ?_
  refine z_putX (i := 0) (j := 0) hM hI rfl hinX6 tyX6 tyX6_ok nmX6 rfl (by decide) (by decide +kernel) (fun _ h9 => h9) rfl rfl rfl rfl (Nat.le_of_ble_eq_true rfl) dX6_init_8 (fun H locs hI => ?_)
  have hI : zI D tc _ s.heap [(p0, .inr (8, [.int 200, .int 0, .int 0, .long 0, .long 0, .int 0, .long 0, .long 0, .long 0, .long 0]))] L κ g _ _ := hI
  refine lv_aload_n hx hb dX6_init_11 rfl (lv_at hl 0 rfl) ?_
  refine lv_sipush (v := 5000) hx hb dX6_init_12 (by decide) ?_
  refine z_putX (i := 0) (j := 1) hM hI rfl hinX6 tyX6 tyX6_ok nmX6 rfl (by decide) (by decide +kernel) (fun _ h9 => h9) rfl rfl rfl rfl (Nat.le_of_ble_eq_true rfl) dX6_init_15 (fun H locs hI => ?_)
  have hI : zI D tc _ s.heap [(p0, .inr (8, [.int 200, .int 5000, .int 0, .long 0, .long 0, .int 0, .long 0, .long 0, .long 0, .long 0]))] L κ g _ _ := hI
  refine lv_aload_n hx hb dX6_init_18 rfl (lv_at hl 0 rfl) ?_
  refine lv_sipush (v := 600) hx hb dX6_init_19 (by decide) ?_
  refine z_putX (i := 0) (j := 2) hM hI rfl hinX6 tyX6 tyX6_ok nmX6 rfl (by decide) (by decide +kernel) (fun _ h9 => h9) rfl rfl rfl rfl (Nat.le_of_ble_eq_true rfl) dX6_init_22 (fun H locs hI => ?_)
  have hI : zI D tc _ s.heap [(p0, .inr (8, [.int 200, .int 5000, .int 600, .long 0, .long 0, .int 0, .long 0, .long 0, .long 0, .long 0]))] L κ g _ _ := hI
  refine lv_aload_n hx hb dX6_init_25 rfl (lv_at hl 0 rfl) ?_
  refine lv_lconst (v := 0) hx hb dX6_init_26 (by decide) ?_
  refine z_putX (i := 0) (j := 3) hM hI rfl hinX6 tyX6 tyX6_ok nmX6 rfl (by decide) (by decide +kernel) (fun _ h9 => h9) rfl rfl rfl rfl (Nat.le_of_ble_eq_true rfl) dX6_init_27 (fun H locs hI => ?_)
  have hI : zI D tc _ s.heap [(p0, .inr (8, [.int 200, .int 5000, .int 600, .long 0, .long 0, .int 0, .long 0, .long 0, .long 0, .long 0]))] L κ g _ _ := hI
  refine lv_aload_n hx hb dX6_init_30 rfl (lv_at hl 0 rfl) ?_
  refine lv_lconst (v := 0) hx hb dX6_init_31 (by decide) ?_
  refine z_putX (i := 0) (j := 4) hM hI rfl hinX6 tyX6 tyX6_ok nmX6 rfl (by decide) (by decide +kernel) (fun _ h9 => h9) rfl rfl rfl rfl (Nat.le_of_ble_eq_true rfl) dX6_init_32 (fun H locs hI => ?_)
  have hI : zI D tc _ s.heap [(p0, .inr (8, [.int 200, .int 5000, .int 600, .long 0, .long 0, .int 0, .long 0, .long 0, .long 0, .long 0]))] L κ g _ _ := hI
  refine lv_aload_n hx hb dX6_init_35 rfl (lv_at hl 0 rfl) ?_
  refine lv_iconst (v := 0) hx hb dX6_init_36 (by decide) ?_
  refine z_putX (i := 0) (j := 5) hM hI rfl hinX6 tyX6 tyX6_ok nmX6 rfl (by decide) (by decide +kernel) (fun _ h9 => h9) rfl rfl rfl rfl (Nat.le_of_ble_eq_true rfl) dX6_init_37 (fun H locs hI => ?_)
  have hI : zI D tc _ s.heap [(p0, .inr (8, [.int 200, .int 5000, .int 600, .long 0, .long 0, .int 0, .long 0, .long 0, .long 0, .long 0]))] L κ g _ _ := hI
  refine lv_aload_n hx hb dX6_init_40 rfl (lv_at hl 0 rfl) ?_
  refine lv_lconst (v := 0) hx hb dX6_init_41 (by decide) ?_
  refine z_putX (i := 0) (j := 6) hM hI rfl hinX6 tyX6 tyX6_ok nmX6 rfl (by decide) (by decide +kernel) (fun _ h9 => h9) rfl rfl rfl rfl (Nat.le_of_ble_eq_true rfl) dX6_init_42 (fun H locs hI => ?_)
  have hI : zI D tc _ s.heap [(p0, .inr (8, [.int 200, .int 5000, .int 600, .long 0, .long 0, .int 0, .long 0, .long 0, .long 0, .long 0]))] L κ g _ _ := hI
  refine lv_aload_n hx hb dX6_init_45 rfl (lv_at hl 0 rfl) ?_
  refine lv_lconst (v := 0) hx hb dX6_init_46 (by decide) ?_
  refine z_putX (i := 0) (j := 7) hM hI rfl hinX6 tyX6 tyX6_ok nmX6 rfl (by decide) (by decide +kernel) (fun _ h9 => h9) rfl rfl rfl rfl (Nat.le_of_ble_eq_true rfl) dX6_init_47 (fun H locs hI => ?_)
  have hI : zI D tc _ s.heap [(p0, .inr (8, [.int 200, .int 5000, .int 600, .long 0, .long 0, .int 0, .long 0, .long 0, .long 0, .long 0]))] L κ g _ _ := hI
  refine lv_aload_n hx hb dX6_init_50 rfl (lv_at hl 0 rfl) ?_
  refine lv_lconst (v := 0) hx hb dX6_init_51 (by decide) ?_
  refine z_putX (i := 0) (j := 8) hM hI rfl hinX6 tyX6 tyX6_ok nmX6 rfl (by decide) (by decide +kernel) (fun _ h9 => h9) rfl rfl rfl rfl (Nat.le_of_ble_eq_true rfl) dX6_init_52 (fun H locs hI => ?_)
  have hI : zI D tc _ s.heap [(p0, .inr (8, [.int 200, .int 5000, .int 600, .long 0, .long 0, .int 0, .long 0, .long 0, .long 0, .long 0]))] L κ g _ _ := hI
  refine lv_aload_n hx hb dX6_init_55 rfl (lv_at hl 0 rfl) ?_
  refine lv_lconst (v := 0) hx hb dX6_init_56 (by decide) ?_
  refine z_putX (i := 0) (j := 9) hM hI rfl hinX6 tyX6 tyX6_ok nmX6 rfl (by decide) (by decide +kernel) (fun _ h9 => h9) rfl rfl rfl rfl (Nat.le_of_ble_eq_true rfl) dX6_init_57 (fun H locs hI => ?_)
  have hI : zI D tc _ s.heap [(p0, .inr (8, [.int 200, .int 5000, .int 600, .long 0, .long 0, .int 0, .long 0, .long 0, .long 0, .long 0]))] L κ g _ _ := hI
  obtain ⟨L1, κ1, g1, hx2, hk1, hv2, hI⟩ := z_poolG (k := 8) (fun j => ([.int 200, .int 5000, .int 600, .long 0, .long 0, .int 0, .long 0, .long 0, .long 0, .long 0] : List Value).getD j .null) hI (by decide) (fun κ9 g9 hκ9 hκ8 hg9 => zc_O rfl (zvs_cons ⟨(hg9 0).symm, _, rfl⟩ rfl (zvs_cons ⟨_, rfl⟩ rfl (zvs_cons ⟨_, rfl⟩ rfl (zvs_cons ⟨_, rfl⟩ rfl (zvs_cons ⟨_, rfl⟩ rfl (zvs_cons (Or.inl rfl) rfl (zvs_cons ⟨_, rfl⟩ rfl (zvs_cons ⟨_, rfl⟩ rfl (zvs_cons ⟨_, rfl⟩ rfl (zvs_cons ⟨_, rfl⟩ rfl zvs_nil)))))))))))
  have hxt := hxt.tr hx2
  clear hx2
  have hf3 : g1 p0 0 = .int 200 := hv2 0
  exact W.vret hx hb hr (fun t ht hW => ⟨⟨(L1, κ1, g1), rfl, ⟨hxt, hk1, hf3⟩, z_endG hK hI ht hW⟩, z_F hI ht⟩) (z_locs hI) dX6_init_60

set_option maxHeartbeats 4000000 in
set_option maxRecDepth 100000 in
theorem c_X7_init (l : Launch) (D : va_G) (tc : Nat → ClassId) (z0 : Nat) (L : List Nat) (κ : Nat → Nat) (g : Nat → Nat → Value) (sz : Nat) (p0 : Nat) (p1 : Int32) (p2 : Int32) (p3 : Int32) : Met l yX7_init wsX7_init ({ frames := 1, cells := 0, slots := 0, locals := 20 }) (zPc D tc z0 [.ref p0, .int p1, .int p2, .int p3] ([(p0, .inr (9, [.int 0, .int 0, .int 0, .int 0]))] : va_W) (L, κ, g) sz) (va_Qv (fun (u : zS) => zExt κ g u.2.1 u.2.2 ∧ u.2.1 p0 = 9 ∧ u.2.2 p0 1 = .int p1) (fun (u : zS) (t : State) => zB D tc (zA ([(p0, .inr (9, [.int 0, .int 0, .int 0, .int 0]))] : va_W) L sz) [] u t) (zA ([(p0, .inr (9, [.int 0, .int 0, .int 0, .int 0]))] : va_W) L sz)) 0 0 (zA ([(p0, .inr (9, [.int 0, .int 0, .int 0, .int 0]))] : va_W) L sz) := by
  refine Met.ofW (cc := cX7_init) (maxL := 4) (ret := none) (by decide) rfl ?_
  intro p e s m args below meth c s₁ B hml hv
  obtain ⟨rfl, rfl, hK, hE, hI⟩ := hv.opn
  have hx := B.exec
  have hb := B.bytes
  have hr := B.returns
  have hts := atoms_spec (ws := wsX7_init) B.pre
  have hown : s.vm.findClass RX7 = some m.cls := findClass_of_methodNamed B.named
  have hlocks := B.notSynchronized
  have hin2 : meth.name = "<init>" := (name_of_methodNamed B.named B.method).1
  have hM : zM p s m c cX7_init _ wsX7_init RX7 D tc := ⟨hx, hb, hts, hown, hK⟩
  have hxt : zExt κ g κ g := zExt.rf
  have hinX7 : ∀ w ∈ wsX70, w ∈ wsX7_init := by decide +kernel
  have hl := lv_entry ([.ref p0, .int p1, .int p2, .int p3]) (n := 4) (Nat.le_of_ble_eq_true rfl)
  rw [lg_entry_eq]
  generalize (lg_sl ([.ref p0, .int p1, .int p2, .int p3]) ++ List.replicate (4 - (lg_sl ([.ref p0, .int p1, .int p2, .int p3])).length) Slot.unset).toArray = ls at hl ⊢
  have hl : lv_has ls 4 [(0, .ref p0), (1, .int p1), (2, .int p2), (3, .int p3)] := hl
  refine lv_aload_n hx hb dX7_init_0 rfl (lv_at hl 0 rfl) ?_
  refine W.objInit hx hb hown (hts (.methodLink RX7 1 objectInit) (by decide +kernel)) (hts (.instanceMethod objectInit) (by decide +kernel)) (hts (.code objectInit ⟨#[0xb1]⟩ 1 none) (by decide +kernel)) rfl (by rw [hml]; exact hl.1) rfl dX7_init_1 (Nat.le_of_ble_eq_true rfl) (Nat.le_of_ble_eq_true rfl) ?_
  refine W.eq (g2 := F0 m 4 ls []) rfl ?_
  refine lv_aload_n hx hb dX7_init_4 rfl (lv_at hl 0 rfl) ?_
  refine lv_iconst (v := 0) hx hb dX7_init_5 (by decide) ?_
  refine z_putX (i := 0) (j := 3) hM hI rfl hinX7 tyX7 tyX7_ok nmX7 rfl (by decide) (by decide +kernel) (fun _ h9 => h9) rfl rfl rfl rfl (Nat.le_of_ble_eq_true rfl) dX7_init_6 (fun H locs hI => ?_)
  have hI : zI D tc _ s.heap [(p0, .inr (9, [.int 0, .int 0, .int 0, .int 0]))] L κ g _ _ := hI
  refine lv_aload_n hx hb dX7_init_9 rfl (lv_at hl 0 rfl) ?_
  refine lv_iload_n hx hb dX7_init_10 rfl (lv_at hl 1 rfl) ?_
  refine z_putX (i := 0) (j := 1) hM hI rfl hinX7 tyX7 tyX7_ok nmX7 rfl (by decide) (by decide +kernel) (fun _ h9 => h9) rfl rfl rfl rfl (Nat.le_of_ble_eq_true rfl) dX7_init_11 (fun H locs hI => ?_)
  have hI : zI D tc _ s.heap [(p0, .inr (9, [.int 0, .int p1, .int 0, .int 0]))] L κ g _ _ := hI
  refine lv_aload_n hx hb dX7_init_14 rfl (lv_at hl 0 rfl) ?_
  refine lv_iload_n hx hb dX7_init_15 rfl (lv_at hl 2 rfl) ?_
  refine z_putX (i := 0) (j := 2) hM hI rfl hinX7 tyX7 tyX7_ok nmX7 rfl (by decide) (by decide +kernel) (fun _ h9 => h9) rfl rfl rfl rfl (Nat.le_of_ble_eq_true rfl) dX7_init_16 (fun H locs hI => ?_)
  have hI : zI D tc _ s.heap [(p0, .inr (9, [.int 0, .int p1, .int p2, .int 0]))] L κ g _ _ := hI
  refine lv_aload_n hx hb dX7_init_19 rfl (lv_at hl 0 rfl) ?_
  refine lv_iload_n hx hb dX7_init_20 rfl (lv_at hl 3 rfl) ?_
  refine z_putXF (i := 0) (j := 0) hM hI hin2 rfl hinX7 tyX7 tyX7_ok nmX7 rfl (by decide) (by decide +kernel) (fun _ h9 => h9) rfl rfl rfl rfl rfl (Nat.le_of_ble_eq_true rfl) dX7_init_21 (fun H locs hI => ?_)
  have hI : zI D tc _ s.heap [(p0, .inr (9, [.int p3, .int p1, .int p2, .int 0]))] L κ g _ _ := hI
  obtain ⟨L1, κ1, g1, hx2, hk1, hv2, hI⟩ := z_poolG (k := 9) (fun j => ([.int p3, .int p1, .int p2, .int 0] : List Value).getD j .null) hI (by decide) (fun κ9 g9 hκ9 hκ8 hg9 => zc_O rfl (zvs_cons ⟨_, rfl⟩ rfl (zvs_cons ⟨(hg9 1).symm, _, rfl⟩ rfl (zvs_cons ⟨_, rfl⟩ rfl (zvs_cons ⟨_, rfl⟩ rfl zvs_nil)))))
  have hxt := hxt.tr hx2
  clear hx2
  have hf3 : g1 p0 1 = .int p1 := hv2 1
  exact W.vret hx hb hr (fun t ht hW => ⟨⟨(L1, κ1, g1), rfl, ⟨hxt, hk1, hf3⟩, z_endG hK hI ht hW⟩, z_F hI ht⟩) (z_locs hI) dX7_init_24

set_option maxHeartbeats 4000000 in
set_option maxRecDepth 100000 in
theorem c_X8_init (l : Launch) (D : va_G) (tc : Nat → ClassId) (z0 : Nat) (L : List Nat) (κ : Nat → Nat) (g : Nat → Nat → Value) (sz : Nat) (p0 : Nat) : Met l yX8_init wsX8_init ({ frames := 5, cells := 20, slots := 138, locals := 110 }) (zPc D tc z0 [.ref p0] ([(p0, .inr (10, [.null, .null, .null, .null, .null, .null, .null, .null, .int 0, .long 0]))] : va_W) (L, κ, g) sz) (va_Qv (fun (u : zS) => zExt κ g u.2.1 u.2.2 ∧ u.2.1 p0 = 10 ∧ ∃ pr pc pt pk ps pq : Nat, u.2.2 p0 0 = .ref pr ∧ u.2.1 pr = 22 ∧ u.2.2 p0 1 = .ref pc ∧ u.2.1 pc = 23 ∧ (∀ j, u.2.2 pc j = .null) ∧ u.2.2 p0 2 = .ref pt ∧ u.2.1 pt = 24 ∧ (∀ j, u.2.2 pt j = .null) ∧ u.2.2 p0 3 = .ref pk ∧ u.2.1 pk = 4 ∧ u.2.2 pk 4 = .int 0 ∧ u.2.2 p0 4 = .ref ps ∧ u.2.1 ps = 8 ∧ u.2.2 ps 0 = .int 200 ∧ u.2.2 p0 5 = .ref pq ∧ u.2.1 pq = 7 ∧ u.2.2 pq 0 = .int 0 ∧ u.2.2 pq 1 = .int 0 ∧ u.2.2 pq 2 = .int 0 ∧ u.2.2 pq 4 = .int 0 ∧ u.2.2 pq 6 = .int 45 ∧ u.2.2 p0 8 = .int 0) (fun (u : zS) (t : State) => zB D tc (zA ([(p0, .inr (10, [.null, .null, .null, .null, .null, .null, .null, .null, .int 0, .long 0]))] : va_W) L sz) [] u t) (zA ([(p0, .inr (10, [.null, .null, .null, .null, .null, .null, .null, .null, .int 0, .long 0]))] : va_W) L sz)) 20 138 (zA ([(p0, .inr (10, [.null, .null, .null, .null, .null, .null, .null, .null, .int 0, .long 0]))] : va_W) L sz) := by
  refine Met.ofW (cc := cX8_init) (maxL := 2) (ret := none) (by decide) rfl ?_
  intro p e s m args below meth c s₁ B hml hv
  obtain ⟨rfl, rfl, hK, hE, hI⟩ := hv.opn
  have hx := B.exec
  have hb := B.bytes
  have hr := B.returns
  have hts := atoms_spec (ws := wsX8_init) B.pre
  have hown : s.vm.findClass RX8 = some m.cls := findClass_of_methodNamed B.named
  have hlocks := B.notSynchronized
  have hin2 : meth.name = "<init>" := (name_of_methodNamed B.named B.method).1
  have hM : zM p s m c cX8_init _ wsX8_init RX8 D tc := ⟨hx, hb, hts, hown, hK⟩
  have hxt : zExt κ g κ g := zExt.rf
  have hinX8 : ∀ w ∈ wsX80, w ∈ wsX8_init := by decide +kernel
  have hinX2 : ∀ w ∈ wsX20, w ∈ wsX8_init := by decide +kernel
  have hinX6 : ∀ w ∈ wsX60, w ∈ wsX8_init := by decide +kernel
  have hinX5 : ∀ w ∈ wsX50, w ∈ wsX8_init := by decide +kernel
  have hinX0 : ∀ w ∈ wsX00, w ∈ wsX8_init := by decide +kernel
  have hinX4 : ∀ w ∈ wsX40, w ∈ wsX8_init := by decide +kernel
  have hl := lv_entry ([.ref p0]) (n := 2) (Nat.le_of_ble_eq_true rfl)
  rw [lg_entry_eq]
  generalize (lg_sl ([.ref p0]) ++ List.replicate (2 - (lg_sl ([.ref p0])).length) Slot.unset).toArray = ls at hl ⊢
  have hl : lv_has ls 2 [(0, .ref p0)] := hl
  refine lv_aload_n hx hb dX8_init_0 rfl (lv_at hl 0 rfl) ?_
  refine W.objInit hx hb hown (hts (.methodLink RX8 1 objectInit) (by decide +kernel)) (hts (.instanceMethod objectInit) (by decide +kernel)) (hts (.code objectInit ⟨#[0xb1]⟩ 1 none) (by decide +kernel)) rfl (by rw [hml]; exact hl.1) rfl dX8_init_1 (Nat.le_of_ble_eq_true rfl) (Nat.le_of_ble_eq_true rfl) ?_
  refine W.eq (g2 := F0 m 4 ls []) rfl ?_
  refine lv_aload_n hx hb dX8_init_4 rfl (lv_at hl 0 rfl) ?_
  refine lv_iconst (v := 3) hx hb dX8_init_5 (by decide) ?_
  refine z_newq (C := "Wattgovern$Rail") (ti := 4) (n := 3) hM hE hI (by decide +kernel) (by decide +kernel) rfl (by decide) (by decide) (by decide) (Nat.le_of_ble_eq_true rfl) (Nat.le_of_ble_eq_true rfl) dX8_init_6 (fun q1 H hI => ?_)
  have hI : zI D tc _ s.heap [(p0, .inr (10, [.null, .null, .null, .null, .null, .null, .null, .null, .int 0, .long 0])), (q1, .inl (tc 4, 3, .inr (.inr (.inr (.inr (fun _ => none))))))] L κ g _ _ := hI
  refine z_putXF (i := 0) (j := 0) hM hI hin2 rfl hinX8 tyX8 tyX8_ok nmX8 rfl (by decide) (by decide +kernel) (fun _ h9 => h9) rfl rfl rfl rfl rfl (Nat.le_of_ble_eq_true rfl) dX8_init_9 (fun H locs hI => ?_)
  have hI : zI D tc _ s.heap [(p0, .inr (10, [.ref q1, .null, .null, .null, .null, .null, .null, .null, .int 0, .long 0])), (q1, .inl (tc 4, 3, .inr (.inr (.inr (.inr (fun _ => none))))))] L κ g _ _ := hI
  refine lv_aload_n hx hb dX8_init_12 rfl (lv_at hl 0 rfl) ?_
  refine lv_bipush (v := 6) hx hb dX8_init_13 (by decide) ?_
  refine z_newq (C := "Wattgovern$Core") (ti := 3) (n := 6) hM hE hI (by decide +kernel) (by decide +kernel) rfl (by decide) (by decide) (by decide) (Nat.le_of_ble_eq_true rfl) (Nat.le_of_ble_eq_true rfl) dX8_init_15 (fun q2 H hI => ?_)
  have hI : zI D tc _ s.heap [(p0, .inr (10, [.ref q1, .null, .null, .null, .null, .null, .null, .null, .int 0, .long 0])), (q1, .inl (tc 4, 3, .inr (.inr (.inr (.inr (fun _ => none)))))), (q2, .inl (tc 3, 6, .inr (.inr (.inr (.inr (fun _ => none))))))] L κ g _ _ := hI
  have hI := z_part (X' := [(q2, .inl (tc 3, 6, .inr (.inr (.inr (.inr (fun _ => none)))))), (p0, .inr (10, [.ref q1, .null, .null, .null, .null, .null, .null, .null, .int 0, .long 0])), (q1, .inl (tc 4, 3, .inr (.inr (.inr (.inr (fun _ => none))))))]) [2, 0, 1] rfl rfl hI
  obtain ⟨L1, κ1, g1, hx2, hk3, hv4, hI⟩ := z_poolG (k := 23) (fun _ => .null) hI (by decide) (fun κ9 g9 hκ9 hκ8 hg9 => Or.inr ⟨rfl, 3, 6, 4, (12, 5), fun j => .null, rfl, ⟨_, rfl, fun j hj => rfl⟩, fun j hj => ⟨(hg9 j).symm, Or.inl rfl⟩⟩)
  have hxt := hxt.tr hx2
  clear hx2
  refine z_putXF (i := 0) (j := 1) hM hI hin2 rfl hinX8 tyX8 tyX8_ok nmX8 rfl (by decide) (by decide +kernel) (fun _ h9 => h9) rfl rfl rfl rfl rfl (Nat.le_of_ble_eq_true rfl) dX8_init_18 (fun H locs hI => ?_)
  have hI : zI D tc _ s.heap [(p0, .inr (10, [.ref q1, .ref q2, .null, .null, .null, .null, .null, .null, .int 0, .long 0])), (q1, .inl (tc 4, 3, .inr (.inr (.inr (.inr (fun _ => none))))))] L1 κ1 g1 _ _ := hI
  refine lv_aload_n hx hb dX8_init_21 rfl (lv_at hl 0 rfl) ?_
  refine lv_bipush (v := 8) hx hb dX8_init_22 (by decide) ?_
  refine z_newq (C := "Wattgovern$Task") (ti := 5) (n := 8) hM hE hI (by decide +kernel) (by decide +kernel) rfl (by decide) (by decide) (by decide) (Nat.le_of_ble_eq_true rfl) (Nat.le_of_ble_eq_true rfl) dX8_init_24 (fun q5 H hI => ?_)
  have hI : zI D tc _ s.heap [(p0, .inr (10, [.ref q1, .ref q2, .null, .null, .null, .null, .null, .null, .int 0, .long 0])), (q1, .inl (tc 4, 3, .inr (.inr (.inr (.inr (fun _ => none)))))), (q5, .inl (tc 5, 8, .inr (.inr (.inr (.inr (fun _ => none))))))] L1 κ1 g1 _ _ := hI
  have hI := z_part (X' := [(q5, .inl (tc 5, 8, .inr (.inr (.inr (.inr (fun _ => none)))))), (p0, .inr (10, [.ref q1, .ref q2, .null, .null, .null, .null, .null, .null, .int 0, .long 0])), (q1, .inl (tc 4, 3, .inr (.inr (.inr (.inr (fun _ => none))))))]) [2, 0, 1] rfl rfl hI
  obtain ⟨L2, κ2, g2, hx2, hk6, hv7, hI⟩ := z_poolG (k := 24) (fun _ => .null) hI (by decide) (fun κ9 g9 hκ9 hκ8 hg9 => Or.inr ⟨rfl, 5, 8, 4, (12, 9), fun j => .null, rfl, ⟨_, rfl, fun j hj => rfl⟩, fun j hj => ⟨(hg9 j).symm, Or.inl rfl⟩⟩)
  have hv4 := fun j => hx2.g hk3 (by decide) (hv4 j)
  have hk3 := hx2.k hk3 (by decide)
  have hxt := hxt.tr hx2
  clear hx2
  refine z_putXF (i := 0) (j := 2) hM hI hin2 rfl hinX8 tyX8 tyX8_ok nmX8 rfl (by decide) (by decide +kernel) (fun _ h9 => h9) rfl rfl rfl rfl rfl (Nat.le_of_ble_eq_true rfl) dX8_init_27 (fun H locs hI => ?_)
  have hI : zI D tc _ s.heap [(p0, .inr (10, [.ref q1, .ref q2, .ref q5, .null, .null, .null, .null, .null, .int 0, .long 0])), (q1, .inl (tc 4, 3, .inr (.inr (.inr (.inr (fun _ => none))))))] L2 κ2 g2 _ _ := hI
  refine lv_aload_n hx hb dX8_init_30 rfl (lv_at hl 0 rfl) ?_
  refine z_new (ci := 4) (fs := [.null, .null, .long 0, .int 0, .int 0]) (C := RX2) (T := TX2) (N := 5) hM hI hinX2 tyX2 tyX2_ok (by decide +kernel) (by decide +kernel) (by decide +kernel) rfl (by decide +kernel) (Nat.le_of_ble_eq_true rfl) (Nat.le_of_ble_eq_true rfl) dX8_init_31 (fun q8 H hI => ?_)
  have hI : zI D tc _ s.heap [(p0, .inr (10, [.ref q1, .ref q2, .ref q5, .null, .null, .null, .null, .null, .int 0, .long 0])), (q1, .inl (tc 4, 3, .inr (.inr (.inr (.inr (fun _ => none)))))), (q8, .inr (4, [.null, .null, .long 0, .int 0, .int 0]))] L2 κ2 g2 _ _ := hI
  refine lv_dup hx hb dX8_init_34 rfl ?_
  refine z_cvX (Xc := [(q8, .inr (4, [.null, .null, .long 0, .int 0, .int 0]))]) (wr := [(p0, .inr (10, [.ref q1, .ref q2, .ref q5, .null, .null, .null, .null, .null, .int 0, .long 0])), (q1, .inl (tc 4, 3, .inr (.inr (.inr (.inr (fun _ => none))))))]) (rx := []) [2] [0, 1] rfl rfl rfl rfl (by decide) hI (va_runI (As := []) (rest := [.ref q8, .ref p0]) ⟨hx, hb, hml, hown, hts⟩ (c_X2_init l _ _ _ _ _ _ _ q8) (cwI 0 hts gX8_init_X2_init rfl rfl rfl (hts (.initialized RX2) (by decide +kernel)) (hts (.methodLink RX8 29 yX2_init) (by decide +kernel)) (hts (.instanceMethod yX2_init) (by decide +kernel)) rfl (by decide +kernel) ⟨Nat.le_of_ble_eq_true rfl, Nat.le_of_ble_eq_true rfl⟩) (z_pre (Xc := [(q8, .inr (4, [.null, .null, .long 0, .int 0, .int 0]))]) hK hE hI [2] rfl rfl) rfl rfl hl.1 rfl (lv_room (Nat.le_of_ble_eq_true rfl)) dX8_init_35 ⟨Nat.le_of_ble_eq_true rfl, Nat.le_of_ble_eq_true rfl⟩) (fun u H locs hw hI => ?_)
  obtain ⟨L3, κ3, g3⟩ := u
  obtain ⟨hx2, hk9, hf10⟩ := hw
  dsimp only at hx2 hk9 hf10
  have hv4 := fun j => hx2.g hk3 (by decide) (hv4 j)
  have hv7 := fun j => hx2.g hk6 (by decide) (hv7 j)
  have hk3 := hx2.k hk3 (by decide)
  have hk6 := hx2.k hk6 (by decide)
  have hxt := hxt.tr hx2
  clear hx2
  have hI : zI D tc _ s.heap [(p0, .inr (10, [.ref q1, .ref q2, .ref q5, .null, .null, .null, .null, .null, .int 0, .long 0])), (q1, .inl (tc 4, 3, .inr (.inr (.inr (.inr (fun _ => none))))))] L3 κ3 g3 _ _ := hI
  refine z_putXF (i := 0) (j := 3) hM hI hin2 rfl hinX8 tyX8 tyX8_ok nmX8 rfl (by decide) (by decide +kernel) (fun _ h9 => h9) rfl rfl rfl rfl rfl (Nat.le_of_ble_eq_true rfl) dX8_init_38 (fun H locs hI => ?_)
  have hI : zI D tc _ s.heap [(p0, .inr (10, [.ref q1, .ref q2, .ref q5, .ref q8, .null, .null, .null, .null, .int 0, .long 0])), (q1, .inl (tc 4, 3, .inr (.inr (.inr (.inr (fun _ => none))))))] L3 κ3 g3 _ _ := hI
  refine lv_aload_n hx hb dX8_init_41 rfl (lv_at hl 0 rfl) ?_
  refine z_new (ci := 8) (fs := [.int 0, .int 0, .int 0, .long 0, .long 0, .int 0, .long 0, .long 0, .long 0, .long 0]) (C := RX6) (T := TX6) (N := 10) hM hI hinX6 tyX6 tyX6_ok (by decide +kernel) (by decide +kernel) (by decide +kernel) rfl (by decide +kernel) (Nat.le_of_ble_eq_true rfl) (Nat.le_of_ble_eq_true rfl) dX8_init_42 (fun q11 H hI => ?_)
  have hI : zI D tc _ s.heap [(p0, .inr (10, [.ref q1, .ref q2, .ref q5, .ref q8, .null, .null, .null, .null, .int 0, .long 0])), (q1, .inl (tc 4, 3, .inr (.inr (.inr (.inr (fun _ => none)))))), (q11, .inr (8, [.int 0, .int 0, .int 0, .long 0, .long 0, .int 0, .long 0, .long 0, .long 0, .long 0]))] L3 κ3 g3 _ _ := hI
  refine lv_dup hx hb dX8_init_45 rfl ?_
  refine z_cvX (Xc := [(q11, .inr (8, [.int 0, .int 0, .int 0, .long 0, .long 0, .int 0, .long 0, .long 0, .long 0, .long 0]))]) (wr := [(p0, .inr (10, [.ref q1, .ref q2, .ref q5, .ref q8, .null, .null, .null, .null, .int 0, .long 0])), (q1, .inl (tc 4, 3, .inr (.inr (.inr (.inr (fun _ => none))))))]) (rx := []) [2] [0, 1] rfl rfl rfl rfl (by decide) hI (va_runIN (As := []) (rest := [.ref q11, .ref p0]) ⟨hx, hb, hml, hown, hts⟩ (c_X6_init l _ _ _ _ _ _ _ q11) ⟨va_cnB 0 hts gX8_init_X6_init_n36 rfl rfl rfl (hE.1 (.methodLinkNest RX8 36 yX6_init "Wattgovern") (by decide +kernel) rfl) (hts (.initialized yX6_init.cls) (by decide +kernel)) (by decide +kernel) ⟨Nat.le_of_ble_eq_true rfl, Nat.le_of_ble_eq_true rfl⟩, rfl, (hts (.instanceMethod yX6_init) (by decide +kernel))⟩ (z_pre (Xc := [(q11, .inr (8, [.int 0, .int 0, .int 0, .long 0, .long 0, .int 0, .long 0, .long 0, .long 0, .long 0]))]) hK hE hI [2] rfl rfl) rfl rfl hl.1 rfl (lv_room (Nat.le_of_ble_eq_true rfl)) dX8_init_46 ⟨Nat.le_of_ble_eq_true rfl, Nat.le_of_ble_eq_true rfl⟩) (fun u H locs hw hI => ?_)
  obtain ⟨L4, κ4, g4⟩ := u
  obtain ⟨hx2, hk12, hf13⟩ := hw
  dsimp only at hx2 hk12 hf13
  have hv4 := fun j => hx2.g hk3 (by decide) (hv4 j)
  have hv7 := fun j => hx2.g hk6 (by decide) (hv7 j)
  have hf10 := hx2.g hk9 (by decide) hf10
  have hk3 := hx2.k hk3 (by decide)
  have hk6 := hx2.k hk6 (by decide)
  have hk9 := hx2.k hk9 (by decide)
  have hxt := hxt.tr hx2
  clear hx2
  have hI : zI D tc _ s.heap [(p0, .inr (10, [.ref q1, .ref q2, .ref q5, .ref q8, .null, .null, .null, .null, .int 0, .long 0])), (q1, .inl (tc 4, 3, .inr (.inr (.inr (.inr (fun _ => none))))))] L4 κ4 g4 _ _ := hI
  refine z_putXF (i := 0) (j := 4) hM hI hin2 rfl hinX8 tyX8 tyX8_ok nmX8 rfl (by decide) (by decide +kernel) (fun _ h9 => h9) rfl rfl rfl rfl rfl (Nat.le_of_ble_eq_true rfl) dX8_init_49 (fun H locs hI => ?_)
  have hI : zI D tc _ s.heap [(p0, .inr (10, [.ref q1, .ref q2, .ref q5, .ref q8, .ref q11, .null, .null, .null, .int 0, .long 0])), (q1, .inl (tc 4, 3, .inr (.inr (.inr (.inr (fun _ => none))))))] L4 κ4 g4 _ _ := hI
  refine lv_aload_n hx hb dX8_init_52 rfl (lv_at hl 0 rfl) ?_
  refine z_new (ci := 7) (fs := [.int 0, .int 0, .int 0, .int 0, .int 0, .int 0, .int 0]) (C := RX5) (T := TX5) (N := 7) hM hI hinX5 tyX5 tyX5_ok (by decide +kernel) (by decide +kernel) (by decide +kernel) rfl (by decide +kernel) (Nat.le_of_ble_eq_true rfl) (Nat.le_of_ble_eq_true rfl) dX8_init_53 (fun q14 H hI => ?_)
  have hI : zI D tc _ s.heap [(p0, .inr (10, [.ref q1, .ref q2, .ref q5, .ref q8, .ref q11, .null, .null, .null, .int 0, .long 0])), (q1, .inl (tc 4, 3, .inr (.inr (.inr (.inr (fun _ => none)))))), (q14, .inr (7, [.int 0, .int 0, .int 0, .int 0, .int 0, .int 0, .int 0]))] L4 κ4 g4 _ _ := hI
  refine lv_dup hx hb dX8_init_56 rfl ?_
  refine z_cvX (Xc := [(q14, .inr (7, [.int 0, .int 0, .int 0, .int 0, .int 0, .int 0, .int 0]))]) (wr := [(p0, .inr (10, [.ref q1, .ref q2, .ref q5, .ref q8, .ref q11, .null, .null, .null, .int 0, .long 0])), (q1, .inl (tc 4, 3, .inr (.inr (.inr (.inr (fun _ => none))))))]) (rx := []) [2] [0, 1] rfl rfl rfl rfl (by decide) hI (va_runIN (As := []) (rest := [.ref q14, .ref p0]) ⟨hx, hb, hml, hown, hts⟩ (c_X5_init l _ _ _ _ _ _ _ q14) ⟨va_cnB 0 hts gX8_init_X5_init_n43 rfl rfl rfl (hE.1 (.methodLinkNest RX8 43 yX5_init "Wattgovern") (by decide +kernel) rfl) (hts (.initialized yX5_init.cls) (by decide +kernel)) (by decide +kernel) ⟨Nat.le_of_ble_eq_true rfl, Nat.le_of_ble_eq_true rfl⟩, rfl, (hts (.instanceMethod yX5_init) (by decide +kernel))⟩ (z_pre (Xc := [(q14, .inr (7, [.int 0, .int 0, .int 0, .int 0, .int 0, .int 0, .int 0]))]) hK hE hI [2] rfl rfl) rfl rfl hl.1 rfl (lv_room (Nat.le_of_ble_eq_true rfl)) dX8_init_57 ⟨Nat.le_of_ble_eq_true rfl, Nat.le_of_ble_eq_true rfl⟩) (fun u H locs hw hI => ?_)
  obtain ⟨L5, κ5, g5⟩ := u
  obtain ⟨hx2, hk15, hf16, hf17, hf18, hf19, hf20⟩ := hw
  dsimp only at hx2 hk15 hf16 hf17 hf18 hf19 hf20
  have hv4 := fun j => hx2.g hk3 (by decide) (hv4 j)
  have hv7 := fun j => hx2.g hk6 (by decide) (hv7 j)
  have hf10 := hx2.g hk9 (by decide) hf10
  have hf13 := hx2.g hk12 (by decide) hf13
  have hk3 := hx2.k hk3 (by decide)
  have hk6 := hx2.k hk6 (by decide)
  have hk9 := hx2.k hk9 (by decide)
  have hk12 := hx2.k hk12 (by decide)
  have hxt := hxt.tr hx2
  clear hx2
  have hI : zI D tc _ s.heap [(p0, .inr (10, [.ref q1, .ref q2, .ref q5, .ref q8, .ref q11, .null, .null, .null, .int 0, .long 0])), (q1, .inl (tc 4, 3, .inr (.inr (.inr (.inr (fun _ => none))))))] L5 κ5 g5 _ _ := hI
  refine z_putXF (i := 0) (j := 5) hM hI hin2 rfl hinX8 tyX8 tyX8_ok nmX8 rfl (by decide) (by decide +kernel) (fun _ h9 => h9) rfl rfl rfl rfl rfl (Nat.le_of_ble_eq_true rfl) dX8_init_60 (fun H locs hI => ?_)
  have hI : zI D tc _ s.heap [(p0, .inr (10, [.ref q1, .ref q2, .ref q5, .ref q8, .ref q11, .ref q14, .null, .null, .int 0, .long 0])), (q1, .inl (tc 4, 3, .inr (.inr (.inr (.inr (fun _ => none))))))] L5 κ5 g5 _ _ := hI
  refine lv_aload_n hx hb dX8_init_63 rfl (lv_at hl 0 rfl) ?_
  refine z_new (ci := 2) (fs := [.null, .int 0]) (C := RX0) (T := TX0) (N := 2) hM hI hinX0 tyX0 tyX0_ok (by decide +kernel) (by decide +kernel) (by decide +kernel) rfl (by decide +kernel) (Nat.le_of_ble_eq_true rfl) (Nat.le_of_ble_eq_true rfl) dX8_init_64 (fun q21 H hI => ?_)
  have hI : zI D tc _ s.heap [(p0, .inr (10, [.ref q1, .ref q2, .ref q5, .ref q8, .ref q11, .ref q14, .null, .null, .int 0, .long 0])), (q1, .inl (tc 4, 3, .inr (.inr (.inr (.inr (fun _ => none)))))), (q21, .inr (2, [.null, .int 0]))] L5 κ5 g5 _ _ := hI
  refine lv_dup hx hb dX8_init_67 rfl ?_
  refine z_cvX (Xc := [(q21, .inr (2, [.null, .int 0]))]) (wr := [(p0, .inr (10, [.ref q1, .ref q2, .ref q5, .ref q8, .ref q11, .ref q14, .null, .null, .int 0, .long 0])), (q1, .inl (tc 4, 3, .inr (.inr (.inr (.inr (fun _ => none))))))]) (rx := []) [2] [0, 1] rfl rfl rfl rfl (by decide) hI (va_runIN (As := []) (rest := [.ref q21, .ref p0]) ⟨hx, hb, hml, hown, hts⟩ (c_X0_init l _ _ _ _ _ _ _ q21) ⟨va_cnB 0 hts gX8_init_X0_init_n50 rfl rfl rfl (hE.1 (.methodLinkNest RX8 50 yX0_init "Wattgovern") (by decide +kernel) rfl) (hts (.initialized yX0_init.cls) (by decide +kernel)) (by decide +kernel) ⟨Nat.le_of_ble_eq_true rfl, Nat.le_of_ble_eq_true rfl⟩, rfl, (hts (.instanceMethod yX0_init) (by decide +kernel))⟩ (z_pre (Xc := [(q21, .inr (2, [.null, .int 0]))]) hK hE hI [2] rfl rfl) rfl rfl hl.1 rfl (lv_room (Nat.le_of_ble_eq_true rfl)) dX8_init_68 ⟨Nat.le_of_ble_eq_true rfl, Nat.le_of_ble_eq_true rfl⟩) (fun u H locs hw hI => ?_)
  obtain ⟨L6, κ6, g6⟩ := u
  obtain ⟨hx2, hk22⟩ := hw
  dsimp only at hx2 hk22
  have hv4 := fun j => hx2.g hk3 (by decide) (hv4 j)
  have hv7 := fun j => hx2.g hk6 (by decide) (hv7 j)
  have hf10 := hx2.g hk9 (by decide) hf10
  have hf13 := hx2.g hk12 (by decide) hf13
  have hf16 := hx2.g hk15 (by decide) hf16
  have hf17 := hx2.g hk15 (by decide) hf17
  have hf18 := hx2.g hk15 (by decide) hf18
  have hf19 := hx2.g hk15 (by decide) hf19
  have hf20 := hx2.g hk15 (by decide) hf20
  have hk3 := hx2.k hk3 (by decide)
  have hk6 := hx2.k hk6 (by decide)
  have hk9 := hx2.k hk9 (by decide)
  have hk12 := hx2.k hk12 (by decide)
  have hk15 := hx2.k hk15 (by decide)
  have hxt := hxt.tr hx2
  clear hx2
  have hI : zI D tc _ s.heap [(p0, .inr (10, [.ref q1, .ref q2, .ref q5, .ref q8, .ref q11, .ref q14, .null, .null, .int 0, .long 0])), (q1, .inl (tc 4, 3, .inr (.inr (.inr (.inr (fun _ => none))))))] L6 κ6 g6 _ _ := hI
  refine z_putXF (i := 0) (j := 6) hM hI hin2 rfl hinX8 tyX8 tyX8_ok nmX8 rfl (by decide) (by decide +kernel) (fun _ h9 => h9) rfl rfl rfl rfl rfl (Nat.le_of_ble_eq_true rfl) dX8_init_71 (fun H locs hI => ?_)
  have hI : zI D tc _ s.heap [(p0, .inr (10, [.ref q1, .ref q2, .ref q5, .ref q8, .ref q11, .ref q14, .ref q21, .null, .int 0, .long 0])), (q1, .inl (tc 4, 3, .inr (.inr (.inr (.inr (fun _ => none))))))] L6 κ6 g6 _ _ := hI
  refine lv_aload_n hx hb dX8_init_74 rfl (lv_at hl 0 rfl) ?_
  refine z_new (ci := 2) (fs := [.null, .int 0]) (C := RX0) (T := TX0) (N := 2) hM hI hinX0 tyX0 tyX0_ok (by decide +kernel) (by decide +kernel) (by decide +kernel) rfl (by decide +kernel) (Nat.le_of_ble_eq_true rfl) (Nat.le_of_ble_eq_true rfl) dX8_init_75 (fun q23 H hI => ?_)
  have hI : zI D tc _ s.heap [(p0, .inr (10, [.ref q1, .ref q2, .ref q5, .ref q8, .ref q11, .ref q14, .ref q21, .null, .int 0, .long 0])), (q1, .inl (tc 4, 3, .inr (.inr (.inr (.inr (fun _ => none)))))), (q23, .inr (2, [.null, .int 0]))] L6 κ6 g6 _ _ := hI
  refine lv_dup hx hb dX8_init_78 rfl ?_
  refine z_cvX (Xc := [(q23, .inr (2, [.null, .int 0]))]) (wr := [(p0, .inr (10, [.ref q1, .ref q2, .ref q5, .ref q8, .ref q11, .ref q14, .ref q21, .null, .int 0, .long 0])), (q1, .inl (tc 4, 3, .inr (.inr (.inr (.inr (fun _ => none))))))]) (rx := []) [2] [0, 1] rfl rfl rfl rfl (by decide) hI (va_runIN (As := []) (rest := [.ref q23, .ref p0]) ⟨hx, hb, hml, hown, hts⟩ (c_X0_init l _ _ _ _ _ _ _ q23) ⟨va_cnB 0 hts gX8_init_X0_init_n50 rfl rfl rfl (hE.1 (.methodLinkNest RX8 50 yX0_init "Wattgovern") (by decide +kernel) rfl) (hts (.initialized yX0_init.cls) (by decide +kernel)) (by decide +kernel) ⟨Nat.le_of_ble_eq_true rfl, Nat.le_of_ble_eq_true rfl⟩, rfl, (hts (.instanceMethod yX0_init) (by decide +kernel))⟩ (z_pre (Xc := [(q23, .inr (2, [.null, .int 0]))]) hK hE hI [2] rfl rfl) rfl rfl hl.1 rfl (lv_room (Nat.le_of_ble_eq_true rfl)) dX8_init_79 ⟨Nat.le_of_ble_eq_true rfl, Nat.le_of_ble_eq_true rfl⟩) (fun u H locs hw hI => ?_)
  obtain ⟨L7, κ7, g7⟩ := u
  obtain ⟨hx2, hk24⟩ := hw
  dsimp only at hx2 hk24
  have hv4 := fun j => hx2.g hk3 (by decide) (hv4 j)
  have hv7 := fun j => hx2.g hk6 (by decide) (hv7 j)
  have hf10 := hx2.g hk9 (by decide) hf10
  have hf13 := hx2.g hk12 (by decide) hf13
  have hf16 := hx2.g hk15 (by decide) hf16
  have hf17 := hx2.g hk15 (by decide) hf17
  have hf18 := hx2.g hk15 (by decide) hf18
  have hf19 := hx2.g hk15 (by decide) hf19
  have hf20 := hx2.g hk15 (by decide) hf20
  have hk3 := hx2.k hk3 (by decide)
  have hk6 := hx2.k hk6 (by decide)
  have hk9 := hx2.k hk9 (by decide)
  have hk12 := hx2.k hk12 (by decide)
  have hk15 := hx2.k hk15 (by decide)
  have hk22 := hx2.k hk22 (by decide)
  have hxt := hxt.tr hx2
  clear hx2
  have hI : zI D tc _ s.heap [(p0, .inr (10, [.ref q1, .ref q2, .ref q5, .ref q8, .ref q11, .ref q14, .ref q21, .null, .int 0, .long 0])), (q1, .inl (tc 4, 3, .inr (.inr (.inr (.inr (fun _ => none))))))] L7 κ7 g7 _ _ := hI
  refine z_putXF (i := 0) (j := 7) hM hI hin2 rfl hinX8 tyX8 tyX8_ok nmX8 rfl (by decide) (by decide +kernel) (fun _ h9 => h9) rfl rfl rfl rfl rfl (Nat.le_of_ble_eq_true rfl) dX8_init_82 (fun H locs hI => ?_)
  have hI : zI D tc _ s.heap [(p0, .inr (10, [.ref q1, .ref q2, .ref q5, .ref q8, .ref q11, .ref q14, .ref q21, .ref q23, .int 0, .long 0])), (q1, .inl (tc 4, 3, .inr (.inr (.inr (.inr (fun _ => none))))))] L7 κ7 g7 _ _ := hI
  refine lv_aload_n hx hb dX8_init_85 rfl (lv_at hl 0 rfl) ?_
  refine lv_iconst (v := 0) hx hb dX8_init_86 (by decide) ?_
  refine z_putX (i := 0) (j := 8) hM hI rfl hinX8 tyX8 tyX8_ok nmX8 rfl (by decide) (by decide +kernel) (fun _ h9 => h9) rfl rfl rfl rfl (Nat.le_of_ble_eq_true rfl) dX8_init_87 (fun H locs hI => ?_)
  have hI : zI D tc _ s.heap [(p0, .inr (10, [.ref q1, .ref q2, .ref q5, .ref q8, .ref q11, .ref q14, .ref q21, .ref q23, .int 0, .long 0])), (q1, .inl (tc 4, 3, .inr (.inr (.inr (.inr (fun _ => none))))))] L7 κ7 g7 _ _ := hI
  refine lv_aload_n hx hb dX8_init_90 rfl (lv_at hl 0 rfl) ?_
  refine lv_lconst (v := 0) hx hb dX8_init_91 (by decide) ?_
  refine z_putX (i := 0) (j := 9) hM hI rfl hinX8 tyX8 tyX8_ok nmX8 rfl (by decide) (by decide +kernel) (fun _ h9 => h9) rfl rfl rfl rfl (Nat.le_of_ble_eq_true rfl) dX8_init_92 (fun H locs hI => ?_)
  have hI : zI D tc _ s.heap [(p0, .inr (10, [.ref q1, .ref q2, .ref q5, .ref q8, .ref q11, .ref q14, .ref q21, .ref q23, .int 0, .long 0])), (q1, .inl (tc 4, 3, .inr (.inr (.inr (.inr (fun _ => none))))))] L7 κ7 g7 _ _ := hI
  refine lv_iconst (v := 0) hx hb dX8_init_95 (by decide) ?_
  refine lv_istore_n (lv' := [(1, .int 0), (0, .ref p0)]) hx hb dX8_init_96 rfl hl (by decide) rfl (fun ls hl => ?_)
  refine lv_iload_n hx hb dX8_init_97 rfl (lv_at hl 0 rfl) ?_
  refine lv_aload_n hx hb dX8_init_98 rfl (lv_at hl 1 rfl) ?_
  refine z_getX (i := 0) (j := 0) hM hI rfl hinX8 rfl (by decide) (by decide +kernel) (fun _ h9 => h9) rfl dX8_init_99 ?_
  refine z_alenX (i := 1) (v := 3) hM hI rfl rfl (show Int32.ofNat 3 = 3 by decide) dX8_init_102 ?_
  refine lv_icmp_ge (tgt := 125) hx hb dX8_init_103 (by decide) (fun h9 => by first | exact absurd h9 (by decide) | exact absurd (by decide) h9) (fun _ => ?_)
  refine lv_aload_n hx hb dX8_init_106 rfl (lv_at hl 1 rfl) ?_
  refine z_getX (i := 0) (j := 0) hM hI rfl hinX8 rfl (by decide) (by decide +kernel) (fun _ h9 => h9) rfl dX8_init_107 ?_
  refine lv_iload_n hx hb dX8_init_110 rfl (lv_at hl 0 rfl) ?_
  refine z_new (ci := 6) (fs := [.int 0, .int 0]) (C := RX4) (T := TX4) (N := 2) hM hI hinX4 tyX4 tyX4_ok (by decide +kernel) (by decide +kernel) (by decide +kernel) rfl (by decide +kernel) (Nat.le_of_ble_eq_true rfl) (Nat.le_of_ble_eq_true rfl) dX8_init_111 (fun q25 H hI => ?_)
  have hI : zI D tc _ s.heap [(p0, .inr (10, [.ref q1, .ref q2, .ref q5, .ref q8, .ref q11, .ref q14, .ref q21, .ref q23, .int 0, .long 0])), (q1, .inl (tc 4, 3, .inr (.inr (.inr (.inr (fun _ => none)))))), (q25, .inr (6, [.int 0, .int 0]))] L7 κ7 g7 _ _ := hI
  refine lv_dup hx hb dX8_init_114 rfl ?_
  refine z_cvX (Xc := [(q25, .inr (6, [.int 0, .int 0]))]) (wr := [(p0, .inr (10, [.ref q1, .ref q2, .ref q5, .ref q8, .ref q11, .ref q14, .ref q21, .ref q23, .int 0, .long 0])), (q1, .inl (tc 4, 3, .inr (.inr (.inr (.inr (fun _ => none))))))]) (rx := []) [2] [0, 1] rfl rfl rfl rfl (by decide) hI (va_runIN (As := []) (rest := [.ref q25, .int 0, .ref q1]) ⟨hx, hb, hml, hown, hts⟩ (c_X4_init l _ _ _ _ _ _ _ q25) ⟨va_cnB 0 hts gX8_init_X4_init_n66 rfl rfl rfl (hE.1 (.methodLinkNest RX8 66 yX4_init "Wattgovern") (by decide +kernel) rfl) (hts (.initialized yX4_init.cls) (by decide +kernel)) (by decide +kernel) ⟨Nat.le_of_ble_eq_true rfl, Nat.le_of_ble_eq_true rfl⟩, rfl, (hts (.instanceMethod yX4_init) (by decide +kernel))⟩ (z_pre (Xc := [(q25, .inr (6, [.int 0, .int 0]))]) hK hE hI [2] rfl rfl) rfl rfl hl.1 rfl (lv_room (Nat.le_of_ble_eq_true rfl)) dX8_init_115 ⟨Nat.le_of_ble_eq_true rfl, Nat.le_of_ble_eq_true rfl⟩) (fun u H locs hw hI => ?_)
  obtain ⟨L8, κ8, g8⟩ := u
  obtain ⟨hx2, hk26⟩ := hw
  dsimp only at hx2 hk26
  have hv4 := fun j => hx2.g hk3 (by decide) (hv4 j)
  have hv7 := fun j => hx2.g hk6 (by decide) (hv7 j)
  have hf10 := hx2.g hk9 (by decide) hf10
  have hf13 := hx2.g hk12 (by decide) hf13
  have hf16 := hx2.g hk15 (by decide) hf16
  have hf17 := hx2.g hk15 (by decide) hf17
  have hf18 := hx2.g hk15 (by decide) hf18
  have hf19 := hx2.g hk15 (by decide) hf19
  have hf20 := hx2.g hk15 (by decide) hf20
  have hk3 := hx2.k hk3 (by decide)
  have hk6 := hx2.k hk6 (by decide)
  have hk9 := hx2.k hk9 (by decide)
  have hk12 := hx2.k hk12 (by decide)
  have hk15 := hx2.k hk15 (by decide)
  have hk22 := hx2.k hk22 (by decide)
  have hk24 := hx2.k hk24 (by decide)
  have hxt := hxt.tr hx2
  clear hx2
  have hI : zI D tc _ s.heap [(p0, .inr (10, [.ref q1, .ref q2, .ref q5, .ref q8, .ref q11, .ref q14, .ref q21, .ref q23, .int 0, .long 0])), (q1, .inl (tc 4, 3, .inr (.inr (.inr (.inr (fun _ => none))))))] L8 κ8 g8 _ _ := hI
  refine z_aastX (i := 1) hM hI rfl rfl hk26 rfl rfl (vp_in_c 0 3 (by decide)) dX8_init_118 (fun H locs hI => ?_)
  have hI : zI D tc _ s.heap [(p0, .inr (10, [.ref q1, .ref q2, .ref q5, .ref q8, .ref q11, .ref q14, .ref q21, .ref q23, .int 0, .long 0])), (q1, .inl (tc 4, 3, .inr (.inr (.inr (.inr (va_up (fun _ => none) (0 : Int32).toNatClampNeg (some q25)))))))] L8 κ8 g8 _ _ := hI
  refine lv_iinc (v := 1) (lv' := [(1, .int 1), (0, .ref p0)]) hx hb dX8_init_119 hl (k := 0) rfl (by decide) (by decide) rfl (fun ls hl => ?_)
  refine lv_goto (tgt := 97) hx hb dX8_init_122 (by decide) ?_
  refine lv_iload_n hx hb dX8_init_97 rfl (lv_at hl 0 rfl) ?_
  refine lv_aload_n hx hb dX8_init_98 rfl (lv_at hl 1 rfl) ?_
  refine z_getX (i := 0) (j := 0) hM hI rfl hinX8 rfl (by decide) (by decide +kernel) (fun _ h9 => h9) rfl dX8_init_99 ?_
  refine z_alenX (i := 1) (v := 3) hM hI rfl rfl (show Int32.ofNat 3 = 3 by decide) dX8_init_102 ?_
  refine lv_icmp_ge (tgt := 125) hx hb dX8_init_103 (by decide) (fun h9 => by first | exact absurd h9 (by decide) | exact absurd (by decide) h9) (fun _ => ?_)
  refine lv_aload_n hx hb dX8_init_106 rfl (lv_at hl 1 rfl) ?_
  refine z_getX (i := 0) (j := 0) hM hI rfl hinX8 rfl (by decide) (by decide +kernel) (fun _ h9 => h9) rfl dX8_init_107 ?_
  refine lv_iload_n hx hb dX8_init_110 rfl (lv_at hl 0 rfl) ?_
  refine z_new (ci := 6) (fs := [.int 0, .int 0]) (C := RX4) (T := TX4) (N := 2) hM hI hinX4 tyX4 tyX4_ok (by decide +kernel) (by decide +kernel) (by decide +kernel) rfl (by decide +kernel) (Nat.le_of_ble_eq_true rfl) (Nat.le_of_ble_eq_true rfl) dX8_init_111 (fun q27 H hI => ?_)
  have hI : zI D tc _ s.heap [(p0, .inr (10, [.ref q1, .ref q2, .ref q5, .ref q8, .ref q11, .ref q14, .ref q21, .ref q23, .int 0, .long 0])), (q1, .inl (tc 4, 3, .inr (.inr (.inr (.inr (va_up (fun _ => none) (0 : Int32).toNatClampNeg (some q25))))))), (q27, .inr (6, [.int 0, .int 0]))] L8 κ8 g8 _ _ := hI
  refine lv_dup hx hb dX8_init_114 rfl ?_
  refine z_cvX (Xc := [(q27, .inr (6, [.int 0, .int 0]))]) (wr := [(p0, .inr (10, [.ref q1, .ref q2, .ref q5, .ref q8, .ref q11, .ref q14, .ref q21, .ref q23, .int 0, .long 0])), (q1, .inl (tc 4, 3, .inr (.inr (.inr (.inr (va_up (fun _ => none) (0 : Int32).toNatClampNeg (some q25)))))))]) (rx := []) [2] [0, 1] rfl rfl rfl rfl (by decide) hI (va_runIN (As := []) (rest := [.ref q27, .int 1, .ref q1]) ⟨hx, hb, hml, hown, hts⟩ (c_X4_init l _ _ _ _ _ _ _ q27) ⟨va_cnB 0 hts gX8_init_X4_init_n66 rfl rfl rfl (hE.1 (.methodLinkNest RX8 66 yX4_init "Wattgovern") (by decide +kernel) rfl) (hts (.initialized yX4_init.cls) (by decide +kernel)) (by decide +kernel) ⟨Nat.le_of_ble_eq_true rfl, Nat.le_of_ble_eq_true rfl⟩, rfl, (hts (.instanceMethod yX4_init) (by decide +kernel))⟩ (z_pre (Xc := [(q27, .inr (6, [.int 0, .int 0]))]) hK hE hI [2] rfl rfl) rfl rfl hl.1 rfl (lv_room (Nat.le_of_ble_eq_true rfl)) dX8_init_115 ⟨Nat.le_of_ble_eq_true rfl, Nat.le_of_ble_eq_true rfl⟩) (fun u H locs hw hI => ?_)
  obtain ⟨L9, κ9, g9⟩ := u
  obtain ⟨hx2, hk28⟩ := hw
  dsimp only at hx2 hk28
  have hv4 := fun j => hx2.g hk3 (by decide) (hv4 j)
  have hv7 := fun j => hx2.g hk6 (by decide) (hv7 j)
  have hf10 := hx2.g hk9 (by decide) hf10
  have hf13 := hx2.g hk12 (by decide) hf13
  have hf16 := hx2.g hk15 (by decide) hf16
  have hf17 := hx2.g hk15 (by decide) hf17
  have hf18 := hx2.g hk15 (by decide) hf18
  have hf19 := hx2.g hk15 (by decide) hf19
  have hf20 := hx2.g hk15 (by decide) hf20
  have hk3 := hx2.k hk3 (by decide)
  have hk6 := hx2.k hk6 (by decide)
  have hk9 := hx2.k hk9 (by decide)
  have hk12 := hx2.k hk12 (by decide)
  have hk15 := hx2.k hk15 (by decide)
  have hk22 := hx2.k hk22 (by decide)
  have hk24 := hx2.k hk24 (by decide)
  have hk26 := hx2.k hk26 (by decide)
  have hxt := hxt.tr hx2
  clear hx2
  have hI : zI D tc _ s.heap [(p0, .inr (10, [.ref q1, .ref q2, .ref q5, .ref q8, .ref q11, .ref q14, .ref q21, .ref q23, .int 0, .long 0])), (q1, .inl (tc 4, 3, .inr (.inr (.inr (.inr (va_up (fun _ => none) (0 : Int32).toNatClampNeg (some q25)))))))] L9 κ9 g9 _ _ := hI
  refine z_aastX (i := 1) hM hI rfl rfl hk28 rfl rfl (vp_in_c 1 3 (by decide)) dX8_init_118 (fun H locs hI => ?_)
  have hI : zI D tc _ s.heap [(p0, .inr (10, [.ref q1, .ref q2, .ref q5, .ref q8, .ref q11, .ref q14, .ref q21, .ref q23, .int 0, .long 0])), (q1, .inl (tc 4, 3, .inr (.inr (.inr (.inr (va_up (va_up (fun _ => none) (0 : Int32).toNatClampNeg (some q25)) (1 : Int32).toNatClampNeg (some q27)))))))] L9 κ9 g9 _ _ := hI
  refine lv_iinc (v := 2) (lv' := [(1, .int 2), (0, .ref p0)]) hx hb dX8_init_119 hl (k := 0) rfl (by decide) (by decide) rfl (fun ls hl => ?_)
  refine lv_goto (tgt := 97) hx hb dX8_init_122 (by decide) ?_
  refine lv_iload_n hx hb dX8_init_97 rfl (lv_at hl 0 rfl) ?_
  refine lv_aload_n hx hb dX8_init_98 rfl (lv_at hl 1 rfl) ?_
  refine z_getX (i := 0) (j := 0) hM hI rfl hinX8 rfl (by decide) (by decide +kernel) (fun _ h9 => h9) rfl dX8_init_99 ?_
  refine z_alenX (i := 1) (v := 3) hM hI rfl rfl (show Int32.ofNat 3 = 3 by decide) dX8_init_102 ?_
  refine lv_icmp_ge (tgt := 125) hx hb dX8_init_103 (by decide) (fun h9 => by first | exact absurd h9 (by decide) | exact absurd (by decide) h9) (fun _ => ?_)
  refine lv_aload_n hx hb dX8_init_106 rfl (lv_at hl 1 rfl) ?_
  refine z_getX (i := 0) (j := 0) hM hI rfl hinX8 rfl (by decide) (by decide +kernel) (fun _ h9 => h9) rfl dX8_init_107 ?_
  refine lv_iload_n hx hb dX8_init_110 rfl (lv_at hl 0 rfl) ?_
  refine z_new (ci := 6) (fs := [.int 0, .int 0]) (C := RX4) (T := TX4) (N := 2) hM hI hinX4 tyX4 tyX4_ok (by decide +kernel) (by decide +kernel) (by decide +kernel) rfl (by decide +kernel) (Nat.le_of_ble_eq_true rfl) (Nat.le_of_ble_eq_true rfl) dX8_init_111 (fun q29 H hI => ?_)
  have hI : zI D tc _ s.heap [(p0, .inr (10, [.ref q1, .ref q2, .ref q5, .ref q8, .ref q11, .ref q14, .ref q21, .ref q23, .int 0, .long 0])), (q1, .inl (tc 4, 3, .inr (.inr (.inr (.inr (va_up (va_up (fun _ => none) (0 : Int32).toNatClampNeg (some q25)) (1 : Int32).toNatClampNeg (some q27))))))), (q29, .inr (6, [.int 0, .int 0]))] L9 κ9 g9 _ _ := hI
  refine lv_dup hx hb dX8_init_114 rfl ?_
  refine z_cvX (Xc := [(q29, .inr (6, [.int 0, .int 0]))]) (wr := [(p0, .inr (10, [.ref q1, .ref q2, .ref q5, .ref q8, .ref q11, .ref q14, .ref q21, .ref q23, .int 0, .long 0])), (q1, .inl (tc 4, 3, .inr (.inr (.inr (.inr (va_up (va_up (fun _ => none) (0 : Int32).toNatClampNeg (some q25)) (1 : Int32).toNatClampNeg (some q27)))))))]) (rx := []) [2] [0, 1] rfl rfl rfl rfl (by decide) hI (va_runIN (As := []) (rest := [.ref q29, .int 2, .ref q1]) ⟨hx, hb, hml, hown, hts⟩ (c_X4_init l _ _ _ _ _ _ _ q29) ⟨va_cnB 0 hts gX8_init_X4_init_n66 rfl rfl rfl (hE.1 (.methodLinkNest RX8 66 yX4_init "Wattgovern") (by decide +kernel) rfl) (hts (.initialized yX4_init.cls) (by decide +kernel)) (by decide +kernel) ⟨Nat.le_of_ble_eq_true rfl, Nat.le_of_ble_eq_true rfl⟩, rfl, (hts (.instanceMethod yX4_init) (by decide +kernel))⟩ (z_pre (Xc := [(q29, .inr (6, [.int 0, .int 0]))]) hK hE hI [2] rfl rfl) rfl rfl hl.1 rfl (lv_room (Nat.le_of_ble_eq_true rfl)) dX8_init_115 ⟨Nat.le_of_ble_eq_true rfl, Nat.le_of_ble_eq_true rfl⟩) (fun u H locs hw hI => ?_)
  obtain ⟨L10, κ10, g10⟩ := u
  obtain ⟨hx2, hk30⟩ := hw
  dsimp only at hx2 hk30
  have hv4 := fun j => hx2.g hk3 (by decide) (hv4 j)
  have hv7 := fun j => hx2.g hk6 (by decide) (hv7 j)
  have hf10 := hx2.g hk9 (by decide) hf10
  have hf13 := hx2.g hk12 (by decide) hf13
  have hf16 := hx2.g hk15 (by decide) hf16
  have hf17 := hx2.g hk15 (by decide) hf17
  have hf18 := hx2.g hk15 (by decide) hf18
  have hf19 := hx2.g hk15 (by decide) hf19
  have hf20 := hx2.g hk15 (by decide) hf20
  have hk3 := hx2.k hk3 (by decide)
  have hk6 := hx2.k hk6 (by decide)
  have hk9 := hx2.k hk9 (by decide)
  have hk12 := hx2.k hk12 (by decide)
  have hk15 := hx2.k hk15 (by decide)
  have hk22 := hx2.k hk22 (by decide)
  have hk24 := hx2.k hk24 (by decide)
  have hk26 := hx2.k hk26 (by decide)
  have hk28 := hx2.k hk28 (by decide)
  have hxt := hxt.tr hx2
  clear hx2
  have hI : zI D tc _ s.heap [(p0, .inr (10, [.ref q1, .ref q2, .ref q5, .ref q8, .ref q11, .ref q14, .ref q21, .ref q23, .int 0, .long 0])), (q1, .inl (tc 4, 3, .inr (.inr (.inr (.inr (va_up (va_up (fun _ => none) (0 : Int32).toNatClampNeg (some q25)) (1 : Int32).toNatClampNeg (some q27)))))))] L10 κ10 g10 _ _ := hI
  refine z_aastX (i := 1) hM hI rfl rfl hk30 rfl rfl (vp_in_c 2 3 (by decide)) dX8_init_118 (fun H locs hI => ?_)
  have hI : zI D tc _ s.heap [(p0, .inr (10, [.ref q1, .ref q2, .ref q5, .ref q8, .ref q11, .ref q14, .ref q21, .ref q23, .int 0, .long 0])), (q1, .inl (tc 4, 3, .inr (.inr (.inr (.inr (va_up (va_up (va_up (fun _ => none) (0 : Int32).toNatClampNeg (some q25)) (1 : Int32).toNatClampNeg (some q27)) (2 : Int32).toNatClampNeg (some q29)))))))] L10 κ10 g10 _ _ := hI
  refine lv_iinc (v := 3) (lv' := [(1, .int 3), (0, .ref p0)]) hx hb dX8_init_119 hl (k := 0) rfl (by decide) (by decide) rfl (fun ls hl => ?_)
  refine lv_goto (tgt := 97) hx hb dX8_init_122 (by decide) ?_
  refine lv_iload_n hx hb dX8_init_97 rfl (lv_at hl 0 rfl) ?_
  refine lv_aload_n hx hb dX8_init_98 rfl (lv_at hl 1 rfl) ?_
  refine z_getX (i := 0) (j := 0) hM hI rfl hinX8 rfl (by decide) (by decide +kernel) (fun _ h9 => h9) rfl dX8_init_99 ?_
  refine z_alenX (i := 1) (v := 3) hM hI rfl rfl (show Int32.ofNat 3 = 3 by decide) dX8_init_102 ?_
  refine lv_icmp_ge (tgt := 125) hx hb dX8_init_103 (by decide) (fun _ => ?_) (fun h9 => by first | exact absurd h9 (by decide) | exact absurd (by decide) h9)
  have hI := z_part (X' := [(q1, .inl (tc 4, 3, .inr (.inr (.inr (.inr (va_up (va_up (va_up (fun _ => none) (0 : Int32).toNatClampNeg (some q25)) (1 : Int32).toNatClampNeg (some q27)) (2 : Int32).toNatClampNeg (some q29))))))), (p0, .inr (10, [.ref q1, .ref q2, .ref q5, .ref q8, .ref q11, .ref q14, .ref q21, .ref q23, .int 0, .long 0]))]) [1, 0] rfl rfl hI
  obtain ⟨L11, κ11, g11, hx2, hk31, hv32, hI⟩ := z_poolG (k := 22) (fun _ => .null) hI (by decide) (fun κ9 g9 hκ9 hκ8 hg9 => Or.inr ⟨rfl, 4, 3, 4, (1, 6), fun j => va_rf ((va_up (va_up (va_up (fun _ => none) (0 : Int32).toNatClampNeg (some q25)) (1 : Int32).toNatClampNeg (some q27)) (2 : Int32).toNatClampNeg (some q29)) j), rfl, ⟨_, rfl, fun j hj => rfl⟩, fun j hj => by (rcases (show j = 0 ∨ j = 1 ∨ j = 2 by omega) with rfl | rfl | rfl) <;> first | exact ⟨q25, rfl, (hκ9 _ (by rw [hk26]; decide)).trans hk26⟩ | exact ⟨q27, rfl, (hκ9 _ (by rw [hk28]; decide)).trans hk28⟩ | exact ⟨q29, rfl, (hκ9 _ (by rw [hk30]; decide)).trans hk30⟩⟩)
  have hv4 := fun j => hx2.g hk3 (by decide) (hv4 j)
  have hv7 := fun j => hx2.g hk6 (by decide) (hv7 j)
  have hf10 := hx2.g hk9 (by decide) hf10
  have hf13 := hx2.g hk12 (by decide) hf13
  have hf16 := hx2.g hk15 (by decide) hf16
  have hf17 := hx2.g hk15 (by decide) hf17
  have hf18 := hx2.g hk15 (by decide) hf18
  have hf19 := hx2.g hk15 (by decide) hf19
  have hf20 := hx2.g hk15 (by decide) hf20
  have hk3 := hx2.k hk3 (by decide)
  have hk6 := hx2.k hk6 (by decide)
  have hk9 := hx2.k hk9 (by decide)
  have hk12 := hx2.k hk12 (by decide)
  have hk15 := hx2.k hk15 (by decide)
  have hk22 := hx2.k hk22 (by decide)
  have hk24 := hx2.k hk24 (by decide)
  have hk26 := hx2.k hk26 (by decide)
  have hk28 := hx2.k hk28 (by decide)
  have hk30 := hx2.k hk30 (by decide)
  have hxt := hxt.tr hx2
  clear hx2
  obtain ⟨L12, κ12, g12, hx2, hk33, hv34, hI⟩ := z_poolG (k := 10) (fun j => ([.ref q1, .ref q2, .ref q5, .ref q8, .ref q11, .ref q14, .ref q21, .ref q23, .int 0, .long 0] : List Value).getD j .null) hI (by decide) (fun κ9 g9 hκ9 hκ8 hg9 => zc_O rfl (zvs_cons ⟨(hg9 0).symm, _, rfl, (hκ9 _ (by rw [hk31]; decide)).trans hk31⟩ rfl (zvs_cons ⟨(hg9 1).symm, _, rfl, (hκ9 _ (by rw [hk3]; decide)).trans hk3⟩ rfl (zvs_cons ⟨(hg9 2).symm, _, rfl, (hκ9 _ (by rw [hk6]; decide)).trans hk6⟩ rfl (zvs_cons ⟨(hg9 3).symm, _, rfl, (hκ9 _ (by rw [hk9]; decide)).trans hk9⟩ rfl (zvs_cons ⟨(hg9 4).symm, _, rfl, (hκ9 _ (by rw [hk12]; decide)).trans hk12⟩ rfl (zvs_cons ⟨(hg9 5).symm, _, rfl, (hκ9 _ (by rw [hk15]; decide)).trans hk15⟩ rfl (zvs_cons ⟨_, rfl, (hκ9 _ (by rw [hk22]; decide)).trans hk22⟩ rfl (zvs_cons ⟨_, rfl, (hκ9 _ (by rw [hk24]; decide)).trans hk24⟩ rfl (zvs_cons ⟨(hg9 8).symm, _, rfl⟩ rfl (zvs_cons ⟨_, rfl⟩ rfl zvs_nil)))))))))))
  have hv4 := fun j => hx2.g hk3 (by decide) (hv4 j)
  have hv7 := fun j => hx2.g hk6 (by decide) (hv7 j)
  have hf10 := hx2.g hk9 (by decide) hf10
  have hf13 := hx2.g hk12 (by decide) hf13
  have hf16 := hx2.g hk15 (by decide) hf16
  have hf17 := hx2.g hk15 (by decide) hf17
  have hf18 := hx2.g hk15 (by decide) hf18
  have hf19 := hx2.g hk15 (by decide) hf19
  have hf20 := hx2.g hk15 (by decide) hf20
  have hk3 := hx2.k hk3 (by decide)
  have hk6 := hx2.k hk6 (by decide)
  have hk9 := hx2.k hk9 (by decide)
  have hk12 := hx2.k hk12 (by decide)
  have hk15 := hx2.k hk15 (by decide)
  have hk22 := hx2.k hk22 (by decide)
  have hk24 := hx2.k hk24 (by decide)
  have hk26 := hx2.k hk26 (by decide)
  have hk28 := hx2.k hk28 (by decide)
  have hk30 := hx2.k hk30 (by decide)
  have hk31 := hx2.k hk31 (by decide)
  have hxt := hxt.tr hx2
  clear hx2
  have hf35 : g12 p0 0 = .ref q1 := hv34 0
  have hf36 : g12 p0 1 = .ref q2 := hv34 1
  have hf37 : g12 p0 2 = .ref q5 := hv34 2
  have hf38 : g12 p0 3 = .ref q8 := hv34 3
  have hf39 : g12 p0 4 = .ref q11 := hv34 4
  have hf40 : g12 p0 5 = .ref q14 := hv34 5
  have hf41 : g12 p0 8 = .int 0 := hv34 8
  exact W.vret hx hb hr (fun t ht hW => ⟨⟨(L12, κ12, g12), rfl, ⟨hxt, hk33, q1, q2, q5, q8, q11, q14, hf35, hk31, hf36, hk3, hv4, hf37, hk6, hv7, hf38, hk9, hf10, hf39, hk12, hf13, hf40, hk15, hf16, hf17, hf18, hf19, hf20, hf41⟩, z_endG hK hI ht hW⟩, z_F hI ht⟩) (z_locs hI) dX8_init_125
