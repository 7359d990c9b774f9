set_option maxHeartbeats 4000000 in
set_option maxRecDepth 100000 in
theorem x_L_volts_0 (l : Launch) (hnt : l.stackTraces = false) (D : va_G) (tc : Nat → ClassId) (z0 : Nat) (L : List Nat) (κ : Nat → Nat) (g : Nat → Nat → Value) (sz : Nat) (yr : Nat) (yC : Nat) (yT : Nat) (yk : Nat) (ys : Nat) (yq : Nat) (yP : Nat) (yS : Nat) (y0 : Nat) (y1 : Nat) (y2 : Nat) (px : Nat) (po : Nat) (hko : κ po = 29) : vx_Met l yL_volts wsL_volts ({ frames := 2, cells := 0, slots := 0, locals := 43 }) (zPc D tc z0 [.ref px, .int 0, .ref po] ([(px, .inr (10, [.ref yr, .ref yC, .ref yT, .ref yk, .ref ys, .ref yq, .ref yP, .ref yS, .int 0, .long 0])), (yr, .inl (tc 4, 3, .inr (.inr (.inr (.inr (va_up (va_up (va_up (fun _ => none) (0 : Int32).toNatClampNeg (some y0)) (1 : Int32).toNatClampNeg (some y1)) (2 : Int32).toNatClampNeg (some y2))))))), (y0, .inr (6, [.int 500, .int 500]))] : va_W) (L, κ, g) sz) (va_Qi (fun (r : Int32) (u : zS) => r = 0 ∧ u = (L, κ, zup g po 0 (.long 500))) (fun (u : zS) (t : State) => zB D tc (zA ([(px, .inr (10, [.ref yr, .ref yC, .ref yT, .ref yk, .ref ys, .ref yq, .ref yP, .ref yS, .int 0, .long 0])), (yr, .inl (tc 4, 3, .inr (.inr (.inr (.inr (va_up (va_up (va_up (fun _ => none) (0 : Int32).toNatClampNeg (some y0)) (1 : Int32).toNatClampNeg (some y1)) (2 : Int32).toNatClampNeg (some y2))))))), (y0, .inr (6, [.int 500, .int 500]))] : va_W) L sz) ([(px, .inr (10, [.ref yr, .ref yC, .ref yT, .ref yk, .ref ys, .ref yq, .ref yP, .ref yS, .int 0, .long 0])), (yr, .inl (tc 4, 3, .inr (.inr (.inr (.inr (va_up (va_up (va_up (fun _ => none) (0 : Int32).toNatClampNeg (some y0)) (1 : Int32).toNatClampNeg (some y1)) (2 : Int32).toNatClampNeg (some y2))))))), (y0, .inr (6, [.int 500, .int 500]))] : va_W) u t) (zA ([(px, .inr (10, [.ref yr, .ref yC, .ref yT, .ref yk, .ref ys, .ref yq, .ref yP, .ref yS, .int 0, .long 0])), (yr, .inl (tc 4, 3, .inr (.inr (.inr (.inr (va_up (va_up (va_up (fun _ => none) (0 : Int32).toNatClampNeg (some y0)) (1 : Int32).toNatClampNeg (some y1)) (2 : Int32).toNatClampNeg (some y2))))))), (y0, .inr (6, [.int 500, .int 500]))] : va_W) L sz)) (vx_X (fun u : zS => True) (fun (E : String) (u : zS) (t : State) => (False) ∧ zB D tc (zA ([(px, .inr (10, [.ref yr, .ref yC, .ref yT, .ref yk, .ref ys, .ref yq, .ref yP, .ref yS, .int 0, .long 0])), (yr, .inl (tc 4, 3, .inr (.inr (.inr (.inr (va_up (va_up (va_up (fun _ => none) (0 : Int32).toNatClampNeg (some y0)) (1 : Int32).toNatClampNeg (some y1)) (2 : Int32).toNatClampNeg (some y2))))))), (y0, .inr (6, [.int 500, .int 500]))] : va_W) L sz) ([(px, .inr (10, [.ref yr, .ref yC, .ref yT, .ref yk, .ref ys, .ref yq, .ref yP, .ref yS, .int 0, .long 0])), (yr, .inl (tc 4, 3, .inr (.inr (.inr (.inr (va_up (va_up (va_up (fun _ => none) (0 : Int32).toNatClampNeg (some y0)) (1 : Int32).toNatClampNeg (some y1)) (2 : Int32).toNatClampNeg (some y2))))))), (y0, .inr (6, [.int 500, .int 500]))] : va_W) u t) (zA ([(px, .inr (10, [.ref yr, .ref yC, .ref yT, .ref yk, .ref ys, .ref yq, .ref yP, .ref yS, .int 0, .long 0])), (yr, .inl (tc 4, 3, .inr (.inr (.inr (.inr (va_up (va_up (va_up (fun _ => none) (0 : Int32).toNatClampNeg (some y0)) (1 : Int32).toNatClampNeg (some y1)) (2 : Int32).toNatClampNeg (some y2))))))), (y0, .inr (6, [.int 500, .int 500]))] : va_W) L sz)) 0 0 (zA ([(px, .inr (10, [.ref yr, .ref yC, .ref yT, .ref yk, .ref ys, .ref yq, .ref yP, .ref yS, .int 0, .long 0])), (yr, .inl (tc 4, 3, .inr (.inr (.inr (.inr (va_up (va_up (va_up (fun _ => none) (0 : Int32).toNatClampNeg (some y0)) (1 : Int32).toNatClampNeg (some y1)) (2 : Int32).toNatClampNeg (some y2))))))), (y0, .inr (6, [.int 500, .int 500]))] : va_W) L sz) := by
  refine vx_ofWH (cc := cL_volts) (maxL := 4) (ret := (some .int)) (hh := [(0, 9, 12, 13)]) (by decide) rfl ?_
  intro p e s m args below meth c s₁ B hml hv
  obtain ⟨rfl, rfl, hK, hE, hI⟩ := hv.opn
  have hx := B.exec
  have hb := B.bytes
  have hr := B.returns
  have hts := atoms_spec (ws := wsL_volts) B.pre
  have hown : s.vm.findClass RL = some m.cls := findClass_of_methodNamed B.named
  have hlocks := B.notSynchronized
  have hM : zM p s m c cL_volts _ wsL_volts RL D tc := ⟨hx, hb, hts, hown, hK⟩
  have hl := lv_entry ([.ref px, .int 0, .ref po]) (n := 4) (Nat.le_of_ble_eq_true rfl)
  rw [lg_entry_eq]
  generalize (lg_sl ([.ref px, .int 0, .ref po]) ++ List.replicate (4 - (lg_sl ([.ref px, .int 0, .ref po])).length) Slot.unset).toArray = ls at hl ⊢
  have hl : lv_has ls 4 [(0, .ref px), (1, .int 0), (2, .ref po)] := hl
  refine lv_aload_n hx hb dL_volts_0 rfl (lv_at hl 2 rfl) ?_
  refine lv_iconst (v := 0) hx hb dL_volts_1 (by decide) ?_
  refine lv_aload_n hx hb dL_volts_2 rfl (lv_at hl 0 rfl) ?_
  refine lv_iload_n hx hb dL_volts_3 rfl (lv_at hl 1 rfl) ?_
  refine z_ciX (Xc := ([(px, .inr (10, [.ref yr, .ref yC, .ref yT, .ref yk, .ref ys, .ref yq, .ref yP, .ref yS, .int 0, .long 0])), (yr, .inl (tc 4, 3, .inr (.inr (.inr (.inr (va_up (va_up (va_up (fun _ => none) (0 : Int32).toNatClampNeg (some y0)) (1 : Int32).toNatClampNeg (some y1)) (2 : Int32).toNatClampNeg (some y2))))))), (y0, .inr (6, [.int 500, .int 500]))] : va_W)) (wr := []) (rx := ([(px, .inr (10, [.ref yr, .ref yC, .ref yT, .ref yk, .ref ys, .ref yq, .ref yP, .ref yS, .int 0, .long 0])), (yr, .inl (tc 4, 3, .inr (.inr (.inr (.inr (va_up (va_up (va_up (fun _ => none) (0 : Int32).toNatClampNeg (some y0)) (1 : Int32).toNatClampNeg (some y1)) (2 : Int32).toNatClampNeg (some y2))))))), (y0, .inr (6, [.int 500, .int 500]))] : va_W)) [0, 1, 2] [] rfl rfl rfl rfl (by decide) hI (va_runV (As := [.int 0]) (rest := [.int 0, .ref po]) ⟨hx, hb, hml, hown, hts⟩ (x_X8_volts_0 l D tc z0 _ κ g _ yr yC yT yk ys yq yP yS y0 y1 y2 px) (cwV 1 hts gL_volts_X8_volts rfl rfl rfl (by decide +kernel) ⟨Nat.le_of_ble_eq_true rfl, Nat.le_of_ble_eq_true rfl⟩) (z_preV (Xc := ([(px, .inr (10, [.ref yr, .ref yC, .ref yT, .ref yk, .ref ys, .ref yq, .ref yP, .ref yS, .int 0, .long 0])), (yr, .inl (tc 4, 3, .inr (.inr (.inr (.inr (va_up (va_up (va_up (fun _ => none) (0 : Int32).toNatClampNeg (some y0)) (1 : Int32).toNatClampNeg (some y1)) (2 : Int32).toNatClampNeg (some y2))))))), (y0, .inr (6, [.int 500, .int 500]))] : va_W)) hK hE hI [0, 1, 2] rfl rfl (z_recvX hK hI (i := 0) rfl rfl)) rfl rfl hl.1 rfl (lv_room (Nat.le_of_ble_eq_true rfl)) dL_volts_4 ⟨Nat.le_of_ble_eq_true rfl, Nat.le_of_ble_eq_true rfl⟩) (fun v9 u H locs hw hI => ?_)
  obtain ⟨rfl, rfl⟩ := hw
  have hI : zI D tc _ s.heap [(px, .inr (10, [.ref yr, .ref yC, .ref yT, .ref yk, .ref ys, .ref yq, .ref yP, .ref yS, .int 0, .long 0])), (yr, .inl (tc 4, 3, .inr (.inr (.inr (.inr (va_up (va_up (va_up (fun _ => none) (0 : Int32).toNatClampNeg (some y0)) (1 : Int32).toNatClampNeg (some y1)) (2 : Int32).toNatClampNeg (some y2))))))), (y0, .inr (6, [.int 500, .int 500]))] L κ g _ _ := hI
  refine lv_i2l hx hb dL_volts_7 rfl ?_
  refine lv_topl (fun w9 ew9 => ?_)
  obtain rfl : w9 = 500 := ew9.trans (by decide +kernel)
  refine z_last (g' := zup g po (0 : Int32).toNatClampNeg (.long 500)) hM hI hko rfl rfl (vp_in_c 0 1 (by decide)) ⟨(zup_self _ _ _ _).symm, _, rfl⟩ (fun b j h => zup_ne h) dL_volts_8 (fun H locs hI => ?_)
  refine lv_goto (tgt := 15) hx hb dL_volts_9 (by decide) ?_
  refine lv_iconst (v := 0) hx hb dL_volts_15 (by decide) ?_
  refine vx_ret ?_
  exact W.iret (v := 0) hx hb hr (fun t ht hW => ⟨⟨_, (L, κ, zup g po 0 (.long 500)), rfl, ⟨rfl, rfl⟩, z_endG hK hI ht hW⟩, z_F hI ht⟩) (z_locs hI) dL_volts_16

set_option maxHeartbeats 4000000 in
set_option maxRecDepth 100000 in
theorem x_L_volts_1 (l : Launch) (hnt : l.stackTraces = false) (D : va_G) (tc : Nat → ClassId) (z0 : Nat) (L : List Nat) (κ : Nat → Nat) (g : Nat → Nat → Value) (sz : Nat) (yr : Nat) (yC : Nat) (yT : Nat) (yk : Nat) (ys : Nat) (yq : Nat) (yP : Nat) (yS : Nat) (y0 : Nat) (y1 : Nat) (y2 : Nat) (px : Nat) (po : Nat) (hko : κ po = 29) : vx_Met l yL_volts wsL_volts ({ frames := 2, cells := 0, slots := 0, locals := 43 }) (zPc D tc z0 [.ref px, .int 1, .ref po] ([(px, .inr (10, [.ref yr, .ref yC, .ref yT, .ref yk, .ref ys, .ref yq, .ref yP, .ref yS, .int 0, .long 0])), (yr, .inl (tc 4, 3, .inr (.inr (.inr (.inr (va_up (va_up (va_up (fun _ => none) (0 : Int32).toNatClampNeg (some y0)) (1 : Int32).toNatClampNeg (some y1)) (2 : Int32).toNatClampNeg (some y2))))))), (y1, .inr (6, [.int 500, .int 500]))] : va_W) (L, κ, g) sz) (va_Qi (fun (r : Int32) (u : zS) => r = 0 ∧ u = (L, κ, zup g po 0 (.long 500))) (fun (u : zS) (t : State) => zB D tc (zA ([(px, .inr (10, [.ref yr, .ref yC, .ref yT, .ref yk, .ref ys, .ref yq, .ref yP, .ref yS, .int 0, .long 0])), (yr, .inl (tc 4, 3, .inr (.inr (.inr (.inr (va_up (va_up (va_up (fun _ => none) (0 : Int32).toNatClampNeg (some y0)) (1 : Int32).toNatClampNeg (some y1)) (2 : Int32).toNatClampNeg (some y2))))))), (y1, .inr (6, [.int 500, .int 500]))] : va_W) L sz) ([(px, .inr (10, [.ref yr, .ref yC, .ref yT, .ref yk, .ref ys, .ref yq, .ref yP, .ref yS, .int 0, .long 0])), (yr, .inl (tc 4, 3, .inr (.inr (.inr (.inr (va_up (va_up (va_up (fun _ => none) (0 : Int32).toNatClampNeg (some y0)) (1 : Int32).toNatClampNeg (some y1)) (2 : Int32).toNatClampNeg (some y2))))))), (y1, .inr (6, [.int 500, .int 500]))] : va_W) u t) (zA ([(px, .inr (10, [.ref yr, .ref yC, .ref yT, .ref yk, .ref ys, .ref yq, .ref yP, .ref yS, .int 0, .long 0])), (yr, .inl (tc 4, 3, .inr (.inr (.inr (.inr (va_up (va_up (va_up (fun _ => none) (0 : Int32).toNatClampNeg (some y0)) (1 : Int32).toNatClampNeg (some y1)) (2 : Int32).toNatClampNeg (some y2))))))), (y1, .inr (6, [.int 500, .int 500]))] : va_W) L sz)) (vx_X (fun u : zS => True) (fun (E : String) (u : zS) (t : State) => (False) ∧ zB D tc (zA ([(px, .inr (10, [.ref yr, .ref yC, .ref yT, .ref yk, .ref ys, .ref yq, .ref yP, .ref yS, .int 0, .long 0])), (yr, .inl (tc 4, 3, .inr (.inr (.inr (.inr (va_up (va_up (va_up (fun _ => none) (0 : Int32).toNatClampNeg (some y0)) (1 : Int32).toNatClampNeg (some y1)) (2 : Int32).toNatClampNeg (some y2))))))), (y1, .inr (6, [.int 500, .int 500]))] : va_W) L sz) ([(px, .inr (10, [.ref yr, .ref yC, .ref yT, .ref yk, .ref ys, .ref yq, .ref yP, .ref yS, .int 0, .long 0])), (yr, .inl (tc 4, 3, .inr (.inr (.inr (.inr (va_up (va_up (va_up (fun _ => none) (0 : Int32).toNatClampNeg (some y0)) (1 : Int32).toNatClampNeg (some y1)) (2 : Int32).toNatClampNeg (some y2))))))), (y1, .inr (6, [.int 500, .int 500]))] : va_W) u t) (zA ([(px, .inr (10, [.ref yr, .ref yC, .ref yT, .ref yk, .ref ys, .ref yq, .ref yP, .ref yS, .int 0, .long 0])), (yr, .inl (tc 4, 3, .inr (.inr (.inr (.inr (va_up (va_up (va_up (fun _ => none) (0 : Int32).toNatClampNeg (some y0)) (1 : Int32).toNatClampNeg (some y1)) (2 : Int32).toNatClampNeg (some y2))))))), (y1, .inr (6, [.int 500, .int 500]))] : va_W) L sz)) 0 0 (zA ([(px, .inr (10, [.ref yr, .ref yC, .ref yT, .ref yk, .ref ys, .ref yq, .ref yP, .ref yS, .int 0, .long 0])), (yr, .inl (tc 4, 3, .inr (.inr (.inr (.inr (va_up (va_up (va_up (fun _ => none) (0 : Int32).toNatClampNeg (some y0)) (1 : Int32).toNatClampNeg (some y1)) (2 : Int32).toNatClampNeg (some y2))))))), (y1, .inr (6, [.int 500, .int 500]))] : va_W) L sz) := by
  refine vx_ofWH (cc := cL_volts) (maxL := 4) (ret := (some .int)) (hh := [(0, 9, 12, 13)]) (by decide) rfl ?_
  intro p e s m args below meth c s₁ B hml hv
  obtain ⟨rfl, rfl, hK, hE, hI⟩ := hv.opn
  have hx := B.exec
  have hb := B.bytes
  have hr := B.returns
  have hts := atoms_spec (ws := wsL_volts) B.pre
  have hown : s.vm.findClass RL = some m.cls := findClass_of_methodNamed B.named
  have hlocks := B.notSynchronized
  have hM : zM p s m c cL_volts _ wsL_volts RL D tc := ⟨hx, hb, hts, hown, hK⟩
  have hl := lv_entry ([.ref px, .int 1, .ref po]) (n := 4) (Nat.le_of_ble_eq_true rfl)
  rw [lg_entry_eq]
  generalize (lg_sl ([.ref px, .int 1, .ref po]) ++ List.replicate (4 - (lg_sl ([.ref px, .int 1, .ref po])).length) Slot.unset).toArray = ls at hl ⊢
  have hl : lv_has ls 4 [(0, .ref px), (1, .int 1), (2, .ref po)] := hl
  refine lv_aload_n hx hb dL_volts_0 rfl (lv_at hl 2 rfl) ?_
  refine lv_iconst (v := 0) hx hb dL_volts_1 (by decide) ?_
  refine lv_aload_n hx hb dL_volts_2 rfl (lv_at hl 0 rfl) ?_
  refine lv_iload_n hx hb dL_volts_3 rfl (lv_at hl 1 rfl) ?_
  refine z_ciX (Xc := ([(px, .inr (10, [.ref yr, .ref yC, .ref yT, .ref yk, .ref ys, .ref yq, .ref yP, .ref yS, .int 0, .long 0])), (yr, .inl (tc 4, 3, .inr (.inr (.inr (.inr (va_up (va_up (va_up (fun _ => none) (0 : Int32).toNatClampNeg (some y0)) (1 : Int32).toNatClampNeg (some y1)) (2 : Int32).toNatClampNeg (some y2))))))), (y1, .inr (6, [.int 500, .int 500]))] : va_W)) (wr := []) (rx := ([(px, .inr (10, [.ref yr, .ref yC, .ref yT, .ref yk, .ref ys, .ref yq, .ref yP, .ref yS, .int 0, .long 0])), (yr, .inl (tc 4, 3, .inr (.inr (.inr (.inr (va_up (va_up (va_up (fun _ => none) (0 : Int32).toNatClampNeg (some y0)) (1 : Int32).toNatClampNeg (some y1)) (2 : Int32).toNatClampNeg (some y2))))))), (y1, .inr (6, [.int 500, .int 500]))] : va_W)) [0, 1, 2] [] rfl rfl rfl rfl (by decide) hI (va_runV (As := [.int 1]) (rest := [.int 0, .ref po]) ⟨hx, hb, hml, hown, hts⟩ (x_X8_volts_1 l D tc z0 _ κ g _ yr yC yT yk ys yq yP yS y0 y1 y2 px) (cwV 1 hts gL_volts_X8_volts rfl rfl rfl (by decide +kernel) ⟨Nat.le_of_ble_eq_true rfl, Nat.le_of_ble_eq_true rfl⟩) (z_preV (Xc := ([(px, .inr (10, [.ref yr, .ref yC, .ref yT, .ref yk, .ref ys, .ref yq, .ref yP, .ref yS, .int 0, .long 0])), (yr, .inl (tc 4, 3, .inr (.inr (.inr (.inr (va_up (va_up (va_up (fun _ => none) (0 : Int32).toNatClampNeg (some y0)) (1 : Int32).toNatClampNeg (some y1)) (2 : Int32).toNatClampNeg (some y2))))))), (y1, .inr (6, [.int 500, .int 500]))] : va_W)) hK hE hI [0, 1, 2] rfl rfl (z_recvX hK hI (i := 0) rfl rfl)) rfl rfl hl.1 rfl (lv_room (Nat.le_of_ble_eq_true rfl)) dL_volts_4 ⟨Nat.le_of_ble_eq_true rfl, Nat.le_of_ble_eq_true rfl⟩) (fun v9 u H locs hw hI => ?_)
  obtain ⟨rfl, rfl⟩ := hw
  have hI : zI D tc _ s.heap [(px, .inr (10, [.ref yr, .ref yC, .ref yT, .ref yk, .ref ys, .ref yq, .ref yP, .ref yS, .int 0, .long 0])), (yr, .inl (tc 4, 3, .inr (.inr (.inr (.inr (va_up (va_up (va_up (fun _ => none) (0 : Int32).toNatClampNeg (some y0)) (1 : Int32).toNatClampNeg (some y1)) (2 : Int32).toNatClampNeg (some y2))))))), (y1, .inr (6, [.int 500, .int 500]))] L κ g _ _ := hI
  refine lv_i2l hx hb dL_volts_7 rfl ?_
  refine lv_topl (fun w9 ew9 => ?_)
  obtain rfl : w9 = 500 := ew9.trans (by decide +kernel)
  refine z_last (g' := zup g po (0 : Int32).toNatClampNeg (.long 500)) hM hI hko rfl rfl (vp_in_c 0 1 (by decide)) ⟨(zup_self _ _ _ _).symm, _, rfl⟩ (fun b j h => zup_ne h) dL_volts_8 (fun H locs hI => ?_)
  refine lv_goto (tgt := 15) hx hb dL_volts_9 (by decide) ?_
  refine lv_iconst (v := 0) hx hb dL_volts_15 (by decide) ?_
  refine vx_ret ?_
  exact W.iret (v := 0) hx hb hr (fun t ht hW => ⟨⟨_, (L, κ, zup g po 0 (.long 500)), rfl, ⟨rfl, rfl⟩, z_endG hK hI ht hW⟩, z_F hI ht⟩) (z_locs hI) dL_volts_16

set_option maxHeartbeats 4000000 in
set_option maxRecDepth 100000 in
theorem x_L_volts_2 (l : Launch) (hnt : l.stackTraces = false) (D : va_G) (tc : Nat → ClassId) (z0 : Nat) (L : List Nat) (κ : Nat → Nat) (g : Nat → Nat → Value) (sz : Nat) (yr : Nat) (yC : Nat) (yT : Nat) (yk : Nat) (ys : Nat) (yq : Nat) (yP : Nat) (yS : Nat) (y0 : Nat) (y1 : Nat) (y2 : Nat) (px : Nat) (po : Nat) (hko : κ po = 29) : vx_Met l yL_volts wsL_volts ({ frames := 2, cells := 0, slots := 0, locals := 43 }) (zPc D tc z0 [.ref px, .int 2, .ref po] ([(px, .inr (10, [.ref yr, .ref yC, .ref yT, .ref yk, .ref ys, .ref yq, .ref yP, .ref yS, .int 0, .long 0])), (yr, .inl (tc 4, 3, .inr (.inr (.inr (.inr (va_up (va_up (va_up (fun _ => none) (0 : Int32).toNatClampNeg (some y0)) (1 : Int32).toNatClampNeg (some y1)) (2 : Int32).toNatClampNeg (some y2))))))), (y2, .inr (6, [.int 500, .int 500]))] : va_W) (L, κ, g) sz) (va_Qi (fun (r : Int32) (u : zS) => r = 0 ∧ u = (L, κ, zup g po 0 (.long 500))) (fun (u : zS) (t : State) => zB D tc (zA ([(px, .inr (10, [.ref yr, .ref yC, .ref yT, .ref yk, .ref ys, .ref yq, .ref yP, .ref yS, .int 0, .long 0])), (yr, .inl (tc 4, 3, .inr (.inr (.inr (.inr (va_up (va_up (va_up (fun _ => none) (0 : Int32).toNatClampNeg (some y0)) (1 : Int32).toNatClampNeg (some y1)) (2 : Int32).toNatClampNeg (some y2))))))), (y2, .inr (6, [.int 500, .int 500]))] : va_W) L sz) ([(px, .inr (10, [.ref yr, .ref yC, .ref yT, .ref yk, .ref ys, .ref yq, .ref yP, .ref yS, .int 0, .long 0])), (yr, .inl (tc 4, 3, .inr (.inr (.inr (.inr (va_up (va_up (va_up (fun _ => none) (0 : Int32).toNatClampNeg (some y0)) (1 : Int32).toNatClampNeg (some y1)) (2 : Int32).toNatClampNeg (some y2))))))), (y2, .inr (6, [.int 500, .int 500]))] : va_W) u t) (zA ([(px, .inr (10, [.ref yr, .ref yC, .ref yT, .ref yk, .ref ys, .ref yq, .ref yP, .ref yS, .int 0, .long 0])), (yr, .inl (tc 4, 3, .inr (.inr (.inr (.inr (va_up (va_up (va_up (fun _ => none) (0 : Int32).toNatClampNeg (some y0)) (1 : Int32).toNatClampNeg (some y1)) (2 : Int32).toNatClampNeg (some y2))))))), (y2, .inr (6, [.int 500, .int 500]))] : va_W) L sz)) (vx_X (fun u : zS => True) (fun (E : String) (u : zS) (t : State) => (False) ∧ zB D tc (zA ([(px, .inr (10, [.ref yr, .ref yC, .ref yT, .ref yk, .ref ys, .ref yq, .ref yP, .ref yS, .int 0, .long 0])), (yr, .inl (tc 4, 3, .inr (.inr (.inr (.inr (va_up (va_up (va_up (fun _ => none) (0 : Int32).toNatClampNeg (some y0)) (1 : Int32).toNatClampNeg (some y1)) (2 : Int32).toNatClampNeg (some y2))))))), (y2, .inr (6, [.int 500, .int 500]))] : va_W) L sz) ([(px, .inr (10, [.ref yr, .ref yC, .ref yT, .ref yk, .ref ys, .ref yq, .ref yP, .ref yS, .int 0, .long 0])), (yr, .inl (tc 4, 3, .inr (.inr (.inr (.inr (va_up (va_up (va_up (fun _ => none) (0 : Int32).toNatClampNeg (some y0)) (1 : Int32).toNatClampNeg (some y1)) (2 : Int32).toNatClampNeg (some y2))))))), (y2, .inr (6, [.int 500, .int 500]))] : va_W) u t) (zA ([(px, .inr (10, [.ref yr, .ref yC, .ref yT, .ref yk, .ref ys, .ref yq, .ref yP, .ref yS, .int 0, .long 0])), (yr, .inl (tc 4, 3, .inr (.inr (.inr (.inr (va_up (va_up (va_up (fun _ => none) (0 : Int32).toNatClampNeg (some y0)) (1 : Int32).toNatClampNeg (some y1)) (2 : Int32).toNatClampNeg (some y2))))))), (y2, .inr (6, [.int 500, .int 500]))] : va_W) L sz)) 0 0 (zA ([(px, .inr (10, [.ref yr, .ref yC, .ref yT, .ref yk, .ref ys, .ref yq, .ref yP, .ref yS, .int 0, .long 0])), (yr, .inl (tc 4, 3, .inr (.inr (.inr (.inr (va_up (va_up (va_up (fun _ => none) (0 : Int32).toNatClampNeg (some y0)) (1 : Int32).toNatClampNeg (some y1)) (2 : Int32).toNatClampNeg (some y2))))))), (y2, .inr (6, [.int 500, .int 500]))] : va_W) L sz) := by
  refine vx_ofWH (cc := cL_volts) (maxL := 4) (ret := (some .int)) (hh := [(0, 9, 12, 13)]) (by decide) rfl ?_
  intro p e s m args below meth c s₁ B hml hv
  obtain ⟨rfl, rfl, hK, hE, hI⟩ := hv.opn
  have hx := B.exec
  have hb := B.bytes
  have hr := B.returns
  have hts := atoms_spec (ws := wsL_volts) B.pre
  have hown : s.vm.findClass RL = some m.cls := findClass_of_methodNamed B.named
  have hlocks := B.notSynchronized
  have hM : zM p s m c cL_volts _ wsL_volts RL D tc := ⟨hx, hb, hts, hown, hK⟩
  have hl := lv_entry ([.ref px, .int 2, .ref po]) (n := 4) (Nat.le_of_ble_eq_true rfl)
  rw [lg_entry_eq]
  generalize (lg_sl ([.ref px, .int 2, .ref po]) ++ List.replicate (4 - (lg_sl ([.ref px, .int 2, .ref po])).length) Slot.unset).toArray = ls at hl ⊢
  have hl : lv_has ls 4 [(0, .ref px), (1, .int 2), (2, .ref po)] := hl
  refine lv_aload_n hx hb dL_volts_0 rfl (lv_at hl 2 rfl) ?_
  refine lv_iconst (v := 0) hx hb dL_volts_1 (by decide) ?_
  refine lv_aload_n hx hb dL_volts_2 rfl (lv_at hl 0 rfl) ?_
  refine lv_iload_n hx hb dL_volts_3 rfl (lv_at hl 1 rfl) ?_
  refine z_ciX (Xc := ([(px, .inr (10, [.ref yr, .ref yC, .ref yT, .ref yk, .ref ys, .ref yq, .ref yP, .ref yS, .int 0, .long 0])), (yr, .inl (tc 4, 3, .inr (.inr (.inr (.inr (va_up (va_up (va_up (fun _ => none) (0 : Int32).toNatClampNeg (some y0)) (1 : Int32).toNatClampNeg (some y1)) (2 : Int32).toNatClampNeg (some y2))))))), (y2, .inr (6, [.int 500, .int 500]))] : va_W)) (wr := []) (rx := ([(px, .inr (10, [.ref yr, .ref yC, .ref yT, .ref yk, .ref ys, .ref yq, .ref yP, .ref yS, .int 0, .long 0])), (yr, .inl (tc 4, 3, .inr (.inr (.inr (.inr (va_up (va_up (va_up (fun _ => none) (0 : Int32).toNatClampNeg (some y0)) (1 : Int32).toNatClampNeg (some y1)) (2 : Int32).toNatClampNeg (some y2))))))), (y2, .inr (6, [.int 500, .int 500]))] : va_W)) [0, 1, 2] [] rfl rfl rfl rfl (by decide) hI (va_runV (As := [.int 2]) (rest := [.int 0, .ref po]) ⟨hx, hb, hml, hown, hts⟩ (x_X8_volts_2 l D tc z0 _ κ g _ yr yC yT yk ys yq yP yS y0 y1 y2 px) (cwV 1 hts gL_volts_X8_volts rfl rfl rfl (by decide +kernel) ⟨Nat.le_of_ble_eq_true rfl, Nat.le_of_ble_eq_true rfl⟩) (z_preV (Xc := ([(px, .inr (10, [.ref yr, .ref yC, .ref yT, .ref yk, .ref ys, .ref yq, .ref yP, .ref yS, .int 0, .long 0])), (yr, .inl (tc 4, 3, .inr (.inr (.inr (.inr (va_up (va_up (va_up (fun _ => none) (0 : Int32).toNatClampNeg (some y0)) (1 : Int32).toNatClampNeg (some y1)) (2 : Int32).toNatClampNeg (some y2))))))), (y2, .inr (6, [.int 500, .int 500]))] : va_W)) hK hE hI [0, 1, 2] rfl rfl (z_recvX hK hI (i := 0) rfl rfl)) rfl rfl hl.1 rfl (lv_room (Nat.le_of_ble_eq_true rfl)) dL_volts_4 ⟨Nat.le_of_ble_eq_true rfl, Nat.le_of_ble_eq_true rfl⟩) (fun v9 u H locs hw hI => ?_)
  obtain ⟨rfl, rfl⟩ := hw
  have hI : zI D tc _ s.heap [(px, .inr (10, [.ref yr, .ref yC, .ref yT, .ref yk, .ref ys, .ref yq, .ref yP, .ref yS, .int 0, .long 0])), (yr, .inl (tc 4, 3, .inr (.inr (.inr (.inr (va_up (va_up (va_up (fun _ => none) (0 : Int32).toNatClampNeg (some y0)) (1 : Int32).toNatClampNeg (some y1)) (2 : Int32).toNatClampNeg (some y2))))))), (y2, .inr (6, [.int 500, .int 500]))] L κ g _ _ := hI
  refine lv_i2l hx hb dL_volts_7 rfl ?_
  refine lv_topl (fun w9 ew9 => ?_)
  obtain rfl : w9 = 500 := ew9.trans (by decide +kernel)
  refine z_last (g' := zup g po (0 : Int32).toNatClampNeg (.long 500)) hM hI hko rfl rfl (vp_in_c 0 1 (by decide)) ⟨(zup_self _ _ _ _).symm, _, rfl⟩ (fun b j h => zup_ne h) dL_volts_8 (fun H locs hI => ?_)
  refine lv_goto (tgt := 15) hx hb dL_volts_9 (by decide) ?_
  refine lv_iconst (v := 0) hx hb dL_volts_15 (by decide) ?_
  refine vx_ret ?_
  exact W.iret (v := 0) hx hb hr (fun t ht hW => ⟨⟨_, (L, κ, zup g po 0 (.long 500)), rfl, ⟨rfl, rfl⟩, z_endG hK hI ht hW⟩, z_F hI ht⟩) (z_locs hI) dL_volts_16

set_option maxHeartbeats 4000000 in
set_option maxRecDepth 100000 in
theorem x_L_account_119 (l : Launch) (hnt : l.stackTraces = false) (D : va_G) (tc : Nat → ClassId) (z0 : Nat) (L : List Nat) (κ : Nat → Nat) (g : Nat → Nat → Value) (sz : Nat) (yr : Nat) (yC : Nat) (yT : Nat) (yk : Nat) (ys : Nat) (yq : Nat) (yP : Nat) (yS : Nat) (px : Nat) (po : Nat) (hko : κ po = 29) : vx_Met l yL_account wsL_account ({ frames := 1, cells := 0, slots := 0, locals := 21 }) (zPc D tc z0 [.ref px, .int 119, .ref po] ([(px, .inr (10, [.ref yr, .ref yC, .ref yT, .ref yk, .ref ys, .ref yq, .ref yP, .ref yS, .int 0, .long 0])), (ys, .inr (8, [.int 200, .int 5000, .int 600, .long 0, .long 0, .int 0, .long 0, .long 0, .long 0, .long 0]))] : va_W) (L, κ, g) sz) (va_Qi (fun (r : Int32) (u : zS) => r = 0 ∧ u = (L, κ, zup g po 0 (.long 0))) (fun (u : zS) (t : State) => zB D tc (zA ([(px, .inr (10, [.ref yr, .ref yC, .ref yT, .ref yk, .ref ys, .ref yq, .ref yP, .ref yS, .int 0, .long 0])), (ys, .inr (8, [.int 200, .int 5000, .int 600, .long 0, .long 0, .int 0, .long 0, .long 0, .long 0, .long 0]))] : va_W) L sz) ([(px, .inr (10, [.ref yr, .ref yC, .ref yT, .ref yk, .ref ys, .ref yq, .ref yP, .ref yS, .int 0, .long 0])), (ys, .inr (8, [.int 200, .int 5000, .int 600, .long 0, .long 0, .int 0, .long 0, .long 0, .long 0, .long 0]))] : va_W) u t) (zA ([(px, .inr (10, [.ref yr, .ref yC, .ref yT, .ref yk, .ref ys, .ref yq, .ref yP, .ref yS, .int 0, .long 0])), (ys, .inr (8, [.int 200, .int 5000, .int 600, .long 0, .long 0, .int 0, .long 0, .long 0, .long 0, .long 0]))] : va_W) L sz)) (vx_X (fun u : zS => True) (fun (E : String) (u : zS) (t : State) => (False) ∧ zB D tc (zA ([(px, .inr (10, [.ref yr, .ref yC, .ref yT, .ref yk, .ref ys, .ref yq, .ref yP, .ref yS, .int 0, .long 0])), (ys, .inr (8, [.int 200, .int 5000, .int 600, .long 0, .long 0, .int 0, .long 0, .long 0, .long 0, .long 0]))] : va_W) L sz) ([(px, .inr (10, [.ref yr, .ref yC, .ref yT, .ref yk, .ref ys, .ref yq, .ref yP, .ref yS, .int 0, .long 0])), (ys, .inr (8, [.int 200, .int 5000, .int 600, .long 0, .long 0, .int 0, .long 0, .long 0, .long 0, .long 0]))] : va_W) u t) (zA ([(px, .inr (10, [.ref yr, .ref yC, .ref yT, .ref yk, .ref ys, .ref yq, .ref yP, .ref yS, .int 0, .long 0])), (ys, .inr (8, [.int 200, .int 5000, .int 600, .long 0, .long 0, .int 0, .long 0, .long 0, .long 0, .long 0]))] : va_W) L sz)) 0 0 (zA ([(px, .inr (10, [.ref yr, .ref yC, .ref yT, .ref yk, .ref ys, .ref yq, .ref yP, .ref yS, .int 0, .long 0])), (ys, .inr (8, [.int 200, .int 5000, .int 600, .long 0, .long 0, .int 0, .long 0, .long 0, .long 0, .long 0]))] : va_W) L sz) := by
  refine vx_ofWH (cc := cL_account) (maxL := 4) (ret := (some .int)) (hh := [(0, 8, 11, 15)]) (by decide) rfl ?_
  intro p e s m args below meth c s₁ B hml hv
  obtain ⟨rfl, rfl, hK, hE, hI⟩ := hv.opn
  have hx := B.exec
  have hb := B.bytes
  have hr := B.returns
  have hts := atoms_spec (ws := wsL_account) B.pre
  have hown : s.vm.findClass RL = some m.cls := findClass_of_methodNamed B.named
  have hlocks := B.notSynchronized
  have hM : zM p s m c cL_account _ wsL_account RL D tc := ⟨hx, hb, hts, hown, hK⟩
  have hl := lv_entry ([.ref px, .int 119, .ref po]) (n := 4) (Nat.le_of_ble_eq_true rfl)
  rw [lg_entry_eq]
  generalize (lg_sl ([.ref px, .int 119, .ref po]) ++ List.replicate (4 - (lg_sl ([.ref px, .int 119, .ref po])).length) Slot.unset).toArray = ls at hl ⊢
  have hl : lv_has ls 4 [(0, .ref px), (1, .int 119), (2, .ref po)] := hl
  refine lv_aload_n hx hb dL_account_0 rfl (lv_at hl 2 rfl) ?_
  refine lv_iconst (v := 0) hx hb dL_account_1 (by decide) ?_
  refine lv_aload_n hx hb dL_account_2 rfl (lv_at hl 0 rfl) ?_
  refine lv_iload_n hx hb dL_account_3 rfl (lv_at hl 1 rfl) ?_
  refine z_clX (Xc := ([(px, .inr (10, [.ref yr, .ref yC, .ref yT, .ref yk, .ref ys, .ref yq, .ref yP, .ref yS, .int 0, .long 0])), (ys, .inr (8, [.int 200, .int 5000, .int 600, .long 0, .long 0, .int 0, .long 0, .long 0, .long 0, .long 0]))] : va_W)) (wr := []) (rx := ([(px, .inr (10, [.ref yr, .ref yC, .ref yT, .ref yk, .ref ys, .ref yq, .ref yP, .ref yS, .int 0, .long 0])), (ys, .inr (8, [.int 200, .int 5000, .int 600, .long 0, .long 0, .int 0, .long 0, .long 0, .long 0, .long 0]))] : va_W)) [0, 1] [] rfl rfl rfl rfl (by decide) hI (va_runV (As := [.int 119]) (rest := [.int 0, .ref po]) ⟨hx, hb, hml, hown, hts⟩ (x_X8_account_119 l D tc z0 _ κ g _ yr yC yT yk ys yq yP yS px) (cwV 1 hts gL_account_X8_account rfl rfl rfl (by decide +kernel) ⟨Nat.le_of_ble_eq_true rfl, Nat.le_of_ble_eq_true rfl⟩) (z_preV (Xc := ([(px, .inr (10, [.ref yr, .ref yC, .ref yT, .ref yk, .ref ys, .ref yq, .ref yP, .ref yS, .int 0, .long 0])), (ys, .inr (8, [.int 200, .int 5000, .int 600, .long 0, .long 0, .int 0, .long 0, .long 0, .long 0, .long 0]))] : va_W)) hK hE hI [0, 1] rfl rfl (z_recvX hK hI (i := 0) rfl rfl)) rfl rfl hl.1 rfl (lv_room (Nat.le_of_ble_eq_true rfl)) dL_account_4 ⟨Nat.le_of_ble_eq_true rfl, Nat.le_of_ble_eq_true rfl⟩) (fun v9 u H locs hw hI => ?_)
  obtain ⟨rfl, rfl⟩ := hw
  have hI : zI D tc _ s.heap [(px, .inr (10, [.ref yr, .ref yC, .ref yT, .ref yk, .ref ys, .ref yq, .ref yP, .ref yS, .int 0, .long 0])), (ys, .inr (8, [.int 200, .int 5000, .int 600, .long 0, .long 0, .int 0, .long 0, .long 0, .long 0, .long 0]))] L κ g _ _ := hI
  refine z_last (g' := zup g po (0 : Int32).toNatClampNeg (.long 0)) hM hI hko rfl rfl (vp_in_c 0 1 (by decide)) ⟨(zup_self _ _ _ _).symm, _, rfl⟩ (fun b j h => zup_ne h) dL_account_7 (fun H locs hI => ?_)
  refine lv_goto (tgt := 14) hx hb dL_account_8 (by decide) ?_
  refine lv_iconst (v := 0) hx hb dL_account_14 (by decide) ?_
  refine vx_ret ?_
  exact W.iret (v := 0) hx hb hr (fun t ht hW => ⟨⟨_, (L, κ, zup g po 0 (.long 0)), rfl, ⟨rfl, rfl⟩, z_endG hK hI ht hW⟩, z_F hI ht⟩) (z_locs hI) dL_account_15

set_option maxHeartbeats 4000000 in
set_option maxRecDepth 100000 in
theorem x_L_account_98 (l : Launch) (hnt : l.stackTraces = false) (D : va_G) (tc : Nat → ClassId) (z0 : Nat) (L : List Nat) (κ : Nat → Nat) (g : Nat → Nat → Value) (sz : Nat) (yr : Nat) (yC : Nat) (yT : Nat) (yk : Nat) (ys : Nat) (yq : Nat) (yP : Nat) (yS : Nat) (px : Nat) (po : Nat) (hko : κ po = 29) : vx_Met l yL_account wsL_account ({ frames := 1, cells := 0, slots := 0, locals := 21 }) (zPc D tc z0 [.ref px, .int 98, .ref po] ([(px, .inr (10, [.ref yr, .ref yC, .ref yT, .ref yk, .ref ys, .ref yq, .ref yP, .ref yS, .int 0, .long 0])), (ys, .inr (8, [.int 200, .int 5000, .int 600, .long 0, .long 0, .int 0, .long 0, .long 0, .long 0, .long 0]))] : va_W) (L, κ, g) sz) (va_Qi (fun (r : Int32) (u : zS) => r = 0 ∧ u = (L, κ, zup g po 0 (.long 0))) (fun (u : zS) (t : State) => zB D tc (zA ([(px, .inr (10, [.ref yr, .ref yC, .ref yT, .ref yk, .ref ys, .ref yq, .ref yP, .ref yS, .int 0, .long 0])), (ys, .inr (8, [.int 200, .int 5000, .int 600, .long 0, .long 0, .int 0, .long 0, .long 0, .long 0, .long 0]))] : va_W) L sz) ([(px, .inr (10, [.ref yr, .ref yC, .ref yT, .ref yk, .ref ys, .ref yq, .ref yP, .ref yS, .int 0, .long 0])), (ys, .inr (8, [.int 200, .int 5000, .int 600, .long 0, .long 0, .int 0, .long 0, .long 0, .long 0, .long 0]))] : va_W) u t) (zA ([(px, .inr (10, [.ref yr, .ref yC, .ref yT, .ref yk, .ref ys, .ref yq, .ref yP, .ref yS, .int 0, .long 0])), (ys, .inr (8, [.int 200, .int 5000, .int 600, .long 0, .long 0, .int 0, .long 0, .long 0, .long 0, .long 0]))] : va_W) L sz)) (vx_X (fun u : zS => True) (fun (E : String) (u : zS) (t : State) => (False) ∧ zB D tc (zA ([(px, .inr (10, [.ref yr, .ref yC, .ref yT, .ref yk, .ref ys, .ref yq, .ref yP, .ref yS, .int 0, .long 0])), (ys, .inr (8, [.int 200, .int 5000, .int 600, .long 0, .long 0, .int 0, .long 0, .long 0, .long 0, .long 0]))] : va_W) L sz) ([(px, .inr (10, [.ref yr, .ref yC, .ref yT, .ref yk, .ref ys, .ref yq, .ref yP, .ref yS, .int 0, .long 0])), (ys, .inr (8, [.int 200, .int 5000, .int 600, .long 0, .long 0, .int 0, .long 0, .long 0, .long 0, .long 0]))] : va_W) u t) (zA ([(px, .inr (10, [.ref yr, .ref yC, .ref yT, .ref yk, .ref ys, .ref yq, .ref yP, .ref yS, .int 0, .long 0])), (ys, .inr (8, [.int 200, .int 5000, .int 600, .long 0, .long 0, .int 0, .long 0, .long 0, .long 0, .long 0]))] : va_W) L sz)) 0 0 (zA ([(px, .inr (10, [.ref yr, .ref yC, .ref yT, .ref yk, .ref ys, .ref yq, .ref yP, .ref yS, .int 0, .long 0])), (ys, .inr (8, [.int 200, .int 5000, .int 600, .long 0, .long 0, .int 0, .long 0, .long 0, .long 0, .long 0]))] : va_W) L sz) := by
  refine vx_ofWH (cc := cL_account) (maxL := 4) (ret := (some .int)) (hh := [(0, 8, 11, 15)]) (by decide) rfl ?_
  intro p e s m args below meth c s₁ B hml hv
  obtain ⟨rfl, rfl, hK, hE, hI⟩ := hv.opn
  have hx := B.exec
  have hb := B.bytes
  have hr := B.returns
  have hts := atoms_spec (ws := wsL_account) B.pre
  have hown : s.vm.findClass RL = some m.cls := findClass_of_methodNamed B.named
  have hlocks := B.notSynchronized
  have hM : zM p s m c cL_account _ wsL_account RL D tc := ⟨hx, hb, hts, hown, hK⟩
  have hl := lv_entry ([.ref px, .int 98, .ref po]) (n := 4) (Nat.le_of_ble_eq_true rfl)
  rw [lg_entry_eq]
  generalize (lg_sl ([.ref px, .int 98, .ref po]) ++ List.replicate (4 - (lg_sl ([.ref px, .int 98, .ref po])).length) Slot.unset).toArray = ls at hl ⊢
  have hl : lv_has ls 4 [(0, .ref px), (1, .int 98), (2, .ref po)] := hl
  refine lv_aload_n hx hb dL_account_0 rfl (lv_at hl 2 rfl) ?_
  refine lv_iconst (v := 0) hx hb dL_account_1 (by decide) ?_
  refine lv_aload_n hx hb dL_account_2 rfl (lv_at hl 0 rfl) ?_
  refine lv_iload_n hx hb dL_account_3 rfl (lv_at hl 1 rfl) ?_
  refine z_clX (Xc := ([(px, .inr (10, [.ref yr, .ref yC, .ref yT, .ref yk, .ref ys, .ref yq, .ref yP, .ref yS, .int 0, .long 0])), (ys, .inr (8, [.int 200, .int 5000, .int 600, .long 0, .long 0, .int 0, .long 0, .long 0, .long 0, .long 0]))] : va_W)) (wr := []) (rx := ([(px, .inr (10, [.ref yr, .ref yC, .ref yT, .ref yk, .ref ys, .ref yq, .ref yP, .ref yS, .int 0, .long 0])), (ys, .inr (8, [.int 200, .int 5000, .int 600, .long 0, .long 0, .int 0, .long 0, .long 0, .long 0, .long 0]))] : va_W)) [0, 1] [] rfl rfl rfl rfl (by decide) hI (va_runV (As := [.int 98]) (rest := [.int 0, .ref po]) ⟨hx, hb, hml, hown, hts⟩ (x_X8_account_98 l D tc z0 _ κ g _ yr yC yT yk ys yq yP yS px) (cwV 1 hts gL_account_X8_account rfl rfl rfl (by decide +kernel) ⟨Nat.le_of_ble_eq_true rfl, Nat.le_of_ble_eq_true rfl⟩) (z_preV (Xc := ([(px, .inr (10, [.ref yr, .ref yC, .ref yT, .ref yk, .ref ys, .ref yq, .ref yP, .ref yS, .int 0, .long 0])), (ys, .inr (8, [.int 200, .int 5000, .int 600, .long 0, .long 0, .int 0, .long 0, .long 0, .long 0, .long 0]))] : va_W)) hK hE hI [0, 1] rfl rfl (z_recvX hK hI (i := 0) rfl rfl)) rfl rfl hl.1 rfl (lv_room (Nat.le_of_ble_eq_true rfl)) dL_account_4 ⟨Nat.le_of_ble_eq_true rfl, Nat.le_of_ble_eq_true rfl⟩) (fun v9 u H locs hw hI => ?_)
  obtain ⟨rfl, rfl⟩ := hw
  have hI : zI D tc _ s.heap [(px, .inr (10, [.ref yr, .ref yC, .ref yT, .ref yk, .ref ys, .ref yq, .ref yP, .ref yS, .int 0, .long 0])), (ys, .inr (8, [.int 200, .int 5000, .int 600, .long 0, .long 0, .int 0, .long 0, .long 0, .long 0, .long 0]))] L κ g _ _ := hI
  refine z_last (g' := zup g po (0 : Int32).toNatClampNeg (.long 0)) hM hI hko rfl rfl (vp_in_c 0 1 (by decide)) ⟨(zup_self _ _ _ _).symm, _, rfl⟩ (fun b j h => zup_ne h) dL_account_7 (fun H locs hI => ?_)
  refine lv_goto (tgt := 14) hx hb dL_account_8 (by decide) ?_
  refine lv_iconst (v := 0) hx hb dL_account_14 (by decide) ?_
  refine vx_ret ?_
  exact W.iret (v := 0) hx hb hr (fun t ht hW => ⟨⟨_, (L, κ, zup g po 0 (.long 0)), rfl, ⟨rfl, rfl⟩, z_endG hK hI ht hW⟩, z_F hI ht⟩) (z_locs hI) dL_account_15

set_option maxHeartbeats 4000000 in
set_option maxRecDepth 100000 in
theorem x_L_account_111 (l : Launch) (hnt : l.stackTraces = false) (D : va_G) (tc : Nat → ClassId) (z0 : Nat) (L : List Nat) (κ : Nat → Nat) (g : Nat → Nat → Value) (sz : Nat) (yr : Nat) (yC : Nat) (yT : Nat) (yk : Nat) (ys : Nat) (yq : Nat) (yP : Nat) (yS : Nat) (px : Nat) (po : Nat) (hko : κ po = 29) : vx_Met l yL_account wsL_account ({ frames := 1, cells := 0, slots := 0, locals := 21 }) (zPc D tc z0 [.ref px, .int 111, .ref po] ([(px, .inr (10, [.ref yr, .ref yC, .ref yT, .ref yk, .ref ys, .ref yq, .ref yP, .ref yS, .int 0, .long 0])), (ys, .inr (8, [.int 200, .int 5000, .int 600, .long 0, .long 0, .int 0, .long 0, .long 0, .long 0, .long 0]))] : va_W) (L, κ, g) sz) (va_Qi (fun (r : Int32) (u : zS) => r = 0 ∧ u = (L, κ, zup g po 0 (.long 0))) (fun (u : zS) (t : State) => zB D tc (zA ([(px, .inr (10, [.ref yr, .ref yC, .ref yT, .ref yk, .ref ys, .ref yq, .ref yP, .ref yS, .int 0, .long 0])), (ys, .inr (8, [.int 200, .int 5000, .int 600, .long 0, .long 0, .int 0, .long 0, .long 0, .long 0, .long 0]))] : va_W) L sz) ([(px, .inr (10, [.ref yr, .ref yC, .ref yT, .ref yk, .ref ys, .ref yq, .ref yP, .ref yS, .int 0, .long 0])), (ys, .inr (8, [.int 200, .int 5000, .int 600, .long 0, .long 0, .int 0, .long 0, .long 0, .long 0, .long 0]))] : va_W) u t) (zA ([(px, .inr (10, [.ref yr, .ref yC, .ref yT, .ref yk, .ref ys, .ref yq, .ref yP, .ref yS, .int 0, .long 0])), (ys, .inr (8, [.int 200, .int 5000, .int 600, .long 0, .long 0, .int 0, .long 0, .long 0, .long 0, .long 0]))] : va_W) L sz)) (vx_X (fun u : zS => True) (fun (E : String) (u : zS) (t : State) => (False) ∧ zB D tc (zA ([(px, .inr (10, [.ref yr, .ref yC, .ref yT, .ref yk, .ref ys, .ref yq, .ref yP, .ref yS, .int 0, .long 0])), (ys, .inr (8, [.int 200, .int 5000, .int 600, .long 0, .long 0, .int 0, .long 0, .long 0, .long 0, .long 0]))] : va_W) L sz) ([(px, .inr (10, [.ref yr, .ref yC, .ref yT, .ref yk, .ref ys, .ref yq, .ref yP, .ref yS, .int 0, .long 0])), (ys, .inr (8, [.int 200, .int 5000, .int 600, .long 0, .long 0, .int 0, .long 0, .long 0, .long 0, .long 0]))] : va_W) u t) (zA ([(px, .inr (10, [.ref yr, .ref yC, .ref yT, .ref yk, .ref ys, .ref yq, .ref yP, .ref yS, .int 0, .long 0])), (ys, .inr (8, [.int 200, .int 5000, .int 600, .long 0, .long 0, .int 0, .long 0, .long 0, .long 0, .long 0]))] : va_W) L sz)) 0 0 (zA ([(px, .inr (10, [.ref yr, .ref yC, .ref yT, .ref yk, .ref ys, .ref yq, .ref yP, .ref yS, .int 0, .long 0])), (ys, .inr (8, [.int 200, .int 5000, .int 600, .long 0, .long 0, .int 0, .long 0, .long 0, .long 0, .long 0]))] : va_W) L sz) := by
  refine vx_ofWH (cc := cL_account) (maxL := 4) (ret := (some .int)) (hh := [(0, 8, 11, 15)]) (by decide) rfl ?_
  intro p e s m args below meth c s₁ B hml hv
  obtain ⟨rfl, rfl, hK, hE, hI⟩ := hv.opn
  have hx := B.exec
  have hb := B.bytes
  have hr := B.returns
  have hts := atoms_spec (ws := wsL_account) B.pre
  have hown : s.vm.findClass RL = some m.cls := findClass_of_methodNamed B.named
  have hlocks := B.notSynchronized
  have hM : zM p s m c cL_account _ wsL_account RL D tc := ⟨hx, hb, hts, hown, hK⟩
  have hl := lv_entry ([.ref px, .int 111, .ref po]) (n := 4) (Nat.le_of_ble_eq_true rfl)
  rw [lg_entry_eq]
  generalize (lg_sl ([.ref px, .int 111, .ref po]) ++ List.replicate (4 - (lg_sl ([.ref px, .int 111, .ref po])).length) Slot.unset).toArray = ls at hl ⊢
  have hl : lv_has ls 4 [(0, .ref px), (1, .int 111), (2, .ref po)] := hl
  refine lv_aload_n hx hb dL_account_0 rfl (lv_at hl 2 rfl) ?_
  refine lv_iconst (v := 0) hx hb dL_account_1 (by decide) ?_
  refine lv_aload_n hx hb dL_account_2 rfl (lv_at hl 0 rfl) ?_
  refine lv_iload_n hx hb dL_account_3 rfl (lv_at hl 1 rfl) ?_
  refine z_clX (Xc := ([(px, .inr (10, [.ref yr, .ref yC, .ref yT, .ref yk, .ref ys, .ref yq, .ref yP, .ref yS, .int 0, .long 0])), (ys, .inr (8, [.int 200, .int 5000, .int 600, .long 0, .long 0, .int 0, .long 0, .long 0, .long 0, .long 0]))] : va_W)) (wr := []) (rx := ([(px, .inr (10, [.ref yr, .ref yC, .ref yT, .ref yk, .ref ys, .ref yq, .ref yP, .ref yS, .int 0, .long 0])), (ys, .inr (8, [.int 200, .int 5000, .int 600, .long 0, .long 0, .int 0, .long 0, .long 0, .long 0, .long 0]))] : va_W)) [0, 1] [] rfl rfl rfl rfl (by decide) hI (va_runV (As := [.int 111]) (rest := [.int 0, .ref po]) ⟨hx, hb, hml, hown, hts⟩ (x_X8_account_111 l D tc z0 _ κ g _ yr yC yT yk ys yq yP yS px) (cwV 1 hts gL_account_X8_account rfl rfl rfl (by decide +kernel) ⟨Nat.le_of_ble_eq_true rfl, Nat.le_of_ble_eq_true rfl⟩) (z_preV (Xc := ([(px, .inr (10, [.ref yr, .ref yC, .ref yT, .ref yk, .ref ys, .ref yq, .ref yP, .ref yS, .int 0, .long 0])), (ys, .inr (8, [.int 200, .int 5000, .int 600, .long 0, .long 0, .int 0, .long 0, .long 0, .long 0, .long 0]))] : va_W)) hK hE hI [0, 1] rfl rfl (z_recvX hK hI (i := 0) rfl rfl)) rfl rfl hl.1 rfl (lv_room (Nat.le_of_ble_eq_true rfl)) dL_account_4 ⟨Nat.le_of_ble_eq_true rfl, Nat.le_of_ble_eq_true rfl⟩) (fun v9 u H locs hw hI => ?_)
  obtain ⟨rfl, rfl⟩ := hw
  have hI : zI D tc _ s.heap [(px, .inr (10, [.ref yr, .ref yC, .ref yT, .ref yk, .ref ys, .ref yq, .ref yP, .ref yS, .int 0, .long 0])), (ys, .inr (8, [.int 200, .int 5000, .int 600, .long 0, .long 0, .int 0, .long 0, .long 0, .long 0, .long 0]))] L κ g _ _ := hI
  refine z_last (g' := zup g po (0 : Int32).toNatClampNeg (.long 0)) hM hI hko rfl rfl (vp_in_c 0 1 (by decide)) ⟨(zup_self _ _ _ _).symm, _, rfl⟩ (fun b j h => zup_ne h) dL_account_7 (fun H locs hI => ?_)
  refine lv_goto (tgt := 14) hx hb dL_account_8 (by decide) ?_
  refine lv_iconst (v := 0) hx hb dL_account_14 (by decide) ?_
  refine vx_ret ?_
  exact W.iret (v := 0) hx hb hr (fun t ht hW => ⟨⟨_, (L, κ, zup g po 0 (.long 0)), rfl, ⟨rfl, rfl⟩, z_endG hK hI ht hW⟩, z_F hI ht⟩) (z_locs hI) dL_account_15

set_option maxHeartbeats 4000000 in
set_option maxRecDepth 100000 in
theorem x_L_account_104 (l : Launch) (hnt : l.stackTraces = false) (D : va_G) (tc : Nat → ClassId) (z0 : Nat) (L : List Nat) (κ : Nat → Nat) (g : Nat → Nat → Value) (sz : Nat) (yr : Nat) (yC : Nat) (yT : Nat) (yk : Nat) (ys : Nat) (yq : Nat) (yP : Nat) (yS : Nat) (px : Nat) (po : Nat) (hko : κ po = 29) : vx_Met l yL_account wsL_account ({ frames := 1, cells := 0, slots := 0, locals := 21 }) (zPc D tc z0 [.ref px, .int 104, .ref po] ([(px, .inr (10, [.ref yr, .ref yC, .ref yT, .ref yk, .ref ys, .ref yq, .ref yP, .ref yS, .int 0, .long 0]))] : va_W) (L, κ, g) sz) (va_Qi (fun (r : Int32) (u : zS) => r = 0 ∧ u = (L, κ, zup g po 0 (.long 0))) (fun (u : zS) (t : State) => zB D tc (zA ([(px, .inr (10, [.ref yr, .ref yC, .ref yT, .ref yk, .ref ys, .ref yq, .ref yP, .ref yS, .int 0, .long 0]))] : va_W) L sz) ([(px, .inr (10, [.ref yr, .ref yC, .ref yT, .ref yk, .ref ys, .ref yq, .ref yP, .ref yS, .int 0, .long 0]))] : va_W) u t) (zA ([(px, .inr (10, [.ref yr, .ref yC, .ref yT, .ref yk, .ref ys, .ref yq, .ref yP, .ref yS, .int 0, .long 0]))] : va_W) L sz)) (vx_X (fun u : zS => True) (fun (E : String) (u : zS) (t : State) => (False) ∧ zB D tc (zA ([(px, .inr (10, [.ref yr, .ref yC, .ref yT, .ref yk, .ref ys, .ref yq, .ref yP, .ref yS, .int 0, .long 0]))] : va_W) L sz) ([(px, .inr (10, [.ref yr, .ref yC, .ref yT, .ref yk, .ref ys, .ref yq, .ref yP, .ref yS, .int 0, .long 0]))] : va_W) u t) (zA ([(px, .inr (10, [.ref yr, .ref yC, .ref yT, .ref yk, .ref ys, .ref yq, .ref yP, .ref yS, .int 0, .long 0]))] : va_W) L sz)) 0 0 (zA ([(px, .inr (10, [.ref yr, .ref yC, .ref yT, .ref yk, .ref ys, .ref yq, .ref yP, .ref yS, .int 0, .long 0]))] : va_W) L sz) := by
  refine vx_ofWH (cc := cL_account) (maxL := 4) (ret := (some .int)) (hh := [(0, 8, 11, 15)]) (by decide) rfl ?_
  intro p e s m args below meth c s₁ B hml hv
  obtain ⟨rfl, rfl, hK, hE, hI⟩ := hv.opn
  have hx := B.exec
  have hb := B.bytes
  have hr := B.returns
  have hts := atoms_spec (ws := wsL_account) B.pre
  have hown : s.vm.findClass RL = some m.cls := findClass_of_methodNamed B.named
  have hlocks := B.notSynchronized
  have hM : zM p s m c cL_account _ wsL_account RL D tc := ⟨hx, hb, hts, hown, hK⟩
  have hl := lv_entry ([.ref px, .int 104, .ref po]) (n := 4) (Nat.le_of_ble_eq_true rfl)
  rw [lg_entry_eq]
  generalize (lg_sl ([.ref px, .int 104, .ref po]) ++ List.replicate (4 - (lg_sl ([.ref px, .int 104, .ref po])).length) Slot.unset).toArray = ls at hl ⊢
  have hl : lv_has ls 4 [(0, .ref px), (1, .int 104), (2, .ref po)] := hl
  refine lv_aload_n hx hb dL_account_0 rfl (lv_at hl 2 rfl) ?_
  refine lv_iconst (v := 0) hx hb dL_account_1 (by decide) ?_
  refine lv_aload_n hx hb dL_account_2 rfl (lv_at hl 0 rfl) ?_
  refine lv_iload_n hx hb dL_account_3 rfl (lv_at hl 1 rfl) ?_
  refine z_clX (Xc := ([(px, .inr (10, [.ref yr, .ref yC, .ref yT, .ref yk, .ref ys, .ref yq, .ref yP, .ref yS, .int 0, .long 0]))] : va_W)) (wr := []) (rx := ([(px, .inr (10, [.ref yr, .ref yC, .ref yT, .ref yk, .ref ys, .ref yq, .ref yP, .ref yS, .int 0, .long 0]))] : va_W)) [0] [] rfl rfl rfl rfl (by decide) hI (va_runV (As := [.int 104]) (rest := [.int 0, .ref po]) ⟨hx, hb, hml, hown, hts⟩ (x_X8_account_104 l D tc z0 _ κ g _ yr yC yT yk ys yq yP yS px) (cwV 1 hts gL_account_X8_account rfl rfl rfl (by decide +kernel) ⟨Nat.le_of_ble_eq_true rfl, Nat.le_of_ble_eq_true rfl⟩) (z_preV (Xc := ([(px, .inr (10, [.ref yr, .ref yC, .ref yT, .ref yk, .ref ys, .ref yq, .ref yP, .ref yS, .int 0, .long 0]))] : va_W)) hK hE hI [0] rfl rfl (z_recvX hK hI (i := 0) rfl rfl)) rfl rfl hl.1 rfl (lv_room (Nat.le_of_ble_eq_true rfl)) dL_account_4 ⟨Nat.le_of_ble_eq_true rfl, Nat.le_of_ble_eq_true rfl⟩) (fun v9 u H locs hw hI => ?_)
  obtain ⟨rfl, rfl⟩ := hw
  have hI : zI D tc _ s.heap [(px, .inr (10, [.ref yr, .ref yC, .ref yT, .ref yk, .ref ys, .ref yq, .ref yP, .ref yS, .int 0, .long 0]))] L κ g _ _ := hI
  refine z_last (g' := zup g po (0 : Int32).toNatClampNeg (.long 0)) hM hI hko rfl rfl (vp_in_c 0 1 (by decide)) ⟨(zup_self _ _ _ _).symm, _, rfl⟩ (fun b j h => zup_ne h) dL_account_7 (fun H locs hI => ?_)
  refine lv_goto (tgt := 14) hx hb dL_account_8 (by decide) ?_
  refine lv_iconst (v := 0) hx hb dL_account_14 (by decide) ?_
  refine vx_ret ?_
  exact W.iret (v := 0) hx hb hr (fun t ht hW => ⟨⟨_, (L, κ, zup g po 0 (.long 0)), rfl, ⟨rfl, rfl⟩, z_endG hK hI ht hW⟩, z_F hI ht⟩) (z_locs hI) dL_account_15

set_option maxHeartbeats 4000000 in
set_option maxRecDepth 100000 in
theorem x_L_account_97 (l : Launch) (hnt : l.stackTraces = false) (D : va_G) (tc : Nat → ClassId) (z0 : Nat) (L : List Nat) (κ : Nat → Nat) (g : Nat → Nat → Value) (sz : Nat) (yr : Nat) (yC : Nat) (yT : Nat) (yk : Nat) (ys : Nat) (yb : Nat) (yq : Nat) (yA : Nat) (yP : Nat) (yS : Nat) (px : Nat) (po : Nat) (hko : κ po = 29) : vx_Met l yL_account wsL_account ({ frames := 1, cells := 0, slots := 0, locals := 21 }) (zPc D tc z0 [.ref px, .int 97, .ref po] ([(px, .inr (10, [.ref yr, .ref yC, .ref yT, .ref yk, .ref ys, .ref yq, .ref yP, .ref yS, .int 0, .long 0])), (yk, .inr (4, [.ref yb, .ref yA, .long 0, .int 0, .int 0]))] : va_W) (L, κ, g) sz) (va_Qi (fun (r : Int32) (u : zS) => r = 0 ∧ u = (L, κ, zup g po 0 (.long 0))) (fun (u : zS) (t : State) => zB D tc (zA ([(px, .inr (10, [.ref yr, .ref yC, .ref yT, .ref yk, .ref ys, .ref yq, .ref yP, .ref yS, .int 0, .long 0])), (yk, .inr (4, [.ref yb, .ref yA, .long 0, .int 0, .int 0]))] : va_W) L sz) ([(px, .inr (10, [.ref yr, .ref yC, .ref yT, .ref yk, .ref ys, .ref yq, .ref yP, .ref yS, .int 0, .long 0])), (yk, .inr (4, [.ref yb, .ref yA, .long 0, .int 0, .int 0]))] : va_W) u t) (zA ([(px, .inr (10, [.ref yr, .ref yC, .ref yT, .ref yk, .ref ys, .ref yq, .ref yP, .ref yS, .int 0, .long 0])), (yk, .inr (4, [.ref yb, .ref yA, .long 0, .int 0, .int 0]))] : va_W) L sz)) (vx_X (fun u : zS => True) (fun (E : String) (u : zS) (t : State) => (False) ∧ zB D tc (zA ([(px, .inr (10, [.ref yr, .ref yC, .ref yT, .ref yk, .ref ys, .ref yq, .ref yP, .ref yS, .int 0, .long 0])), (yk, .inr (4, [.ref yb, .ref yA, .long 0, .int 0, .int 0]))] : va_W) L sz) ([(px, .inr (10, [.ref yr, .ref yC, .ref yT, .ref yk, .ref ys, .ref yq, .ref yP, .ref yS, .int 0, .long 0])), (yk, .inr (4, [.ref yb, .ref yA, .long 0, .int 0, .int 0]))] : va_W) u t) (zA ([(px, .inr (10, [.ref yr, .ref yC, .ref yT, .ref yk, .ref ys, .ref yq, .ref yP, .ref yS, .int 0, .long 0])), (yk, .inr (4, [.ref yb, .ref yA, .long 0, .int 0, .int 0]))] : va_W) L sz)) 0 0 (zA ([(px, .inr (10, [.ref yr, .ref yC, .ref yT, .ref yk, .ref ys, .ref yq, .ref yP, .ref yS, .int 0, .long 0])), (yk, .inr (4, [.ref yb, .ref yA, .long 0, .int 0, .int 0]))] : va_W) L sz) := by
  refine vx_ofWH (cc := cL_account) (maxL := 4) (ret := (some .int)) (hh := [(0, 8, 11, 15)]) (by decide) rfl ?_
  intro p e s m args below meth c s₁ B hml hv
  obtain ⟨rfl, rfl, hK, hE, hI⟩ := hv.opn
  have hx := B.exec
  have hb := B.bytes
  have hr := B.returns
  have hts := atoms_spec (ws := wsL_account) B.pre
  have hown : s.vm.findClass RL = some m.cls := findClass_of_methodNamed B.named
  have hlocks := B.notSynchronized
  have hM : zM p s m c cL_account _ wsL_account RL D tc := ⟨hx, hb, hts, hown, hK⟩
  have hl := lv_entry ([.ref px, .int 97, .ref po]) (n := 4) (Nat.le_of_ble_eq_true rfl)
  rw [lg_entry_eq]
  generalize (lg_sl ([.ref px, .int 97, .ref po]) ++ List.replicate (4 - (lg_sl ([.ref px, .int 97, .ref po])).length) Slot.unset).toArray = ls at hl ⊢
  have hl : lv_has ls 4 [(0, .ref px), (1, .int 97), (2, .ref po)] := hl
  refine lv_aload_n hx hb dL_account_0 rfl (lv_at hl 2 rfl) ?_
  refine lv_iconst (v := 0) hx hb dL_account_1 (by decide) ?_
  refine lv_aload_n hx hb dL_account_2 rfl (lv_at hl 0 rfl) ?_
  refine lv_iload_n hx hb dL_account_3 rfl (lv_at hl 1 rfl) ?_
  refine z_clX (Xc := ([(px, .inr (10, [.ref yr, .ref yC, .ref yT, .ref yk, .ref ys, .ref yq, .ref yP, .ref yS, .int 0, .long 0])), (yk, .inr (4, [.ref yb, .ref yA, .long 0, .int 0, .int 0]))] : va_W)) (wr := []) (rx := ([(px, .inr (10, [.ref yr, .ref yC, .ref yT, .ref yk, .ref ys, .ref yq, .ref yP, .ref yS, .int 0, .long 0])), (yk, .inr (4, [.ref yb, .ref yA, .long 0, .int 0, .int 0]))] : va_W)) [0, 1] [] rfl rfl rfl rfl (by decide) hI (va_runV (As := [.int 97]) (rest := [.int 0, .ref po]) ⟨hx, hb, hml, hown, hts⟩ (x_X8_account_97 l D tc z0 _ κ g _ yr yC yT yk ys yb yq yA yP yS px) (cwV 1 hts gL_account_X8_account rfl rfl rfl (by decide +kernel) ⟨Nat.le_of_ble_eq_true rfl, Nat.le_of_ble_eq_true rfl⟩) (z_preV (Xc := ([(px, .inr (10, [.ref yr, .ref yC, .ref yT, .ref yk, .ref ys, .ref yq, .ref yP, .ref yS, .int 0, .long 0])), (yk, .inr (4, [.ref yb, .ref yA, .long 0, .int 0, .int 0]))] : va_W)) hK hE hI [0, 1] rfl rfl (z_recvX hK hI (i := 0) rfl rfl)) rfl rfl hl.1 rfl (lv_room (Nat.le_of_ble_eq_true rfl)) dL_account_4 ⟨Nat.le_of_ble_eq_true rfl, Nat.le_of_ble_eq_true rfl⟩) (fun v9 u H locs hw hI => ?_)
  obtain ⟨rfl, rfl⟩ := hw
  have hI : zI D tc _ s.heap [(px, .inr (10, [.ref yr, .ref yC, .ref yT, .ref yk, .ref ys, .ref yq, .ref yP, .ref yS, .int 0, .long 0])), (yk, .inr (4, [.ref yb, .ref yA, .long 0, .int 0, .int 0]))] L κ g _ _ := hI
  refine z_last (g' := zup g po (0 : Int32).toNatClampNeg (.long 0)) hM hI hko rfl rfl (vp_in_c 0 1 (by decide)) ⟨(zup_self _ _ _ _).symm, _, rfl⟩ (fun b j h => zup_ne h) dL_account_7 (fun H locs hI => ?_)
  refine lv_goto (tgt := 14) hx hb dL_account_8 (by decide) ?_
  refine lv_iconst (v := 0) hx hb dL_account_14 (by decide) ?_
  refine vx_ret ?_
  exact W.iret (v := 0) hx hb hr (fun t ht hW => ⟨⟨_, (L, κ, zup g po 0 (.long 0)), rfl, ⟨rfl, rfl⟩, z_endG hK hI ht hW⟩, z_F hI ht⟩) (z_locs hI) dL_account_15

set_option maxHeartbeats 4000000 in
set_option maxRecDepth 100000 in
theorem x_L_account_116 (l : Launch) (hnt : l.stackTraces = false) (D : va_G) (tc : Nat → ClassId) (z0 : Nat) (L : List Nat) (κ : Nat → Nat) (g : Nat → Nat → Value) (sz : Nat) (yr : Nat) (yC : Nat) (yT : Nat) (yk : Nat) (ys : Nat) (yq : Nat) (yP : Nat) (yS : Nat) (px : Nat) (po : Nat) (hko : κ po = 29) : vx_Met l yL_account wsL_account ({ frames := 1, cells := 0, slots := 0, locals := 21 }) (zPc D tc z0 [.ref px, .int 116, .ref po] ([(px, .inr (10, [.ref yr, .ref yC, .ref yT, .ref yk, .ref ys, .ref yq, .ref yP, .ref yS, .int 0, .long 0])), (ys, .inr (8, [.int 200, .int 5000, .int 600, .long 0, .long 0, .int 0, .long 0, .long 0, .long 0, .long 0]))] : va_W) (L, κ, g) sz) (va_Qi (fun (r : Int32) (u : zS) => r = 0 ∧ u = (L, κ, zup g po 0 (.long 0))) (fun (u : zS) (t : State) => zB D tc (zA ([(px, .inr (10, [.ref yr, .ref yC, .ref yT, .ref yk, .ref ys, .ref yq, .ref yP, .ref yS, .int 0, .long 0])), (ys, .inr (8, [.int 200, .int 5000, .int 600, .long 0, .long 0, .int 0, .long 0, .long 0, .long 0, .long 0]))] : va_W) L sz) ([(px, .inr (10, [.ref yr, .ref yC, .ref yT, .ref yk, .ref ys, .ref yq, .ref yP, .ref yS, .int 0, .long 0])), (ys, .inr (8, [.int 200, .int 5000, .int 600, .long 0, .long 0, .int 0, .long 0, .long 0, .long 0, .long 0]))] : va_W) u t) (zA ([(px, .inr (10, [.ref yr, .ref yC, .ref yT, .ref yk, .ref ys, .ref yq, .ref yP, .ref yS, .int 0, .long 0])), (ys, .inr (8, [.int 200, .int 5000, .int 600, .long 0, .long 0, .int 0, .long 0, .long 0, .long 0, .long 0]))] : va_W) L sz)) (vx_X (fun u : zS => True) (fun (E : String) (u : zS) (t : State) => (False) ∧ zB D tc (zA ([(px, .inr (10, [.ref yr, .ref yC, .ref yT, .ref yk, .ref ys, .ref yq, .ref yP, .ref yS, .int 0, .long 0])), (ys, .inr (8, [.int 200, .int 5000, .int 600, .long 0, .long 0, .int 0, .long 0, .long 0, .long 0, .long 0]))] : va_W) L sz) ([(px, .inr (10, [.ref yr, .ref yC, .ref yT, .ref yk, .ref ys, .ref yq, .ref yP, .ref yS, .int 0, .long 0])), (ys, .inr (8, [.int 200, .int 5000, .int 600, .long 0, .long 0, .int 0, .long 0, .long 0, .long 0, .long 0]))] : va_W) u t) (zA ([(px, .inr (10, [.ref yr, .ref yC, .ref yT, .ref yk, .ref ys, .ref yq, .ref yP, .ref yS, .int 0, .long 0])), (ys, .inr (8, [.int 200, .int 5000, .int 600, .long 0, .long 0, .int 0, .long 0, .long 0, .long 0, .long 0]))] : va_W) L sz)) 0 0 (zA ([(px, .inr (10, [.ref yr, .ref yC, .ref yT, .ref yk, .ref ys, .ref yq, .ref yP, .ref yS, .int 0, .long 0])), (ys, .inr (8, [.int 200, .int 5000, .int 600, .long 0, .long 0, .int 0, .long 0, .long 0, .long 0, .long 0]))] : va_W) L sz) := by
  refine vx_ofWH (cc := cL_account) (maxL := 4) (ret := (some .int)) (hh := [(0, 8, 11, 15)]) (by decide) rfl ?_
  intro p e s m args below meth c s₁ B hml hv
  obtain ⟨rfl, rfl, hK, hE, hI⟩ := hv.opn
  have hx := B.exec
  have hb := B.bytes
  have hr := B.returns
  have hts := atoms_spec (ws := wsL_account) B.pre
  have hown : s.vm.findClass RL = some m.cls := findClass_of_methodNamed B.named
  have hlocks := B.notSynchronized
  have hM : zM p s m c cL_account _ wsL_account RL D tc := ⟨hx, hb, hts, hown, hK⟩
  have hl := lv_entry ([.ref px, .int 116, .ref po]) (n := 4) (Nat.le_of_ble_eq_true rfl)
  rw [lg_entry_eq]
  generalize (lg_sl ([.ref px, .int 116, .ref po]) ++ List.replicate (4 - (lg_sl ([.ref px, .int 116, .ref po])).length) Slot.unset).toArray = ls at hl ⊢
  have hl : lv_has ls 4 [(0, .ref px), (1, .int 116), (2, .ref po)] := hl
  refine lv_aload_n hx hb dL_account_0 rfl (lv_at hl 2 rfl) ?_
  refine lv_iconst (v := 0) hx hb dL_account_1 (by decide) ?_
  refine lv_aload_n hx hb dL_account_2 rfl (lv_at hl 0 rfl) ?_
  refine lv_iload_n hx hb dL_account_3 rfl (lv_at hl 1 rfl) ?_
  refine z_clX (Xc := ([(px, .inr (10, [.ref yr, .ref yC, .ref yT, .ref yk, .ref ys, .ref yq, .ref yP, .ref yS, .int 0, .long 0])), (ys, .inr (8, [.int 200, .int 5000, .int 600, .long 0, .long 0, .int 0, .long 0, .long 0, .long 0, .long 0]))] : va_W)) (wr := []) (rx := ([(px, .inr (10, [.ref yr, .ref yC, .ref yT, .ref yk, .ref ys, .ref yq, .ref yP, .ref yS, .int 0, .long 0])), (ys, .inr (8, [.int 200, .int 5000, .int 600, .long 0, .long 0, .int 0, .long 0, .long 0, .long 0, .long 0]))] : va_W)) [0, 1] [] rfl rfl rfl rfl (by decide) hI (va_runV (As := [.int 116]) (rest := [.int 0, .ref po]) ⟨hx, hb, hml, hown, hts⟩ (x_X8_account_116 l D tc z0 _ κ g _ yr yC yT yk ys yq yP yS px) (cwV 1 hts gL_account_X8_account rfl rfl rfl (by decide +kernel) ⟨Nat.le_of_ble_eq_true rfl, Nat.le_of_ble_eq_true rfl⟩) (z_preV (Xc := ([(px, .inr (10, [.ref yr, .ref yC, .ref yT, .ref yk, .ref ys, .ref yq, .ref yP, .ref yS, .int 0, .long 0])), (ys, .inr (8, [.int 200, .int 5000, .int 600, .long 0, .long 0, .int 0, .long 0, .long 0, .long 0, .long 0]))] : va_W)) hK hE hI [0, 1] rfl rfl (z_recvX hK hI (i := 0) rfl rfl)) rfl rfl hl.1 rfl (lv_room (Nat.le_of_ble_eq_true rfl)) dL_account_4 ⟨Nat.le_of_ble_eq_true rfl, Nat.le_of_ble_eq_true rfl⟩) (fun v9 u H locs hw hI => ?_)
  obtain ⟨rfl, rfl⟩ := hw
  have hI : zI D tc _ s.heap [(px, .inr (10, [.ref yr, .ref yC, .ref yT, .ref yk, .ref ys, .ref yq, .ref yP, .ref yS, .int 0, .long 0])), (ys, .inr (8, [.int 200, .int 5000, .int 600, .long 0, .long 0, .int 0, .long 0, .long 0, .long 0, .long 0]))] L κ g _ _ := hI
  refine z_last (g' := zup g po (0 : Int32).toNatClampNeg (.long 0)) hM hI hko rfl rfl (vp_in_c 0 1 (by decide)) ⟨(zup_self _ _ _ _).symm, _, rfl⟩ (fun b j h => zup_ne h) dL_account_7 (fun H locs hI => ?_)
  refine lv_goto (tgt := 14) hx hb dL_account_8 (by decide) ?_
  refine lv_iconst (v := 0) hx hb dL_account_14 (by decide) ?_
  refine vx_ret ?_
  exact W.iret (v := 0) hx hb hr (fun t ht hW => ⟨⟨_, (L, κ, zup g po 0 (.long 0)), rfl, ⟨rfl, rfl⟩, z_endG hK hI ht hW⟩, z_F hI ht⟩) (z_locs hI) dL_account_15
