set_option maxHeartbeats 4000000 in
set_option maxRecDepth 100000 in
theorem c_X11_work (l : Launch) (D : va_G) (tc : Nat → ClassId) (z0 : Nat) (L : List Nat) (κ : Nat → Nat) (g : Nat → Nat → Value) (sz : Nat) (p0 : Nat) (hk0 : κ p0 = 13) (p1 : Int32) (lc eC nC : Nat) (mC : Int32) (cf : Nat → Nat) (lt eT nT : Nat) (mT : Int32) (tf : Nat → Nat) (hMo : zMo κ g z0 p0 lc eC nC mC cf lt eT nT mT tf) : Met l yX11_work wsX11_work ({ frames := 3, cells := 0, slots := 0, locals := 64 }) (zPc D tc z0 [.ref p0, .int p1] [] (L, κ, g) sz) (va_Qi (fun (r : Int32) (u : zS) => ∃ v : Int32, u = (L, κ, zup g p0 12 (.int v))) (fun (u : zS) (t : State) => zB D tc (zA [] L sz) [] u t) (zA [] L sz)) 0 0 (zA [] L sz) := by
  refine Met.ofW (cc := cX11_work) (maxL := 2) (ret := (some .int)) (by decide) rfl ?_
  intro p e9 s m args below meth c s₁ B hml hv
  obtain ⟨rfl, rfl, hK, hE, hI⟩ := hv.opn
  have hx := B.exec
  have hb := B.bytes
  have hr := B.returns
  have hts := atoms_spec (ws := wsX11_work) B.pre
  have hown : s.vm.findClass RX11 = some m.cls := findClass_of_methodNamed B.named
  have hlocks := B.notSynchronized
  have hM : zM p s m c cX11_work _ wsX11_work RX11 D tc := ⟨hx, hb, hts, hown, hK⟩
  have hinX11 : ∀ w ∈ wsX110, w ∈ wsX11_work := by decide +kernel
  have hinX10 : ∀ w ∈ wsX100, w ∈ wsX11_work := by decide +kernel
  have hnC := hMo.bC
  have hnT := hMo.bT
  have hl := lv_entry ([.ref p0, .int p1]) (n := 2) (Nat.le_of_ble_eq_true rfl)
  rw [lg_entry_eq]
  generalize (lg_sl ([.ref p0, .int p1]) ++ List.replicate (2 - (lg_sl ([.ref p0, .int p1])).length) Slot.unset).toArray = ls at hl ⊢
  have hl : lv_has ls 2 [(0, .ref p0), (1, .int p1)] := hl
  refine lv_aload_n hx hb dX11_work_0 rfl (lv_at hl 0 rfl) ?_
  refine lv_aload_n hx hb dX11_work_1 rfl (lv_at hl 0 rfl) ?_
  refine lv_iload_n hx hb dX11_work_2 rfl (lv_at hl 1 rfl) ?_
  refine vp_callSi (W.runV (As := [.int p1]) (rest := [.ref p0]) ⟨hx, hb, hml, hown, hts⟩ (c_X11_isThread l D tc z0 _ κ g _ p0 hk0 p1 lc eC nC mC cf lt eT nT mT tf hMo) (cwV 1 hts gX11_work_X11_isThread rfl rfl rfl (by decide +kernel) ⟨Nat.le_of_ble_eq_true rfl, Nat.le_of_ble_eq_true rfl⟩) (z_preV (Xc := []) hK hE hI [] rfl rfl (z_recv hK hI hk0 rfl rfl)) rfl rfl hl.1 rfl (lv_room (Nat.le_of_ble_eq_true rfl)) dX11_work_3 ⟨(Nat.le_of_ble_eq_true rfl), (Nat.le_of_ble_eq_true rfl)⟩) (fun v1 hw2 => ?_)
  rcases hw2 with ⟨rfl, i3, hi4, hp5⟩ | ⟨rfl, hno6⟩
  · skip
    rw [hp5] at hl
    refine lv_if_eq (tgt := 13) hx hb dX11_work_6 (by decide) (fun h9 => by first | exact absurd h9 (by decide) | exact absurd (by decide) h9) (fun _ => ?_)
    refine lv_iconst (v := 0) hx hb dX11_work_9 (by decide) ?_
    refine lv_goto (tgt := 14) hx hb dX11_work_10 (by decide) ?_
    refine z_ciX (Xc := []) (wr := []) (rx := []) [] [] rfl rfl rfl rfl (by decide) hI (va_runV (As := [.int 0]) (rest := []) ⟨hx, hb, hml, hown, hts⟩ (c_X11_fails l D tc z0 _ κ g _ p0 hk0 0) (cwV 1 hts gX11_work_X11_fails rfl rfl rfl (by decide +kernel) ⟨Nat.le_of_ble_eq_true rfl, Nat.le_of_ble_eq_true rfl⟩) (z_preV (Xc := []) hK hE hI [] rfl rfl (z_recv hK hI hk0 rfl rfl)) rfl rfl hl.1 rfl (lv_room (Nat.le_of_ble_eq_true rfl)) dX11_work_14 ⟨(Nat.le_of_ble_eq_true rfl), (Nat.le_of_ble_eq_true rfl)⟩) (fun v7 u H locs hw8 hI => ?_)
    obtain ⟨hw8, rfl⟩ := hw8
    have hI : zI D tc _ s.heap [] L κ (zup g p0 12 (.int 0)) _ _ := hI
    have hMo := hMo.upP (j := 12) (v := .int 0) (by decide)
    obtain rfl : v7 = 0 := hw8.trans (by decide)
    refine lv_if_eq (tgt := 24) hx hb dX11_work_17 (by decide) (fun _ => ?_) (fun h9 => by first | exact absurd h9 (by decide) | exact absurd (by decide) h9)
    refine lv_aload_n hx hb dX11_work_24 rfl (lv_at hl 0 rfl) ?_
    refine z_get (k := 13) (j := 1) hM hI hk0 rfl rfl hinX11 rfl (by decide) (by decide +kernel) (fun _ h9 => h9) dX11_work_25 (fun v9 hv10 => ?_)
    obtain ⟨hg12, i11, rfl, hr13⟩ := hv10
    obtain rfl : lt = i11 := Value.ref.inj (hMo.gt.symm.trans hg12.symm)
    refine lv_iload_n hx hb dX11_work_28 rfl (lv_at hl 1 rfl) ?_
    refine va_csFq (va_runF (As := [.int ((nI i3))]) (rest := []) (hK.1 1 _ rfl).2 ⟨hx, hb, hml, hown, hts⟩ (c_Jx4a65c_get_915e3 l D tc z0 _ κ (zup g p0 12 (.int 0)) _ lt 14 eT 26 12 nT mT tf rfl hMo.LT rfl rfl i3 (by omega)) (va_cwF 1 hts gX11_work_Jx4a65c_get_915e3_f101Jx4a65c rfl rfl rfl (hE.2.2.1 (RJx4a65c, ⟨"java/util/List", "get", "(I)Ljava/lang/Object;"⟩, yJx4a65c_get_915e3) (by decide +kernel)) (by decide +kernel) ⟨Nat.le_of_ble_eq_true rfl, Nat.le_of_ble_eq_true rfl⟩) (z_preV (Xc := []) hK hE hI [] rfl rfl (z_recv hK hI hMo.LT.1 rfl rfl)) rfl rfl hl.1 rfl (lv_room (Nat.le_of_ble_eq_true rfl)) dX11_work_29 ⟨(Nat.le_of_ble_eq_true rfl), (Nat.le_of_ble_eq_true rfl)⟩) (fun r14 hw15 => ?_)
    obtain rfl := hw15
    have hr16 : κ (tf i3) = 12 := hMo.LT.el (i := i3) (by omega)
    show W p l e9 (headSpec wsX11_work ({ frames := 3, cells := 0, slots := 0, locals := 64 })).room s m ([.ref p0, .int p1] : List Value).toArray below meth c _ _ 0 0 (MQ below (va_Qi (fun (r : Int32) (u : zS) => ∃ v : Int32, u = (L, κ, zup g p0 12 (.int v))) (fun (u : zS) (t : State) => zB D tc (zA [] L s.heap.size) [] u t) (zA [] L s.heap.size)) ([.ref p0, .int p1] : List Value).toArray s 0 0 (zA [] L s.heap.size)) (F0 m 34 ls (.ref (tf i3) :: []))
    refine z_castS (k := 12) hM hI hr16 rfl rfl (by decide +kernel) dX11_work_34 ?_
    refine z_getN (host := "WattgovernModel") (k := 12) (j := 2) hM hE hI hr16 rfl rfl hinX10 rfl (by decide) (by decide +kernel) (fun _ h9 => h9) dX11_work_37 (fun v17 hv18 => ?_)
    obtain ⟨i19, rfl⟩ := hv18
    refine W.widen (k := 0) (n := 0) (Nat.le_of_ble_eq_true rfl) (Nat.le_of_ble_eq_true rfl) ?_
    exact W.iret (v := i19) hx hb hr (fun t ht hW => ⟨⟨_, (L, κ, (zup g p0 12 (.int 0))), rfl, ⟨_, rfl⟩, z_end hK hI ht hW⟩, z_F hI ht⟩) (z_locs hI) dX11_work_40
  · skip
    refine lv_if_eq (tgt := 13) hx hb dX11_work_6 (by decide) (fun _ => ?_) (fun h9 => by first | exact absurd h9 (by decide) | exact absurd (by decide) h9)
    refine lv_iconst (v := 1) hx hb dX11_work_13 (by decide) ?_
    refine z_ciX (Xc := []) (wr := []) (rx := []) [] [] rfl rfl rfl rfl (by decide) hI (va_runV (As := [.int 1]) (rest := []) ⟨hx, hb, hml, hown, hts⟩ (c_X11_fails l D tc z0 _ κ g _ p0 hk0 1) (cwV 1 hts gX11_work_X11_fails rfl rfl rfl (by decide +kernel) ⟨Nat.le_of_ble_eq_true rfl, Nat.le_of_ble_eq_true rfl⟩) (z_preV (Xc := []) hK hE hI [] rfl rfl (z_recv hK hI hk0 rfl rfl)) rfl rfl hl.1 rfl (lv_room (Nat.le_of_ble_eq_true rfl)) dX11_work_14 ⟨(Nat.le_of_ble_eq_true rfl), (Nat.le_of_ble_eq_true rfl)⟩) (fun v20 u H locs hw21 hI => ?_)
    obtain ⟨hw21, rfl⟩ := hw21
    have hI : zI D tc _ s.heap [] L κ (zup g p0 12 (.int 1)) _ _ := hI
    have hMo := hMo.upP (j := 12) (v := .int 1) (by decide)
    obtain rfl : v20 = 1 := hw21.trans (by decide)
    refine lv_if_eq (tgt := 24) hx hb dX11_work_17 (by decide) (fun h9 => by first | exact absurd h9 (by decide) | exact absurd (by decide) h9) (fun _ => ?_)
    refine lv_iconst (v := 0) hx hb dX11_work_20 (by decide) ?_
    refine lv_goto (tgt := 40) hx hb dX11_work_21 (by decide) ?_
    refine W.widen (k := 0) (n := 0) (Nat.le_of_ble_eq_true rfl) (Nat.le_of_ble_eq_true rfl) ?_
    exact W.iret (v := 0) hx hb hr (fun t ht hW => ⟨⟨_, (L, κ, (zup g p0 12 (.int 1))), rfl, ⟨_, rfl⟩, z_end hK hI ht hW⟩, z_F hI ht⟩) (z_locs hI) dX11_work_40

set_option maxHeartbeats 4000000 in
set_option maxRecDepth 100000 in
theorem c_X11_speed (l : Launch) (D : va_G) (tc : Nat → ClassId) (z0 : Nat) (L : List Nat) (κ : Nat → Nat) (g : Nat → Nat → Value) (sz : Nat) (p0 : Nat) (hk0 : κ p0 = 13) (p1 : Int32) (lc eC nC : Nat) (mC : Int32) (cf : Nat → Nat) (lt eT nT : Nat) (mT : Int32) (tf : Nat → Nat) (hMo : zMo κ g z0 p0 lc eC nC mC cf lt eT nT mT tf) : Met l yX11_speed wsX11_speed ({ frames := 3, cells := 0, slots := 0, locals := 64 }) (zPc D tc z0 [.ref p0, .int p1] [] (L, κ, g) sz) (va_Qi (fun (r : Int32) (u : zS) => ∃ v : Int32, u = (L, κ, zup g p0 12 (.int v))) (fun (u : zS) (t : State) => zB D tc (zA [] L sz) [] u t) (zA [] L sz)) 0 0 (zA [] L sz) := by
  refine Met.ofW (cc := cX11_speed) (maxL := 2) (ret := (some .int)) (by decide) rfl ?_
  intro p e9 s m args below meth c s₁ B hml hv
  obtain ⟨rfl, rfl, hK, hE, hI⟩ := hv.opn
  have hx := B.exec
  have hb := B.bytes
  have hr := B.returns
  have hts := atoms_spec (ws := wsX11_speed) B.pre
  have hown : s.vm.findClass RX11 = some m.cls := findClass_of_methodNamed B.named
  have hlocks := B.notSynchronized
  have hM : zM p s m c cX11_speed _ wsX11_speed RX11 D tc := ⟨hx, hb, hts, hown, hK⟩
  have hinX11 : ∀ w ∈ wsX110, w ∈ wsX11_speed := by decide +kernel
  have hinX9 : ∀ w ∈ wsX90, w ∈ wsX11_speed := by decide +kernel
  have hnC := hMo.bC
  have hnT := hMo.bT
  have hl := lv_entry ([.ref p0, .int p1]) (n := 2) (Nat.le_of_ble_eq_true rfl)
  rw [lg_entry_eq]
  generalize (lg_sl ([.ref p0, .int p1]) ++ List.replicate (2 - (lg_sl ([.ref p0, .int p1])).length) Slot.unset).toArray = ls at hl ⊢
  have hl : lv_has ls 2 [(0, .ref p0), (1, .int p1)] := hl
  refine lv_aload_n hx hb dX11_speed_0 rfl (lv_at hl 0 rfl) ?_
  refine lv_aload_n hx hb dX11_speed_1 rfl (lv_at hl 0 rfl) ?_
  refine lv_iload_n hx hb dX11_speed_2 rfl (lv_at hl 1 rfl) ?_
  refine vp_callSi (W.runV (As := [.int p1]) (rest := [.ref p0]) ⟨hx, hb, hml, hown, hts⟩ (c_X11_isCore l D tc z0 _ κ g _ p0 hk0 p1 lc eC nC mC cf lt eT nT mT tf hMo) (cwV 1 hts gX11_speed_X11_isCore rfl rfl rfl (by decide +kernel) ⟨Nat.le_of_ble_eq_true rfl, Nat.le_of_ble_eq_true rfl⟩) (z_preV (Xc := []) hK hE hI [] rfl rfl (z_recv hK hI hk0 rfl rfl)) rfl rfl hl.1 rfl (lv_room (Nat.le_of_ble_eq_true rfl)) dX11_speed_3 ⟨(Nat.le_of_ble_eq_true rfl), (Nat.le_of_ble_eq_true rfl)⟩) (fun v1 hw2 => ?_)
  rcases hw2 with ⟨rfl, i3, hi4, hp5⟩ | ⟨rfl, hno6⟩
  · skip
    rw [hp5] at hl
    refine lv_if_eq (tgt := 13) hx hb dX11_speed_6 (by decide) (fun h9 => by first | exact absurd h9 (by decide) | exact absurd (by decide) h9) (fun _ => ?_)
    refine lv_iconst (v := 0) hx hb dX11_speed_9 (by decide) ?_
    refine lv_goto (tgt := 14) hx hb dX11_speed_10 (by decide) ?_
    refine z_ciX (Xc := []) (wr := []) (rx := []) [] [] rfl rfl rfl rfl (by decide) hI (va_runV (As := [.int 0]) (rest := []) ⟨hx, hb, hml, hown, hts⟩ (c_X11_fails l D tc z0 _ κ g _ p0 hk0 0) (cwV 1 hts gX11_speed_X11_fails rfl rfl rfl (by decide +kernel) ⟨Nat.le_of_ble_eq_true rfl, Nat.le_of_ble_eq_true rfl⟩) (z_preV (Xc := []) hK hE hI [] rfl rfl (z_recv hK hI hk0 rfl rfl)) rfl rfl hl.1 rfl (lv_room (Nat.le_of_ble_eq_true rfl)) dX11_speed_14 ⟨(Nat.le_of_ble_eq_true rfl), (Nat.le_of_ble_eq_true rfl)⟩) (fun v7 u H locs hw8 hI => ?_)
    obtain ⟨hw8, rfl⟩ := hw8
    have hI : zI D tc _ s.heap [] L κ (zup g p0 12 (.int 0)) _ _ := hI
    have hMo := hMo.upP (j := 12) (v := .int 0) (by decide)
    obtain rfl : v7 = 0 := hw8.trans (by decide)
    refine lv_if_eq (tgt := 24) hx hb dX11_speed_17 (by decide) (fun _ => ?_) (fun h9 => by first | exact absurd h9 (by decide) | exact absurd (by decide) h9)
    refine lv_aload_n hx hb dX11_speed_24 rfl (lv_at hl 0 rfl) ?_
    refine z_get (k := 13) (j := 0) hM hI hk0 rfl rfl hinX11 rfl (by decide) (by decide +kernel) (fun _ h9 => h9) dX11_speed_25 (fun v9 hv10 => ?_)
    obtain ⟨hg12, i11, rfl, hr13⟩ := hv10
    obtain rfl : lc = i11 := Value.ref.inj (hMo.gc.symm.trans hg12.symm)
    refine lv_iload_n hx hb dX11_speed_28 rfl (lv_at hl 1 rfl) ?_
    refine va_csFq (va_runF (As := [.int ((nI i3))]) (rest := []) (hK.1 1 _ rfl).2 ⟨hx, hb, hml, hown, hts⟩ (c_Jx4a65c_get_915e3 l D tc z0 _ κ (zup g p0 12 (.int 0)) _ lc 1 eC 25 11 nC mC cf rfl hMo.LC rfl rfl i3 (by omega)) (va_cwF 1 hts gX11_speed_Jx4a65c_get_915e3_f101Jx4a65c rfl rfl rfl (hE.2.2.1 (RJx4a65c, ⟨"java/util/List", "get", "(I)Ljava/lang/Object;"⟩, yJx4a65c_get_915e3) (by decide +kernel)) (by decide +kernel) ⟨Nat.le_of_ble_eq_true rfl, Nat.le_of_ble_eq_true rfl⟩) (z_preV (Xc := []) hK hE hI [] rfl rfl (z_recv hK hI hMo.LC.1 rfl rfl)) rfl rfl hl.1 rfl (lv_room (Nat.le_of_ble_eq_true rfl)) dX11_speed_29 ⟨(Nat.le_of_ble_eq_true rfl), (Nat.le_of_ble_eq_true rfl)⟩) (fun r14 hw15 => ?_)
    obtain rfl := hw15
    have hr16 : κ (cf i3) = 11 := hMo.LC.el (i := i3) (by omega)
    show W p l e9 (headSpec wsX11_speed ({ frames := 3, cells := 0, slots := 0, locals := 64 })).room s m ([.ref p0, .int p1] : List Value).toArray below meth c _ _ 0 0 (MQ below (va_Qi (fun (r : Int32) (u : zS) => ∃ v : Int32, u = (L, κ, zup g p0 12 (.int v))) (fun (u : zS) (t : State) => zB D tc (zA [] L s.heap.size) [] u t) (zA [] L s.heap.size)) ([.ref p0, .int p1] : List Value).toArray s 0 0 (zA [] L s.heap.size)) (F0 m 34 ls (.ref (cf i3) :: []))
    refine z_castS (k := 11) hM hI hr16 rfl rfl (by decide +kernel) dX11_speed_34 ?_
    refine z_getN (host := "WattgovernModel") (k := 11) (j := 7) hM hE hI hr16 rfl rfl hinX9 rfl (by decide) (by decide +kernel) (fun _ h9 => h9) dX11_speed_37 (fun v17 hv18 => ?_)
    obtain ⟨i19, rfl⟩ := hv18
    refine W.widen (k := 0) (n := 0) (Nat.le_of_ble_eq_true rfl) (Nat.le_of_ble_eq_true rfl) ?_
    exact W.iret (v := i19) hx hb hr (fun t ht hW => ⟨⟨_, (L, κ, (zup g p0 12 (.int 0))), rfl, ⟨_, rfl⟩, z_end hK hI ht hW⟩, z_F hI ht⟩) (z_locs hI) dX11_speed_40
  · skip
    refine lv_if_eq (tgt := 13) hx hb dX11_speed_6 (by decide) (fun _ => ?_) (fun h9 => by first | exact absurd h9 (by decide) | exact absurd (by decide) h9)
    refine lv_iconst (v := 1) hx hb dX11_speed_13 (by decide) ?_
    refine z_ciX (Xc := []) (wr := []) (rx := []) [] [] rfl rfl rfl rfl (by decide) hI (va_runV (As := [.int 1]) (rest := []) ⟨hx, hb, hml, hown, hts⟩ (c_X11_fails l D tc z0 _ κ g _ p0 hk0 1) (cwV 1 hts gX11_speed_X11_fails rfl rfl rfl (by decide +kernel) ⟨Nat.le_of_ble_eq_true rfl, Nat.le_of_ble_eq_true rfl⟩) (z_preV (Xc := []) hK hE hI [] rfl rfl (z_recv hK hI hk0 rfl rfl)) rfl rfl hl.1 rfl (lv_room (Nat.le_of_ble_eq_true rfl)) dX11_speed_14 ⟨(Nat.le_of_ble_eq_true rfl), (Nat.le_of_ble_eq_true rfl)⟩) (fun v20 u H locs hw21 hI => ?_)
    obtain ⟨hw21, rfl⟩ := hw21
    have hI : zI D tc _ s.heap [] L κ (zup g p0 12 (.int 1)) _ _ := hI
    have hMo := hMo.upP (j := 12) (v := .int 1) (by decide)
    obtain rfl : v20 = 1 := hw21.trans (by decide)
    refine lv_if_eq (tgt := 24) hx hb dX11_speed_17 (by decide) (fun h9 => by first | exact absurd h9 (by decide) | exact absurd (by decide) h9) (fun _ => ?_)
    refine lv_iconst (v := 0) hx hb dX11_speed_20 (by decide) ?_
    refine lv_goto (tgt := 40) hx hb dX11_speed_21 (by decide) ?_
    refine W.widen (k := 0) (n := 0) (Nat.le_of_ble_eq_true rfl) (Nat.le_of_ble_eq_true rfl) ?_
    exact W.iret (v := 0) hx hb hr (fun t ht hW => ⟨⟨_, (L, κ, (zup g p0 12 (.int 1))), rfl, ⟨_, rfl⟩, z_end hK hI ht hW⟩, z_F hI ht⟩) (z_locs hI) dX11_speed_40

set_option maxHeartbeats 4000000 in
set_option maxRecDepth 100000 in
theorem c_X11_wanted (l : Launch) (D : va_G) (tc : Nat → ClassId) (z0 : Nat) (L : List Nat) (κ : Nat → Nat) (g : Nat → Nat → Value) (sz : Nat) (p0 : Nat) (hk0 : κ p0 = 13) (p1 : Int32) (lc eC nC : Nat) (mC : Int32) (cf : Nat → Nat) (lt eT nT : Nat) (mT : Int32) (tf : Nat → Nat) (hMo : zMo κ g z0 p0 lc eC nC mC cf lt eT nT mT tf) : Met l yX11_wanted wsX11_wanted ({ frames := 3, cells := 0, slots := 0, locals := 64 }) (zPc D tc z0 [.ref p0, .int p1] [] (L, κ, g) sz) (va_Qi (fun (r : Int32) (u : zS) => ∃ v : Int32, u = (L, κ, zup g p0 12 (.int v))) (fun (u : zS) (t : State) => zB D tc (zA [] L sz) [] u t) (zA [] L sz)) 0 0 (zA [] L sz) := by
  refine Met.ofW (cc := cX11_wanted) (maxL := 2) (ret := (some .int)) (by decide) rfl ?_
  intro p e9 s m args below meth c s₁ B hml hv
  obtain ⟨rfl, rfl, hK, hE, hI⟩ := hv.opn
  have hx := B.exec
  have hb := B.bytes
  have hr := B.returns
  have hts := atoms_spec (ws := wsX11_wanted) B.pre
  have hown : s.vm.findClass RX11 = some m.cls := findClass_of_methodNamed B.named
  have hlocks := B.notSynchronized
  have hM : zM p s m c cX11_wanted _ wsX11_wanted RX11 D tc := ⟨hx, hb, hts, hown, hK⟩
  have hinX11 : ∀ w ∈ wsX110, w ∈ wsX11_wanted := by decide +kernel
  have hinX9 : ∀ w ∈ wsX90, w ∈ wsX11_wanted := by decide +kernel
  have hnC := hMo.bC
  have hnT := hMo.bT
  have hl := lv_entry ([.ref p0, .int p1]) (n := 2) (Nat.le_of_ble_eq_true rfl)
  rw [lg_entry_eq]
  generalize (lg_sl ([.ref p0, .int p1]) ++ List.replicate (2 - (lg_sl ([.ref p0, .int p1])).length) Slot.unset).toArray = ls at hl ⊢
  have hl : lv_has ls 2 [(0, .ref p0), (1, .int p1)] := hl
  refine lv_aload_n hx hb dX11_wanted_0 rfl (lv_at hl 0 rfl) ?_
  refine lv_aload_n hx hb dX11_wanted_1 rfl (lv_at hl 0 rfl) ?_
  refine lv_iload_n hx hb dX11_wanted_2 rfl (lv_at hl 1 rfl) ?_
  refine vp_callSi (W.runV (As := [.int p1]) (rest := [.ref p0]) ⟨hx, hb, hml, hown, hts⟩ (c_X11_isCore l D tc z0 _ κ g _ p0 hk0 p1 lc eC nC mC cf lt eT nT mT tf hMo) (cwV 1 hts gX11_wanted_X11_isCore rfl rfl rfl (by decide +kernel) ⟨Nat.le_of_ble_eq_true rfl, Nat.le_of_ble_eq_true rfl⟩) (z_preV (Xc := []) hK hE hI [] rfl rfl (z_recv hK hI hk0 rfl rfl)) rfl rfl hl.1 rfl (lv_room (Nat.le_of_ble_eq_true rfl)) dX11_wanted_3 ⟨(Nat.le_of_ble_eq_true rfl), (Nat.le_of_ble_eq_true rfl)⟩) (fun v1 hw2 => ?_)
  rcases hw2 with ⟨rfl, i3, hi4, hp5⟩ | ⟨rfl, hno6⟩
  · skip
    rw [hp5] at hl
    refine lv_if_eq (tgt := 13) hx hb dX11_wanted_6 (by decide) (fun h9 => by first | exact absurd h9 (by decide) | exact absurd (by decide) h9) (fun _ => ?_)
    refine lv_iconst (v := 0) hx hb dX11_wanted_9 (by decide) ?_
    refine lv_goto (tgt := 14) hx hb dX11_wanted_10 (by decide) ?_
    refine z_ciX (Xc := []) (wr := []) (rx := []) [] [] rfl rfl rfl rfl (by decide) hI (va_runV (As := [.int 0]) (rest := []) ⟨hx, hb, hml, hown, hts⟩ (c_X11_fails l D tc z0 _ κ g _ p0 hk0 0) (cwV 1 hts gX11_wanted_X11_fails rfl rfl rfl (by decide +kernel) ⟨Nat.le_of_ble_eq_true rfl, Nat.le_of_ble_eq_true rfl⟩) (z_preV (Xc := []) hK hE hI [] rfl rfl (z_recv hK hI hk0 rfl rfl)) rfl rfl hl.1 rfl (lv_room (Nat.le_of_ble_eq_true rfl)) dX11_wanted_14 ⟨(Nat.le_of_ble_eq_true rfl), (Nat.le_of_ble_eq_true rfl)⟩) (fun v7 u H locs hw8 hI => ?_)
    obtain ⟨hw8, rfl⟩ := hw8
    have hI : zI D tc _ s.heap [] L κ (zup g p0 12 (.int 0)) _ _ := hI
    have hMo := hMo.upP (j := 12) (v := .int 0) (by decide)
    obtain rfl : v7 = 0 := hw8.trans (by decide)
    refine lv_if_eq (tgt := 24) hx hb dX11_wanted_17 (by decide) (fun _ => ?_) (fun h9 => by first | exact absurd h9 (by decide) | exact absurd (by decide) h9)
    refine lv_aload_n hx hb dX11_wanted_24 rfl (lv_at hl 0 rfl) ?_
    refine z_get (k := 13) (j := 0) hM hI hk0 rfl rfl hinX11 rfl (by decide) (by decide +kernel) (fun _ h9 => h9) dX11_wanted_25 (fun v9 hv10 => ?_)
    obtain ⟨hg12, i11, rfl, hr13⟩ := hv10
    obtain rfl : lc = i11 := Value.ref.inj (hMo.gc.symm.trans hg12.symm)
    refine lv_iload_n hx hb dX11_wanted_28 rfl (lv_at hl 1 rfl) ?_
    refine va_csFq (va_runF (As := [.int ((nI i3))]) (rest := []) (hK.1 1 _ rfl).2 ⟨hx, hb, hml, hown, hts⟩ (c_Jx4a65c_get_915e3 l D tc z0 _ κ (zup g p0 12 (.int 0)) _ lc 1 eC 25 11 nC mC cf rfl hMo.LC rfl rfl i3 (by omega)) (va_cwF 1 hts gX11_wanted_Jx4a65c_get_915e3_f101Jx4a65c rfl rfl rfl (hE.2.2.1 (RJx4a65c, ⟨"java/util/List", "get", "(I)Ljava/lang/Object;"⟩, yJx4a65c_get_915e3) (by decide +kernel)) (by decide +kernel) ⟨Nat.le_of_ble_eq_true rfl, Nat.le_of_ble_eq_true rfl⟩) (z_preV (Xc := []) hK hE hI [] rfl rfl (z_recv hK hI hMo.LC.1 rfl rfl)) rfl rfl hl.1 rfl (lv_room (Nat.le_of_ble_eq_true rfl)) dX11_wanted_29 ⟨(Nat.le_of_ble_eq_true rfl), (Nat.le_of_ble_eq_true rfl)⟩) (fun r14 hw15 => ?_)
    obtain rfl := hw15
    have hr16 : κ (cf i3) = 11 := hMo.LC.el (i := i3) (by omega)
    show W p l e9 (headSpec wsX11_wanted ({ frames := 3, cells := 0, slots := 0, locals := 64 })).room s m ([.ref p0, .int p1] : List Value).toArray below meth c _ _ 0 0 (MQ below (va_Qi (fun (r : Int32) (u : zS) => ∃ v : Int32, u = (L, κ, zup g p0 12 (.int v))) (fun (u : zS) (t : State) => zB D tc (zA [] L s.heap.size) [] u t) (zA [] L s.heap.size)) ([.ref p0, .int p1] : List Value).toArray s 0 0 (zA [] L s.heap.size)) (F0 m 34 ls (.ref (cf i3) :: []))
    refine z_castS (k := 11) hM hI hr16 rfl rfl (by decide +kernel) dX11_wanted_34 ?_
    refine z_getN (host := "WattgovernModel") (k := 11) (j := 8) hM hE hI hr16 rfl rfl hinX9 rfl (by decide) (by decide +kernel) (fun _ h9 => h9) dX11_wanted_37 (fun v17 hv18 => ?_)
    obtain ⟨i19, rfl⟩ := hv18
    refine W.widen (k := 0) (n := 0) (Nat.le_of_ble_eq_true rfl) (Nat.le_of_ble_eq_true rfl) ?_
    exact W.iret (v := i19) hx hb hr (fun t ht hW => ⟨⟨_, (L, κ, (zup g p0 12 (.int 0))), rfl, ⟨_, rfl⟩, z_end hK hI ht hW⟩, z_F hI ht⟩) (z_locs hI) dX11_wanted_40
  · skip
    refine lv_if_eq (tgt := 13) hx hb dX11_wanted_6 (by decide) (fun _ => ?_) (fun h9 => by first | exact absurd h9 (by decide) | exact absurd (by decide) h9)
    refine lv_iconst (v := 1) hx hb dX11_wanted_13 (by decide) ?_
    refine z_ciX (Xc := []) (wr := []) (rx := []) [] [] rfl rfl rfl rfl (by decide) hI (va_runV (As := [.int 1]) (rest := []) ⟨hx, hb, hml, hown, hts⟩ (c_X11_fails l D tc z0 _ κ g _ p0 hk0 1) (cwV 1 hts gX11_wanted_X11_fails rfl rfl rfl (by decide +kernel) ⟨Nat.le_of_ble_eq_true rfl, Nat.le_of_ble_eq_true rfl⟩) (z_preV (Xc := []) hK hE hI [] rfl rfl (z_recv hK hI hk0 rfl rfl)) rfl rfl hl.1 rfl (lv_room (Nat.le_of_ble_eq_true rfl)) dX11_wanted_14 ⟨(Nat.le_of_ble_eq_true rfl), (Nat.le_of_ble_eq_true rfl)⟩) (fun v20 u H locs hw21 hI => ?_)
    obtain ⟨hw21, rfl⟩ := hw21
    have hI : zI D tc _ s.heap [] L κ (zup g p0 12 (.int 1)) _ _ := hI
    have hMo := hMo.upP (j := 12) (v := .int 1) (by decide)
    obtain rfl : v20 = 1 := hw21.trans (by decide)
    refine lv_if_eq (tgt := 24) hx hb dX11_wanted_17 (by decide) (fun h9 => by first | exact absurd h9 (by decide) | exact absurd (by decide) h9) (fun _ => ?_)
    refine lv_iconst (v := 0) hx hb dX11_wanted_20 (by decide) ?_
    refine lv_goto (tgt := 40) hx hb dX11_wanted_21 (by decide) ?_
    refine W.widen (k := 0) (n := 0) (Nat.le_of_ble_eq_true rfl) (Nat.le_of_ble_eq_true rfl) ?_
    exact W.iret (v := 0) hx hb hr (fun t ht hW => ⟨⟨_, (L, κ, (zup g p0 12 (.int 1))), rfl, ⟨_, rfl⟩, z_end hK hI ht hW⟩, z_F hI ht⟩) (z_locs hI) dX11_wanted_40

set_option maxHeartbeats 4000000 in
set_option maxRecDepth 100000 in
theorem c_X11_heat (l : Launch) (D : va_G) (tc : Nat → ClassId) (z0 : Nat) (L : List Nat) (κ : Nat → Nat) (g : Nat → Nat → Value) (sz : Nat) (p0 : Nat) (hk0 : κ p0 = 13) (p1 : Int32) (lc eC nC : Nat) (mC : Int32) (cf : Nat → Nat) (lt eT nT : Nat) (mT : Int32) (tf : Nat → Nat) (hMo : zMo κ g z0 p0 lc eC nC mC cf lt eT nT mT tf) : Met l yX11_heat wsX11_heat ({ frames := 3, cells := 0, slots := 0, locals := 64 }) (zPc D tc z0 [.ref p0, .int p1] [] (L, κ, g) sz) (va_Qi (fun (r : Int32) (u : zS) => ∃ v : Int32, u = (L, κ, zup g p0 12 (.int v))) (fun (u : zS) (t : State) => zB D tc (zA [] L sz) [] u t) (zA [] L sz)) 0 0 (zA [] L sz) := by
  refine Met.ofW (cc := cX11_heat) (maxL := 2) (ret := (some .int)) (by decide) rfl ?_
  intro p e9 s m args below meth c s₁ B hml hv
  obtain ⟨rfl, rfl, hK, hE, hI⟩ := hv.opn
  have hx := B.exec
  have hb := B.bytes
  have hr := B.returns
  have hts := atoms_spec (ws := wsX11_heat) B.pre
  have hown : s.vm.findClass RX11 = some m.cls := findClass_of_methodNamed B.named
  have hlocks := B.notSynchronized
  have hM : zM p s m c cX11_heat _ wsX11_heat RX11 D tc := ⟨hx, hb, hts, hown, hK⟩
  have hinX11 : ∀ w ∈ wsX110, w ∈ wsX11_heat := by decide +kernel
  have hinX9 : ∀ w ∈ wsX90, w ∈ wsX11_heat := by decide +kernel
  have hnC := hMo.bC
  have hnT := hMo.bT
  have hl := lv_entry ([.ref p0, .int p1]) (n := 2) (Nat.le_of_ble_eq_true rfl)
  rw [lg_entry_eq]
  generalize (lg_sl ([.ref p0, .int p1]) ++ List.replicate (2 - (lg_sl ([.ref p0, .int p1])).length) Slot.unset).toArray = ls at hl ⊢
  have hl : lv_has ls 2 [(0, .ref p0), (1, .int p1)] := hl
  refine lv_aload_n hx hb dX11_heat_0 rfl (lv_at hl 0 rfl) ?_
  refine lv_aload_n hx hb dX11_heat_1 rfl (lv_at hl 0 rfl) ?_
  refine lv_iload_n hx hb dX11_heat_2 rfl (lv_at hl 1 rfl) ?_
  refine vp_callSi (W.runV (As := [.int p1]) (rest := [.ref p0]) ⟨hx, hb, hml, hown, hts⟩ (c_X11_isCore l D tc z0 _ κ g _ p0 hk0 p1 lc eC nC mC cf lt eT nT mT tf hMo) (cwV 1 hts gX11_heat_X11_isCore rfl rfl rfl (by decide +kernel) ⟨Nat.le_of_ble_eq_true rfl, Nat.le_of_ble_eq_true rfl⟩) (z_preV (Xc := []) hK hE hI [] rfl rfl (z_recv hK hI hk0 rfl rfl)) rfl rfl hl.1 rfl (lv_room (Nat.le_of_ble_eq_true rfl)) dX11_heat_3 ⟨(Nat.le_of_ble_eq_true rfl), (Nat.le_of_ble_eq_true rfl)⟩) (fun v1 hw2 => ?_)
  rcases hw2 with ⟨rfl, i3, hi4, hp5⟩ | ⟨rfl, hno6⟩
  · skip
    rw [hp5] at hl
    refine lv_if_eq (tgt := 13) hx hb dX11_heat_6 (by decide) (fun h9 => by first | exact absurd h9 (by decide) | exact absurd (by decide) h9) (fun _ => ?_)
    refine lv_iconst (v := 0) hx hb dX11_heat_9 (by decide) ?_
    refine lv_goto (tgt := 14) hx hb dX11_heat_10 (by decide) ?_
    refine z_ciX (Xc := []) (wr := []) (rx := []) [] [] rfl rfl rfl rfl (by decide) hI (va_runV (As := [.int 0]) (rest := []) ⟨hx, hb, hml, hown, hts⟩ (c_X11_fails l D tc z0 _ κ g _ p0 hk0 0) (cwV 1 hts gX11_heat_X11_fails rfl rfl rfl (by decide +kernel) ⟨Nat.le_of_ble_eq_true rfl, Nat.le_of_ble_eq_true rfl⟩) (z_preV (Xc := []) hK hE hI [] rfl rfl (z_recv hK hI hk0 rfl rfl)) rfl rfl hl.1 rfl (lv_room (Nat.le_of_ble_eq_true rfl)) dX11_heat_14 ⟨(Nat.le_of_ble_eq_true rfl), (Nat.le_of_ble_eq_true rfl)⟩) (fun v7 u H locs hw8 hI => ?_)
    obtain ⟨hw8, rfl⟩ := hw8
    have hI : zI D tc _ s.heap [] L κ (zup g p0 12 (.int 0)) _ _ := hI
    have hMo := hMo.upP (j := 12) (v := .int 0) (by decide)
    obtain rfl : v7 = 0 := hw8.trans (by decide)
    refine lv_if_eq (tgt := 24) hx hb dX11_heat_17 (by decide) (fun _ => ?_) (fun h9 => by first | exact absurd h9 (by decide) | exact absurd (by decide) h9)
    refine lv_aload_n hx hb dX11_heat_24 rfl (lv_at hl 0 rfl) ?_
    refine z_get (k := 13) (j := 0) hM hI hk0 rfl rfl hinX11 rfl (by decide) (by decide +kernel) (fun _ h9 => h9) dX11_heat_25 (fun v9 hv10 => ?_)
    obtain ⟨hg12, i11, rfl, hr13⟩ := hv10
    obtain rfl : lc = i11 := Value.ref.inj (hMo.gc.symm.trans hg12.symm)
    refine lv_iload_n hx hb dX11_heat_28 rfl (lv_at hl 1 rfl) ?_
    refine va_csFq (va_runF (As := [.int ((nI i3))]) (rest := []) (hK.1 1 _ rfl).2 ⟨hx, hb, hml, hown, hts⟩ (c_Jx4a65c_get_915e3 l D tc z0 _ κ (zup g p0 12 (.int 0)) _ lc 1 eC 25 11 nC mC cf rfl hMo.LC rfl rfl i3 (by omega)) (va_cwF 1 hts gX11_heat_Jx4a65c_get_915e3_f101Jx4a65c rfl rfl rfl (hE.2.2.1 (RJx4a65c, ⟨"java/util/List", "get", "(I)Ljava/lang/Object;"⟩, yJx4a65c_get_915e3) (by decide +kernel)) (by decide +kernel) ⟨Nat.le_of_ble_eq_true rfl, Nat.le_of_ble_eq_true rfl⟩) (z_preV (Xc := []) hK hE hI [] rfl rfl (z_recv hK hI hMo.LC.1 rfl rfl)) rfl rfl hl.1 rfl (lv_room (Nat.le_of_ble_eq_true rfl)) dX11_heat_29 ⟨(Nat.le_of_ble_eq_true rfl), (Nat.le_of_ble_eq_true rfl)⟩) (fun r14 hw15 => ?_)
    obtain rfl := hw15
    have hr16 : κ (cf i3) = 11 := hMo.LC.el (i := i3) (by omega)
    show W p l e9 (headSpec wsX11_heat ({ frames := 3, cells := 0, slots := 0, locals := 64 })).room s m ([.ref p0, .int p1] : List Value).toArray below meth c _ _ 0 0 (MQ below (va_Qi (fun (r : Int32) (u : zS) => ∃ v : Int32, u = (L, κ, zup g p0 12 (.int v))) (fun (u : zS) (t : State) => zB D tc (zA [] L s.heap.size) [] u t) (zA [] L s.heap.size)) ([.ref p0, .int p1] : List Value).toArray s 0 0 (zA [] L s.heap.size)) (F0 m 34 ls (.ref (cf i3) :: []))
    refine z_castS (k := 11) hM hI hr16 rfl rfl (by decide +kernel) dX11_heat_34 ?_
    refine z_getN (host := "WattgovernModel") (k := 11) (j := 10) hM hE hI hr16 rfl rfl hinX9 rfl (by decide) (by decide +kernel) (fun _ h9 => h9) dX11_heat_37 (fun v17 hv18 => ?_)
    obtain ⟨i19, rfl⟩ := hv18
    refine W.widen (k := 0) (n := 0) (Nat.le_of_ble_eq_true rfl) (Nat.le_of_ble_eq_true rfl) ?_
    exact W.iret (v := i19) hx hb hr (fun t ht hW => ⟨⟨_, (L, κ, (zup g p0 12 (.int 0))), rfl, ⟨_, rfl⟩, z_end hK hI ht hW⟩, z_F hI ht⟩) (z_locs hI) dX11_heat_40
  · skip
    refine lv_if_eq (tgt := 13) hx hb dX11_heat_6 (by decide) (fun _ => ?_) (fun h9 => by first | exact absurd h9 (by decide) | exact absurd (by decide) h9)
    refine lv_iconst (v := 1) hx hb dX11_heat_13 (by decide) ?_
    refine z_ciX (Xc := []) (wr := []) (rx := []) [] [] rfl rfl rfl rfl (by decide) hI (va_runV (As := [.int 1]) (rest := []) ⟨hx, hb, hml, hown, hts⟩ (c_X11_fails l D tc z0 _ κ g _ p0 hk0 1) (cwV 1 hts gX11_heat_X11_fails rfl rfl rfl (by decide +kernel) ⟨Nat.le_of_ble_eq_true rfl, Nat.le_of_ble_eq_true rfl⟩) (z_preV (Xc := []) hK hE hI [] rfl rfl (z_recv hK hI hk0 rfl rfl)) rfl rfl hl.1 rfl (lv_room (Nat.le_of_ble_eq_true rfl)) dX11_heat_14 ⟨(Nat.le_of_ble_eq_true rfl), (Nat.le_of_ble_eq_true rfl)⟩) (fun v20 u H locs hw21 hI => ?_)
    obtain ⟨hw21, rfl⟩ := hw21
    have hI : zI D tc _ s.heap [] L κ (zup g p0 12 (.int 1)) _ _ := hI
    have hMo := hMo.upP (j := 12) (v := .int 1) (by decide)
    obtain rfl : v20 = 1 := hw21.trans (by decide)
    refine lv_if_eq (tgt := 24) hx hb dX11_heat_17 (by decide) (fun h9 => by first | exact absurd h9 (by decide) | exact absurd (by decide) h9) (fun _ => ?_)
    refine lv_iconst (v := 0) hx hb dX11_heat_20 (by decide) ?_
    refine lv_goto (tgt := 40) hx hb dX11_heat_21 (by decide) ?_
    refine W.widen (k := 0) (n := 0) (Nat.le_of_ble_eq_true rfl) (Nat.le_of_ble_eq_true rfl) ?_
    exact W.iret (v := 0) hx hb hr (fun t ht hW => ⟨⟨_, (L, κ, (zup g p0 12 (.int 1))), rfl, ⟨_, rfl⟩, z_end hK hI ht hW⟩, z_F hI ht⟩) (z_locs hI) dX11_heat_40

set_option maxHeartbeats 4000000 in
set_option maxRecDepth 100000 in
theorem c_X11_degrees (l : Launch) (D : va_G) (tc : Nat → ClassId) (z0 : Nat) (L : List Nat) (κ : Nat → Nat) (g : Nat → Nat → Value) (sz : Nat) (p0 : Nat) (hk0 : κ p0 = 13) (p1 : Int32) (lc eC nC : Nat) (mC : Int32) (cf : Nat → Nat) (lt eT nT : Nat) (mT : Int32) (tf : Nat → Nat) (hMo : zMo κ g z0 p0 lc eC nC mC cf lt eT nT mT tf) : Met l yX11_degrees wsX11_degrees ({ frames := 3, cells := 0, slots := 0, locals := 64 }) (zPc D tc z0 [.ref p0, .int p1] [] (L, κ, g) sz) (va_Qi (fun (r : Int32) (u : zS) => ∃ v : Int32, u = (L, κ, zup g p0 12 (.int v))) (fun (u : zS) (t : State) => zB D tc (zA [] L sz) [] u t) (zA [] L sz)) 0 0 (zA [] L sz) := by
  refine Met.ofW (cc := cX11_degrees) (maxL := 2) (ret := (some .int)) (by decide) rfl ?_
  intro p e9 s m args below meth c s₁ B hml hv
  obtain ⟨rfl, rfl, hK, hE, hI⟩ := hv.opn
  have hx := B.exec
  have hb := B.bytes
  have hr := B.returns
  have hts := atoms_spec (ws := wsX11_degrees) B.pre
  have hown : s.vm.findClass RX11 = some m.cls := findClass_of_methodNamed B.named
  have hlocks := B.notSynchronized
  have hM : zM p s m c cX11_degrees _ wsX11_degrees RX11 D tc := ⟨hx, hb, hts, hown, hK⟩
  have hinX11 : ∀ w ∈ wsX110, w ∈ wsX11_degrees := by decide +kernel
  have hnC := hMo.bC
  have hnT := hMo.bT
  have hl := lv_entry ([.ref p0, .int p1]) (n := 2) (Nat.le_of_ble_eq_true rfl)
  rw [lg_entry_eq]
  generalize (lg_sl ([.ref p0, .int p1]) ++ List.replicate (2 - (lg_sl ([.ref p0, .int p1])).length) Slot.unset).toArray = ls at hl ⊢
  have hl : lv_has ls 2 [(0, .ref p0), (1, .int p1)] := hl
  refine lv_aload_n hx hb dX11_degrees_0 rfl (lv_at hl 0 rfl) ?_
  refine lv_aload_n hx hb dX11_degrees_1 rfl (lv_at hl 0 rfl) ?_
  refine lv_iload_n hx hb dX11_degrees_2 rfl (lv_at hl 1 rfl) ?_
  refine vp_callSi (W.runV (As := [.int p1]) (rest := [.ref p0]) ⟨hx, hb, hml, hown, hts⟩ (c_X11_isCore l D tc z0 _ κ g _ p0 hk0 p1 lc eC nC mC cf lt eT nT mT tf hMo) (cwV 1 hts gX11_degrees_X11_isCore rfl rfl rfl (by decide +kernel) ⟨Nat.le_of_ble_eq_true rfl, Nat.le_of_ble_eq_true rfl⟩) (z_preV (Xc := []) hK hE hI [] rfl rfl (z_recv hK hI hk0 rfl rfl)) rfl rfl hl.1 rfl (lv_room (Nat.le_of_ble_eq_true rfl)) dX11_degrees_3 ⟨(Nat.le_of_ble_eq_true rfl), (Nat.le_of_ble_eq_true rfl)⟩) (fun v1 hw2 => ?_)
  rcases hw2 with ⟨rfl, i3, hi4, hp5⟩ | ⟨rfl, hno6⟩
  · skip
    rw [hp5] at hl
    refine lv_if_eq (tgt := 13) hx hb dX11_degrees_6 (by decide) (fun h9 => by first | exact absurd h9 (by decide) | exact absurd (by decide) h9) (fun _ => ?_)
    refine lv_iconst (v := 0) hx hb dX11_degrees_9 (by decide) ?_
    refine lv_goto (tgt := 14) hx hb dX11_degrees_10 (by decide) ?_
    refine z_ciX (Xc := []) (wr := []) (rx := []) [] [] rfl rfl rfl rfl (by decide) hI (va_runV (As := [.int 0]) (rest := []) ⟨hx, hb, hml, hown, hts⟩ (c_X11_fails l D tc z0 _ κ g _ p0 hk0 0) (cwV 1 hts gX11_degrees_X11_fails rfl rfl rfl (by decide +kernel) ⟨Nat.le_of_ble_eq_true rfl, Nat.le_of_ble_eq_true rfl⟩) (z_preV (Xc := []) hK hE hI [] rfl rfl (z_recv hK hI hk0 rfl rfl)) rfl rfl hl.1 rfl (lv_room (Nat.le_of_ble_eq_true rfl)) dX11_degrees_14 ⟨(Nat.le_of_ble_eq_true rfl), (Nat.le_of_ble_eq_true rfl)⟩) (fun v7 u H locs hw8 hI => ?_)
    obtain ⟨hw8, rfl⟩ := hw8
    have hI : zI D tc _ s.heap [] L κ (zup g p0 12 (.int 0)) _ _ := hI
    have hMo := hMo.upP (j := 12) (v := .int 0) (by decide)
    obtain rfl : v7 = 0 := hw8.trans (by decide)
    refine lv_if_eq (tgt := 24) hx hb dX11_degrees_17 (by decide) (fun _ => ?_) (fun h9 => by first | exact absurd h9 (by decide) | exact absurd (by decide) h9)
    refine lv_aload_n hx hb dX11_degrees_24 rfl (lv_at hl 0 rfl) ?_
    refine z_get (k := 13) (j := 0) hM hI hk0 rfl rfl hinX11 rfl (by decide) (by decide +kernel) (fun _ h9 => h9) dX11_degrees_25 (fun v9 hv10 => ?_)
    obtain ⟨hg12, i11, rfl, hr13⟩ := hv10
    obtain rfl : lc = i11 := Value.ref.inj (hMo.gc.symm.trans hg12.symm)
    refine lv_iload_n hx hb dX11_degrees_28 rfl (lv_at hl 1 rfl) ?_
    refine va_csFq (va_runF (As := [.int ((nI i3))]) (rest := []) (hK.1 1 _ rfl).2 ⟨hx, hb, hml, hown, hts⟩ (c_Jx4a65c_get_915e3 l D tc z0 _ κ (zup g p0 12 (.int 0)) _ lc 1 eC 25 11 nC mC cf rfl hMo.LC rfl rfl i3 (by omega)) (va_cwF 1 hts gX11_degrees_Jx4a65c_get_915e3_f101Jx4a65c rfl rfl rfl (hE.2.2.1 (RJx4a65c, ⟨"java/util/List", "get", "(I)Ljava/lang/Object;"⟩, yJx4a65c_get_915e3) (by decide +kernel)) (by decide +kernel) ⟨Nat.le_of_ble_eq_true rfl, Nat.le_of_ble_eq_true rfl⟩) (z_preV (Xc := []) hK hE hI [] rfl rfl (z_recv hK hI hMo.LC.1 rfl rfl)) rfl rfl hl.1 rfl (lv_room (Nat.le_of_ble_eq_true rfl)) dX11_degrees_29 ⟨(Nat.le_of_ble_eq_true rfl), (Nat.le_of_ble_eq_true rfl)⟩) (fun r14 hw15 => ?_)
    obtain rfl := hw15
    have hr16 : κ (cf i3) = 11 := hMo.LC.el (i := i3) (by omega)
    show W p l e9 (headSpec wsX11_degrees ({ frames := 3, cells := 0, slots := 0, locals := 64 })).room s m ([.ref p0, .int p1] : List Value).toArray below meth c _ _ 0 0 (MQ below (va_Qi (fun (r : Int32) (u : zS) => ∃ v : Int32, u = (L, κ, zup g p0 12 (.int v))) (fun (u : zS) (t : State) => zB D tc (zA [] L s.heap.size) [] u t) (zA [] L s.heap.size)) ([.ref p0, .int p1] : List Value).toArray s 0 0 (zA [] L s.heap.size)) (F0 m 34 ls (.ref (cf i3) :: []))
    refine z_castS (k := 11) hM hI hr16 rfl rfl (by decide +kernel) dX11_degrees_34 ?_
    refine vp_callSi (va_Run.run (va_runVN (As := []) (rest := []) ⟨hx, hb, hml, hown, hts⟩ (c_X9_degrees l D tc z0 _ κ (zup g p0 12 (.int 0)) _ ((cf i3)) hr16) ⟨va_cnB 0 hts gX11_degrees_X9_degrees_n133 rfl rfl rfl (hE.1 (.methodLinkNest RX11 133 yX9_degrees "WattgovernModel") (by decide +kernel) rfl) (hts (.initialized yX9_degrees.cls) (by decide +kernel)) (by decide +kernel) ⟨Nat.le_of_ble_eq_true rfl, Nat.le_of_ble_eq_true rfl⟩, hts (.instanceMethod yX9_degrees) (by decide +kernel), hts (.selects RX9 yX9_degrees yX9_degrees) (by decide +kernel)⟩ (z_preV (Xc := []) hK hE hI [] rfl rfl (z_recv hK hI hr16 rfl rfl)) rfl rfl hl.1 rfl (lv_room (Nat.le_of_ble_eq_true rfl)) dX11_degrees_37 ⟨(Nat.le_of_ble_eq_true rfl), (Nat.le_of_ble_eq_true rfl)⟩)) (fun v17 hw18 => ?_)
    refine W.widen (k := 0) (n := 0) (Nat.le_of_ble_eq_true rfl) (Nat.le_of_ble_eq_true rfl) ?_
    exact W.iret (v := v17) hx hb hr (fun t ht hW => ⟨⟨_, (L, κ, (zup g p0 12 (.int 0))), rfl, ⟨_, rfl⟩, z_end hK hI ht hW⟩, z_F hI ht⟩) (z_locs hI) dX11_degrees_40
  · skip
    refine lv_if_eq (tgt := 13) hx hb dX11_degrees_6 (by decide) (fun _ => ?_) (fun h9 => by first | exact absurd h9 (by decide) | exact absurd (by decide) h9)
    refine lv_iconst (v := 1) hx hb dX11_degrees_13 (by decide) ?_
    refine z_ciX (Xc := []) (wr := []) (rx := []) [] [] rfl rfl rfl rfl (by decide) hI (va_runV (As := [.int 1]) (rest := []) ⟨hx, hb, hml, hown, hts⟩ (c_X11_fails l D tc z0 _ κ g _ p0 hk0 1) (cwV 1 hts gX11_degrees_X11_fails rfl rfl rfl (by decide +kernel) ⟨Nat.le_of_ble_eq_true rfl, Nat.le_of_ble_eq_true rfl⟩) (z_preV (Xc := []) hK hE hI [] rfl rfl (z_recv hK hI hk0 rfl rfl)) rfl rfl hl.1 rfl (lv_room (Nat.le_of_ble_eq_true rfl)) dX11_degrees_14 ⟨(Nat.le_of_ble_eq_true rfl), (Nat.le_of_ble_eq_true rfl)⟩) (fun v19 u H locs hw20 hI => ?_)
    obtain ⟨hw20, rfl⟩ := hw20
    have hI : zI D tc _ s.heap [] L κ (zup g p0 12 (.int 1)) _ _ := hI
    have hMo := hMo.upP (j := 12) (v := .int 1) (by decide)
    obtain rfl : v19 = 1 := hw20.trans (by decide)
    refine lv_if_eq (tgt := 24) hx hb dX11_degrees_17 (by decide) (fun h9 => by first | exact absurd h9 (by decide) | exact absurd (by decide) h9) (fun _ => ?_)
    refine lv_iconst (v := 0) hx hb dX11_degrees_20 (by decide) ?_
    refine lv_goto (tgt := 40) hx hb dX11_degrees_21 (by decide) ?_
    refine W.widen (k := 0) (n := 0) (Nat.le_of_ble_eq_true rfl) (Nat.le_of_ble_eq_true rfl) ?_
    exact W.iret (v := 0) hx hb hr (fun t ht hW => ⟨⟨_, (L, κ, (zup g p0 12 (.int 1))), rfl, ⟨_, rfl⟩, z_end hK hI ht hW⟩, z_F hI ht⟩) (z_locs hI) dX11_degrees_40

set_option maxHeartbeats 4000000 in
set_option maxRecDepth 100000 in
theorem c_X11_age (l : Launch) (D : va_G) (tc : Nat → ClassId) (z0 : Nat) (L : List Nat) (κ : Nat → Nat) (g : Nat → Nat → Value) (sz : Nat) (p0 : Nat) (hk0 : κ p0 = 13) (p1 : Int32) (lc eC nC : Nat) (mC : Int32) (cf : Nat → Nat) (lt eT nT : Nat) (mT : Int32) (tf : Nat → Nat) (hMo : zMo κ g z0 p0 lc eC nC mC cf lt eT nT mT tf) : Met l yX11_age wsX11_age ({ frames := 3, cells := 0, slots := 0, locals := 64 }) (zPc D tc z0 [.ref p0, .int p1] [] (L, κ, g) sz) (va_Qi (fun (r : Int32) (u : zS) => ∃ v : Int32, u = (L, κ, zup g p0 12 (.int v))) (fun (u : zS) (t : State) => zB D tc (zA [] L sz) [] u t) (zA [] L sz)) 0 0 (zA [] L sz) := by
  refine Met.ofW (cc := cX11_age) (maxL := 2) (ret := (some .int)) (by decide) rfl ?_
  intro p e9 s m args below meth c s₁ B hml hv
  obtain ⟨rfl, rfl, hK, hE, hI⟩ := hv.opn
  have hx := B.exec
  have hb := B.bytes
  have hr := B.returns
  have hts := atoms_spec (ws := wsX11_age) B.pre
  have hown : s.vm.findClass RX11 = some m.cls := findClass_of_methodNamed B.named
  have hlocks := B.notSynchronized
  have hM : zM p s m c cX11_age _ wsX11_age RX11 D tc := ⟨hx, hb, hts, hown, hK⟩
  have hinX11 : ∀ w ∈ wsX110, w ∈ wsX11_age := by decide +kernel
  have hnC := hMo.bC
  have hnT := hMo.bT
  have hl := lv_entry ([.ref p0, .int p1]) (n := 2) (Nat.le_of_ble_eq_true rfl)
  rw [lg_entry_eq]
  generalize (lg_sl ([.ref p0, .int p1]) ++ List.replicate (2 - (lg_sl ([.ref p0, .int p1])).length) Slot.unset).toArray = ls at hl ⊢
  have hl : lv_has ls 2 [(0, .ref p0), (1, .int p1)] := hl
  refine lv_aload_n hx hb dX11_age_0 rfl (lv_at hl 0 rfl) ?_
  refine lv_aload_n hx hb dX11_age_1 rfl (lv_at hl 0 rfl) ?_
  refine lv_iload_n hx hb dX11_age_2 rfl (lv_at hl 1 rfl) ?_
  refine vp_callSi (W.runV (As := [.int p1]) (rest := [.ref p0]) ⟨hx, hb, hml, hown, hts⟩ (c_X11_isCore l D tc z0 _ κ g _ p0 hk0 p1 lc eC nC mC cf lt eT nT mT tf hMo) (cwV 1 hts gX11_age_X11_isCore rfl rfl rfl (by decide +kernel) ⟨Nat.le_of_ble_eq_true rfl, Nat.le_of_ble_eq_true rfl⟩) (z_preV (Xc := []) hK hE hI [] rfl rfl (z_recv hK hI hk0 rfl rfl)) rfl rfl hl.1 rfl (lv_room (Nat.le_of_ble_eq_true rfl)) dX11_age_3 ⟨(Nat.le_of_ble_eq_true rfl), (Nat.le_of_ble_eq_true rfl)⟩) (fun v1 hw2 => ?_)
  rcases hw2 with ⟨rfl, i3, hi4, hp5⟩ | ⟨rfl, hno6⟩
  · skip
    rw [hp5] at hl
    refine lv_if_eq (tgt := 13) hx hb dX11_age_6 (by decide) (fun h9 => by first | exact absurd h9 (by decide) | exact absurd (by decide) h9) (fun _ => ?_)
    refine lv_iconst (v := 0) hx hb dX11_age_9 (by decide) ?_
    refine lv_goto (tgt := 14) hx hb dX11_age_10 (by decide) ?_
    refine z_ciX (Xc := []) (wr := []) (rx := []) [] [] rfl rfl rfl rfl (by decide) hI (va_runV (As := [.int 0]) (rest := []) ⟨hx, hb, hml, hown, hts⟩ (c_X11_fails l D tc z0 _ κ g _ p0 hk0 0) (cwV 1 hts gX11_age_X11_fails rfl rfl rfl (by decide +kernel) ⟨Nat.le_of_ble_eq_true rfl, Nat.le_of_ble_eq_true rfl⟩) (z_preV (Xc := []) hK hE hI [] rfl rfl (z_recv hK hI hk0 rfl rfl)) rfl rfl hl.1 rfl (lv_room (Nat.le_of_ble_eq_true rfl)) dX11_age_14 ⟨(Nat.le_of_ble_eq_true rfl), (Nat.le_of_ble_eq_true rfl)⟩) (fun v7 u H locs hw8 hI => ?_)
    obtain ⟨hw8, rfl⟩ := hw8
    have hI : zI D tc _ s.heap [] L κ (zup g p0 12 (.int 0)) _ _ := hI
    have hMo := hMo.upP (j := 12) (v := .int 0) (by decide)
    obtain rfl : v7 = 0 := hw8.trans (by decide)
    refine lv_if_eq (tgt := 24) hx hb dX11_age_17 (by decide) (fun _ => ?_) (fun h9 => by first | exact absurd h9 (by decide) | exact absurd (by decide) h9)
    refine lv_aload_n hx hb dX11_age_24 rfl (lv_at hl 0 rfl) ?_
    refine z_get (k := 13) (j := 0) hM hI hk0 rfl rfl hinX11 rfl (by decide) (by decide +kernel) (fun _ h9 => h9) dX11_age_25 (fun v9 hv10 => ?_)
    obtain ⟨hg12, i11, rfl, hr13⟩ := hv10
    obtain rfl : lc = i11 := Value.ref.inj (hMo.gc.symm.trans hg12.symm)
    refine lv_iload_n hx hb dX11_age_28 rfl (lv_at hl 1 rfl) ?_
    refine va_csFq (va_runF (As := [.int ((nI i3))]) (rest := []) (hK.1 1 _ rfl).2 ⟨hx, hb, hml, hown, hts⟩ (c_Jx4a65c_get_915e3 l D tc z0 _ κ (zup g p0 12 (.int 0)) _ lc 1 eC 25 11 nC mC cf rfl hMo.LC rfl rfl i3 (by omega)) (va_cwF 1 hts gX11_age_Jx4a65c_get_915e3_f101Jx4a65c rfl rfl rfl (hE.2.2.1 (RJx4a65c, ⟨"java/util/List", "get", "(I)Ljava/lang/Object;"⟩, yJx4a65c_get_915e3) (by decide +kernel)) (by decide +kernel) ⟨Nat.le_of_ble_eq_true rfl, Nat.le_of_ble_eq_true rfl⟩) (z_preV (Xc := []) hK hE hI [] rfl rfl (z_recv hK hI hMo.LC.1 rfl rfl)) rfl rfl hl.1 rfl (lv_room (Nat.le_of_ble_eq_true rfl)) dX11_age_29 ⟨(Nat.le_of_ble_eq_true rfl), (Nat.le_of_ble_eq_true rfl)⟩) (fun r14 hw15 => ?_)
    obtain rfl := hw15
    have hr16 : κ (cf i3) = 11 := hMo.LC.el (i := i3) (by omega)
    show W p l e9 (headSpec wsX11_age ({ frames := 3, cells := 0, slots := 0, locals := 64 })).room s m ([.ref p0, .int p1] : List Value).toArray below meth c _ _ 0 0 (MQ below (va_Qi (fun (r : Int32) (u : zS) => ∃ v : Int32, u = (L, κ, zup g p0 12 (.int v))) (fun (u : zS) (t : State) => zB D tc (zA [] L s.heap.size) [] u t) (zA [] L s.heap.size)) ([.ref p0, .int p1] : List Value).toArray s 0 0 (zA [] L s.heap.size)) (F0 m 34 ls (.ref (cf i3) :: []))
    refine z_castS (k := 11) hM hI hr16 rfl rfl (by decide +kernel) dX11_age_34 ?_
    refine vp_callSi (va_Run.run (va_runVN (As := []) (rest := []) ⟨hx, hb, hml, hown, hts⟩ (c_X9_age l D tc z0 _ κ (zup g p0 12 (.int 0)) _ ((cf i3)) hr16) ⟨va_cnB 0 hts gX11_age_X9_age_n283 rfl rfl rfl (hE.1 (.methodLinkNest RX11 283 yX9_age "WattgovernModel") (by decide +kernel) rfl) (hts (.initialized yX9_age.cls) (by decide +kernel)) (by decide +kernel) ⟨Nat.le_of_ble_eq_true rfl, Nat.le_of_ble_eq_true rfl⟩, hts (.instanceMethod yX9_age) (by decide +kernel), hts (.selects RX9 yX9_age yX9_age) (by decide +kernel)⟩ (z_preV (Xc := []) hK hE hI [] rfl rfl (z_recv hK hI hr16 rfl rfl)) rfl rfl hl.1 rfl (lv_room (Nat.le_of_ble_eq_true rfl)) dX11_age_37 ⟨(Nat.le_of_ble_eq_true rfl), (Nat.le_of_ble_eq_true rfl)⟩)) (fun v17 hw18 => ?_)
    refine W.widen (k := 0) (n := 0) (Nat.le_of_ble_eq_true rfl) (Nat.le_of_ble_eq_true rfl) ?_
    exact W.iret (v := v17) hx hb hr (fun t ht hW => ⟨⟨_, (L, κ, (zup g p0 12 (.int 0))), rfl, ⟨_, rfl⟩, z_end hK hI ht hW⟩, z_F hI ht⟩) (z_locs hI) dX11_age_40
  · skip
    refine lv_if_eq (tgt := 13) hx hb dX11_age_6 (by decide) (fun _ => ?_) (fun h9 => by first | exact absurd h9 (by decide) | exact absurd (by decide) h9)
    refine lv_iconst (v := 1) hx hb dX11_age_13 (by decide) ?_
    refine z_ciX (Xc := []) (wr := []) (rx := []) [] [] rfl rfl rfl rfl (by decide) hI (va_runV (As := [.int 1]) (rest := []) ⟨hx, hb, hml, hown, hts⟩ (c_X11_fails l D tc z0 _ κ g _ p0 hk0 1) (cwV 1 hts gX11_age_X11_fails rfl rfl rfl (by decide +kernel) ⟨Nat.le_of_ble_eq_true rfl, Nat.le_of_ble_eq_true rfl⟩) (z_preV (Xc := []) hK hE hI [] rfl rfl (z_recv hK hI hk0 rfl rfl)) rfl rfl hl.1 rfl (lv_room (Nat.le_of_ble_eq_true rfl)) dX11_age_14 ⟨(Nat.le_of_ble_eq_true rfl), (Nat.le_of_ble_eq_true rfl)⟩) (fun v19 u H locs hw20 hI => ?_)
    obtain ⟨hw20, rfl⟩ := hw20
    have hI : zI D tc _ s.heap [] L κ (zup g p0 12 (.int 1)) _ _ := hI
    have hMo := hMo.upP (j := 12) (v := .int 1) (by decide)
    obtain rfl : v19 = 1 := hw20.trans (by decide)
    refine lv_if_eq (tgt := 24) hx hb dX11_age_17 (by decide) (fun h9 => by first | exact absurd h9 (by decide) | exact absurd (by decide) h9) (fun _ => ?_)
    refine lv_iconst (v := 0) hx hb dX11_age_20 (by decide) ?_
    refine lv_goto (tgt := 40) hx hb dX11_age_21 (by decide) ?_
    refine W.widen (k := 0) (n := 0) (Nat.le_of_ble_eq_true rfl) (Nat.le_of_ble_eq_true rfl) ?_
    exact W.iret (v := 0) hx hb hr (fun t ht hW => ⟨⟨_, (L, κ, (zup g p0 12 (.int 1))), rfl, ⟨_, rfl⟩, z_end hK hI ht hW⟩, z_F hI ht⟩) (z_locs hI) dX11_age_40

set_option maxHeartbeats 4000000 in
set_option maxRecDepth 100000 in
theorem c_X11_clamp (l : Launch) (D : va_G) (tc : Nat → ClassId) (z0 : Nat) (L : List Nat) (κ : Nat → Nat) (g : Nat → Nat → Value) (sz : Nat) (p0 : Nat) (hk0 : κ p0 = 13) (p1 : Int32) (lc eC nC : Nat) (mC : Int32) (cf : Nat → Nat) (lt eT nT : Nat) (mT : Int32) (tf : Nat → Nat) (hMo : zMo κ g z0 p0 lc eC nC mC cf lt eT nT mT tf) : Met l yX11_clamp wsX11_clamp ({ frames := 3, cells := 0, slots := 0, locals := 64 }) (zPc D tc z0 [.ref p0, .int p1] [] (L, κ, g) sz) (va_Qi (fun (r : Int32) (u : zS) => ∃ v : Int32, u = (L, κ, zup g p0 12 (.int v))) (fun (u : zS) (t : State) => zB D tc (zA [] L sz) [] u t) (zA [] L sz)) 0 0 (zA [] L sz) := by
  refine Met.ofW (cc := cX11_clamp) (maxL := 2) (ret := (some .char)) (by decide) rfl ?_
  intro p e9 s m args below meth c s₁ B hml hv
  obtain ⟨rfl, rfl, hK, hE, hI⟩ := hv.opn
  have hx := B.exec
  have hb := B.bytes
  have hr := B.returns
  have hts := atoms_spec (ws := wsX11_clamp) B.pre
  have hown : s.vm.findClass RX11 = some m.cls := findClass_of_methodNamed B.named
  have hlocks := B.notSynchronized
  have hM : zM p s m c cX11_clamp _ wsX11_clamp RX11 D tc := ⟨hx, hb, hts, hown, hK⟩
  have hinX11 : ∀ w ∈ wsX110, w ∈ wsX11_clamp := by decide +kernel
  have hinX9 : ∀ w ∈ wsX90, w ∈ wsX11_clamp := by decide +kernel
  have hnC := hMo.bC
  have hnT := hMo.bT
  have hl := lv_entry ([.ref p0, .int p1]) (n := 2) (Nat.le_of_ble_eq_true rfl)
  rw [lg_entry_eq]
  generalize (lg_sl ([.ref p0, .int p1]) ++ List.replicate (2 - (lg_sl ([.ref p0, .int p1])).length) Slot.unset).toArray = ls at hl ⊢
  have hl : lv_has ls 2 [(0, .ref p0), (1, .int p1)] := hl
  refine lv_aload_n hx hb dX11_clamp_0 rfl (lv_at hl 0 rfl) ?_
  refine lv_aload_n hx hb dX11_clamp_1 rfl (lv_at hl 0 rfl) ?_
  refine lv_iload_n hx hb dX11_clamp_2 rfl (lv_at hl 1 rfl) ?_
  refine vp_callSi (W.runV (As := [.int p1]) (rest := [.ref p0]) ⟨hx, hb, hml, hown, hts⟩ (c_X11_isCore l D tc z0 _ κ g _ p0 hk0 p1 lc eC nC mC cf lt eT nT mT tf hMo) (cwV 1 hts gX11_clamp_X11_isCore rfl rfl rfl (by decide +kernel) ⟨Nat.le_of_ble_eq_true rfl, Nat.le_of_ble_eq_true rfl⟩) (z_preV (Xc := []) hK hE hI [] rfl rfl (z_recv hK hI hk0 rfl rfl)) rfl rfl hl.1 rfl (lv_room (Nat.le_of_ble_eq_true rfl)) dX11_clamp_3 ⟨(Nat.le_of_ble_eq_true rfl), (Nat.le_of_ble_eq_true rfl)⟩) (fun v1 hw2 => ?_)
  rcases hw2 with ⟨rfl, i3, hi4, hp5⟩ | ⟨rfl, hno6⟩
  · skip
    rw [hp5] at hl
    refine lv_if_eq (tgt := 13) hx hb dX11_clamp_6 (by decide) (fun h9 => by first | exact absurd h9 (by decide) | exact absurd (by decide) h9) (fun _ => ?_)
    refine lv_iconst (v := 0) hx hb dX11_clamp_9 (by decide) ?_
    refine lv_goto (tgt := 14) hx hb dX11_clamp_10 (by decide) ?_
    refine z_ciX (Xc := []) (wr := []) (rx := []) [] [] rfl rfl rfl rfl (by decide) hI (va_runV (As := [.int 0]) (rest := []) ⟨hx, hb, hml, hown, hts⟩ (c_X11_fails l D tc z0 _ κ g _ p0 hk0 0) (cwV 1 hts gX11_clamp_X11_fails rfl rfl rfl (by decide +kernel) ⟨Nat.le_of_ble_eq_true rfl, Nat.le_of_ble_eq_true rfl⟩) (z_preV (Xc := []) hK hE hI [] rfl rfl (z_recv hK hI hk0 rfl rfl)) rfl rfl hl.1 rfl (lv_room (Nat.le_of_ble_eq_true rfl)) dX11_clamp_14 ⟨(Nat.le_of_ble_eq_true rfl), (Nat.le_of_ble_eq_true rfl)⟩) (fun v7 u H locs hw8 hI => ?_)
    obtain ⟨hw8, rfl⟩ := hw8
    have hI : zI D tc _ s.heap [] L κ (zup g p0 12 (.int 0)) _ _ := hI
    have hMo := hMo.upP (j := 12) (v := .int 0) (by decide)
    obtain rfl : v7 = 0 := hw8.trans (by decide)
    refine lv_if_eq (tgt := 25) hx hb dX11_clamp_17 (by decide) (fun _ => ?_) (fun h9 => by first | exact absurd h9 (by decide) | exact absurd (by decide) h9)
    refine lv_aload_n hx hb dX11_clamp_25 rfl (lv_at hl 0 rfl) ?_
    refine z_get (k := 13) (j := 0) hM hI hk0 rfl rfl hinX11 rfl (by decide) (by decide +kernel) (fun _ h9 => h9) dX11_clamp_26 (fun v9 hv10 => ?_)
    obtain ⟨hg12, i11, rfl, hr13⟩ := hv10
    obtain rfl : lc = i11 := Value.ref.inj (hMo.gc.symm.trans hg12.symm)
    refine lv_iload_n hx hb dX11_clamp_29 rfl (lv_at hl 1 rfl) ?_
    refine va_csFq (va_runF (As := [.int ((nI i3))]) (rest := []) (hK.1 1 _ rfl).2 ⟨hx, hb, hml, hown, hts⟩ (c_Jx4a65c_get_915e3 l D tc z0 _ κ (zup g p0 12 (.int 0)) _ lc 1 eC 25 11 nC mC cf rfl hMo.LC rfl rfl i3 (by omega)) (va_cwF 1 hts gX11_clamp_Jx4a65c_get_915e3_f101Jx4a65c rfl rfl rfl (hE.2.2.1 (RJx4a65c, ⟨"java/util/List", "get", "(I)Ljava/lang/Object;"⟩, yJx4a65c_get_915e3) (by decide +kernel)) (by decide +kernel) ⟨Nat.le_of_ble_eq_true rfl, Nat.le_of_ble_eq_true rfl⟩) (z_preV (Xc := []) hK hE hI [] rfl rfl (z_recv hK hI hMo.LC.1 rfl rfl)) rfl rfl hl.1 rfl (lv_room (Nat.le_of_ble_eq_true rfl)) dX11_clamp_30 ⟨(Nat.le_of_ble_eq_true rfl), (Nat.le_of_ble_eq_true rfl)⟩) (fun r14 hw15 => ?_)
    obtain rfl := hw15
    have hr16 : κ (cf i3) = 11 := hMo.LC.el (i := i3) (by omega)
    show W p l e9 (headSpec wsX11_clamp ({ frames := 3, cells := 0, slots := 0, locals := 64 })).room s m ([.ref p0, .int p1] : List Value).toArray below meth c _ _ 0 0 (MQ below (va_Qi (fun (r : Int32) (u : zS) => ∃ v : Int32, u = (L, κ, zup g p0 12 (.int v))) (fun (u : zS) (t : State) => zB D tc (zA [] L s.heap.size) [] u t) (zA [] L s.heap.size)) ([.ref p0, .int p1] : List Value).toArray s 0 0 (zA [] L s.heap.size)) (F0 m 35 ls (.ref (cf i3) :: []))
    refine z_castS (k := 11) hM hI hr16 rfl rfl (by decide +kernel) dX11_clamp_35 ?_
    refine z_getN (host := "WattgovernModel") (k := 11) (j := 5) hM hE hI hr16 rfl rfl hinX9 rfl (by decide) (by decide +kernel) (fun _ h9 => h9) dX11_clamp_38 (fun v17 hv18 => ?_)
    obtain ⟨i19, rfl, hf20⟩ := hv18
    refine W.widen (k := 0) (n := 0) (Nat.le_of_ble_eq_true rfl) (Nat.le_of_ble_eq_true rfl) ?_
    exact W.zret (v := i19) hx hb hr (z_cn (by assumption)) (fun t ht hW => ⟨⟨_, (L, κ, (zup g p0 12 (.int 0))), rfl, ⟨_, rfl⟩, z_end hK hI ht hW⟩, z_F hI ht⟩) (z_locs hI) dX11_clamp_41
  · skip
    refine lv_if_eq (tgt := 13) hx hb dX11_clamp_6 (by decide) (fun _ => ?_) (fun h9 => by first | exact absurd h9 (by decide) | exact absurd (by decide) h9)
    refine lv_iconst (v := 1) hx hb dX11_clamp_13 (by decide) ?_
    refine z_ciX (Xc := []) (wr := []) (rx := []) [] [] rfl rfl rfl rfl (by decide) hI (va_runV (As := [.int 1]) (rest := []) ⟨hx, hb, hml, hown, hts⟩ (c_X11_fails l D tc z0 _ κ g _ p0 hk0 1) (cwV 1 hts gX11_clamp_X11_fails rfl rfl rfl (by decide +kernel) ⟨Nat.le_of_ble_eq_true rfl, Nat.le_of_ble_eq_true rfl⟩) (z_preV (Xc := []) hK hE hI [] rfl rfl (z_recv hK hI hk0 rfl rfl)) rfl rfl hl.1 rfl (lv_room (Nat.le_of_ble_eq_true rfl)) dX11_clamp_14 ⟨(Nat.le_of_ble_eq_true rfl), (Nat.le_of_ble_eq_true rfl)⟩) (fun v21 u H locs hw22 hI => ?_)
    obtain ⟨hw22, rfl⟩ := hw22
    have hI : zI D tc _ s.heap [] L κ (zup g p0 12 (.int 1)) _ _ := hI
    have hMo := hMo.upP (j := 12) (v := .int 1) (by decide)
    obtain rfl : v21 = 1 := hw22.trans (by decide)
    refine lv_if_eq (tgt := 25) hx hb dX11_clamp_17 (by decide) (fun h9 => by first | exact absurd h9 (by decide) | exact absurd (by decide) h9) (fun _ => ?_)
    refine lv_bipush (v := 32) hx hb dX11_clamp_20 (by decide) ?_
    refine lv_goto (tgt := 41) hx hb dX11_clamp_22 (by decide) ?_
    refine W.widen (k := 0) (n := 0) (Nat.le_of_ble_eq_true rfl) (Nat.le_of_ble_eq_true rfl) ?_
    exact W.zret (v := 32) hx hb hr (by decide) (fun t ht hW => ⟨⟨_, (L, κ, (zup g p0 12 (.int 1))), rfl, ⟨_, rfl⟩, z_end hK hI ht hW⟩, z_F hI ht⟩) (z_locs hI) dX11_clamp_41

set_option maxHeartbeats 4000000 in
set_option maxRecDepth 100000 in
theorem c_X11_sleep (l : Launch) (D : va_G) (tc : Nat → ClassId) (z0 : Nat) (L : List Nat) (κ : Nat → Nat) (g : Nat → Nat → Value) (sz : Nat) (p0 : Nat) (hk0 : κ p0 = 13) (p1 : Int32) (lc eC nC : Nat) (mC : Int32) (cf : Nat → Nat) (lt eT nT : Nat) (mT : Int32) (tf : Nat → Nat) (hMo : zMo κ g z0 p0 lc eC nC mC cf lt eT nT mT tf) : Met l yX11_sleep wsX11_sleep ({ frames := 3, cells := 0, slots := 0, locals := 64 }) (zPc D tc z0 [.ref p0, .int p1] [] (L, κ, g) sz) (va_Qi (fun (r : Int32) (u : zS) => ∃ v : Int32, u = (L, κ, zup g p0 12 (.int v))) (fun (u : zS) (t : State) => zB D tc (zA [] L sz) [] u t) (zA [] L sz)) 0 0 (zA [] L sz) := by
  refine Met.ofW (cc := cX11_sleep) (maxL := 2) (ret := (some .char)) (by decide) rfl ?_
  intro p e9 s m args below meth c s₁ B hml hv
  obtain ⟨rfl, rfl, hK, hE, hI⟩ := hv.opn
  have hx := B.exec
  have hb := B.bytes
  have hr := B.returns
  have hts := atoms_spec (ws := wsX11_sleep) B.pre
  have hown : s.vm.findClass RX11 = some m.cls := findClass_of_methodNamed B.named
  have hlocks := B.notSynchronized
  have hM : zM p s m c cX11_sleep _ wsX11_sleep RX11 D tc := ⟨hx, hb, hts, hown, hK⟩
  have hinX11 : ∀ w ∈ wsX110, w ∈ wsX11_sleep := by decide +kernel
  have hinX9 : ∀ w ∈ wsX90, w ∈ wsX11_sleep := by decide +kernel
  have hnC := hMo.bC
  have hnT := hMo.bT
  have hl := lv_entry ([.ref p0, .int p1]) (n := 2) (Nat.le_of_ble_eq_true rfl)
  rw [lg_entry_eq]
  generalize (lg_sl ([.ref p0, .int p1]) ++ List.replicate (2 - (lg_sl ([.ref p0, .int p1])).length) Slot.unset).toArray = ls at hl ⊢
  have hl : lv_has ls 2 [(0, .ref p0), (1, .int p1)] := hl
  refine lv_aload_n hx hb dX11_sleep_0 rfl (lv_at hl 0 rfl) ?_
  refine lv_aload_n hx hb dX11_sleep_1 rfl (lv_at hl 0 rfl) ?_
  refine lv_iload_n hx hb dX11_sleep_2 rfl (lv_at hl 1 rfl) ?_
  refine vp_callSi (W.runV (As := [.int p1]) (rest := [.ref p0]) ⟨hx, hb, hml, hown, hts⟩ (c_X11_isCore l D tc z0 _ κ g _ p0 hk0 p1 lc eC nC mC cf lt eT nT mT tf hMo) (cwV 1 hts gX11_sleep_X11_isCore rfl rfl rfl (by decide +kernel) ⟨Nat.le_of_ble_eq_true rfl, Nat.le_of_ble_eq_true rfl⟩) (z_preV (Xc := []) hK hE hI [] rfl rfl (z_recv hK hI hk0 rfl rfl)) rfl rfl hl.1 rfl (lv_room (Nat.le_of_ble_eq_true rfl)) dX11_sleep_3 ⟨(Nat.le_of_ble_eq_true rfl), (Nat.le_of_ble_eq_true rfl)⟩) (fun v1 hw2 => ?_)
  rcases hw2 with ⟨rfl, i3, hi4, hp5⟩ | ⟨rfl, hno6⟩
  · skip
    rw [hp5] at hl
    refine lv_if_eq (tgt := 13) hx hb dX11_sleep_6 (by decide) (fun h9 => by first | exact absurd h9 (by decide) | exact absurd (by decide) h9) (fun _ => ?_)
    refine lv_iconst (v := 0) hx hb dX11_sleep_9 (by decide) ?_
    refine lv_goto (tgt := 14) hx hb dX11_sleep_10 (by decide) ?_
    refine z_ciX (Xc := []) (wr := []) (rx := []) [] [] rfl rfl rfl rfl (by decide) hI (va_runV (As := [.int 0]) (rest := []) ⟨hx, hb, hml, hown, hts⟩ (c_X11_fails l D tc z0 _ κ g _ p0 hk0 0) (cwV 1 hts gX11_sleep_X11_fails rfl rfl rfl (by decide +kernel) ⟨Nat.le_of_ble_eq_true rfl, Nat.le_of_ble_eq_true rfl⟩) (z_preV (Xc := []) hK hE hI [] rfl rfl (z_recv hK hI hk0 rfl rfl)) rfl rfl hl.1 rfl (lv_room (Nat.le_of_ble_eq_true rfl)) dX11_sleep_14 ⟨(Nat.le_of_ble_eq_true rfl), (Nat.le_of_ble_eq_true rfl)⟩) (fun v7 u H locs hw8 hI => ?_)
    obtain ⟨hw8, rfl⟩ := hw8
    have hI : zI D tc _ s.heap [] L κ (zup g p0 12 (.int 0)) _ _ := hI
    have hMo := hMo.upP (j := 12) (v := .int 0) (by decide)
    obtain rfl : v7 = 0 := hw8.trans (by decide)
    refine lv_if_eq (tgt := 25) hx hb dX11_sleep_17 (by decide) (fun _ => ?_) (fun h9 => by first | exact absurd h9 (by decide) | exact absurd (by decide) h9)
    refine lv_aload_n hx hb dX11_sleep_25 rfl (lv_at hl 0 rfl) ?_
    refine z_get (k := 13) (j := 0) hM hI hk0 rfl rfl hinX11 rfl (by decide) (by decide +kernel) (fun _ h9 => h9) dX11_sleep_26 (fun v9 hv10 => ?_)
    obtain ⟨hg12, i11, rfl, hr13⟩ := hv10
    obtain rfl : lc = i11 := Value.ref.inj (hMo.gc.symm.trans hg12.symm)
    refine lv_iload_n hx hb dX11_sleep_29 rfl (lv_at hl 1 rfl) ?_
    refine va_csFq (va_runF (As := [.int ((nI i3))]) (rest := []) (hK.1 1 _ rfl).2 ⟨hx, hb, hml, hown, hts⟩ (c_Jx4a65c_get_915e3 l D tc z0 _ κ (zup g p0 12 (.int 0)) _ lc 1 eC 25 11 nC mC cf rfl hMo.LC rfl rfl i3 (by omega)) (va_cwF 1 hts gX11_sleep_Jx4a65c_get_915e3_f101Jx4a65c rfl rfl rfl (hE.2.2.1 (RJx4a65c, ⟨"java/util/List", "get", "(I)Ljava/lang/Object;"⟩, yJx4a65c_get_915e3) (by decide +kernel)) (by decide +kernel) ⟨Nat.le_of_ble_eq_true rfl, Nat.le_of_ble_eq_true rfl⟩) (z_preV (Xc := []) hK hE hI [] rfl rfl (z_recv hK hI hMo.LC.1 rfl rfl)) rfl rfl hl.1 rfl (lv_room (Nat.le_of_ble_eq_true rfl)) dX11_sleep_30 ⟨(Nat.le_of_ble_eq_true rfl), (Nat.le_of_ble_eq_true rfl)⟩) (fun r14 hw15 => ?_)
    obtain rfl := hw15
    have hr16 : κ (cf i3) = 11 := hMo.LC.el (i := i3) (by omega)
    show W p l e9 (headSpec wsX11_sleep ({ frames := 3, cells := 0, slots := 0, locals := 64 })).room s m ([.ref p0, .int p1] : List Value).toArray below meth c _ _ 0 0 (MQ below (va_Qi (fun (r : Int32) (u : zS) => ∃ v : Int32, u = (L, κ, zup g p0 12 (.int v))) (fun (u : zS) (t : State) => zB D tc (zA [] L s.heap.size) [] u t) (zA [] L s.heap.size)) ([.ref p0, .int p1] : List Value).toArray s 0 0 (zA [] L s.heap.size)) (F0 m 35 ls (.ref (cf i3) :: []))
    refine z_castS (k := 11) hM hI hr16 rfl rfl (by decide +kernel) dX11_sleep_35 ?_
    refine z_getN (host := "WattgovernModel") (k := 11) (j := 4) hM hE hI hr16 rfl rfl hinX9 rfl (by decide) (by decide +kernel) (fun _ h9 => h9) dX11_sleep_38 (fun v17 hv18 => ?_)
    obtain ⟨i19, rfl, hf20⟩ := hv18
    refine W.widen (k := 0) (n := 0) (Nat.le_of_ble_eq_true rfl) (Nat.le_of_ble_eq_true rfl) ?_
    exact W.zret (v := i19) hx hb hr (z_cn (by assumption)) (fun t ht hW => ⟨⟨_, (L, κ, (zup g p0 12 (.int 0))), rfl, ⟨_, rfl⟩, z_end hK hI ht hW⟩, z_F hI ht⟩) (z_locs hI) dX11_sleep_41
  · skip
    refine lv_if_eq (tgt := 13) hx hb dX11_sleep_6 (by decide) (fun _ => ?_) (fun h9 => by first | exact absurd h9 (by decide) | exact absurd (by decide) h9)
    refine lv_iconst (v := 1) hx hb dX11_sleep_13 (by decide) ?_
    refine z_ciX (Xc := []) (wr := []) (rx := []) [] [] rfl rfl rfl rfl (by decide) hI (va_runV (As := [.int 1]) (rest := []) ⟨hx, hb, hml, hown, hts⟩ (c_X11_fails l D tc z0 _ κ g _ p0 hk0 1) (cwV 1 hts gX11_sleep_X11_fails rfl rfl rfl (by decide +kernel) ⟨Nat.le_of_ble_eq_true rfl, Nat.le_of_ble_eq_true rfl⟩) (z_preV (Xc := []) hK hE hI [] rfl rfl (z_recv hK hI hk0 rfl rfl)) rfl rfl hl.1 rfl (lv_room (Nat.le_of_ble_eq_true rfl)) dX11_sleep_14 ⟨(Nat.le_of_ble_eq_true rfl), (Nat.le_of_ble_eq_true rfl)⟩) (fun v21 u H locs hw22 hI => ?_)
    obtain ⟨hw22, rfl⟩ := hw22
    have hI : zI D tc _ s.heap [] L κ (zup g p0 12 (.int 1)) _ _ := hI
    have hMo := hMo.upP (j := 12) (v := .int 1) (by decide)
    obtain rfl : v21 = 1 := hw22.trans (by decide)
    refine lv_if_eq (tgt := 25) hx hb dX11_sleep_17 (by decide) (fun h9 => by first | exact absurd h9 (by decide) | exact absurd (by decide) h9) (fun _ => ?_)
    refine lv_bipush (v := 32) hx hb dX11_sleep_20 (by decide) ?_
    refine lv_goto (tgt := 41) hx hb dX11_sleep_22 (by decide) ?_
    refine W.widen (k := 0) (n := 0) (Nat.le_of_ble_eq_true rfl) (Nat.le_of_ble_eq_true rfl) ?_
    exact W.zret (v := 32) hx hb hr (by decide) (fun t ht hW => ⟨⟨_, (L, κ, (zup g p0 12 (.int 1))), rfl, ⟨_, rfl⟩, z_end hK hI ht hW⟩, z_F hI ht⟩) (z_locs hI) dX11_sleep_41

set_option maxHeartbeats 4000000 in
set_option maxRecDepth 100000 in
theorem c_X11_isCold (l : Launch) (D : va_G) (tc : Nat → ClassId) (z0 : Nat) (L : List Nat) (κ : Nat → Nat) (g : Nat → Nat → Value) (sz : Nat) (p0 : Nat) (hk0 : κ p0 = 13) (p1 : Int32) (lc eC nC : Nat) (mC : Int32) (cf : Nat → Nat) (lt eT nT : Nat) (mT : Int32) (tf : Nat → Nat) (hMo : zMo κ g z0 p0 lc eC nC mC cf lt eT nT mT tf) : Met l yX11_isCold wsX11_isCold ({ frames := 3, cells := 0, slots := 0, locals := 64 }) (zPc D tc z0 [.ref p0, .int p1] [] (L, κ, g) sz) (va_Qi (fun (r : Int32) (u : zS) => ∃ v : Int32, u = (L, κ, zup g p0 12 (.int v))) (fun (u : zS) (t : State) => zB D tc (zA [] L sz) [] u t) (zA [] L sz)) 0 0 (zA [] L sz) := by
  refine Met.ofW (cc := cX11_isCold) (maxL := 2) (ret := (some .boolean)) (by decide) rfl ?_
  intro p e9 s m args below meth c s₁ B hml hv
  obtain ⟨rfl, rfl, hK, hE, hI⟩ := hv.opn
  have hx := B.exec
  have hb := B.bytes
  have hr := B.returns
  have hts := atoms_spec (ws := wsX11_isCold) B.pre
  have hown : s.vm.findClass RX11 = some m.cls := findClass_of_methodNamed B.named
  have hlocks := B.notSynchronized
  have hM : zM p s m c cX11_isCold _ wsX11_isCold RX11 D tc := ⟨hx, hb, hts, hown, hK⟩
  have hinX11 : ∀ w ∈ wsX110, w ∈ wsX11_isCold := by decide +kernel
  have hinX10 : ∀ w ∈ wsX100, w ∈ wsX11_isCold := by decide +kernel
  have hnC := hMo.bC
  have hnT := hMo.bT
  have hl := lv_entry ([.ref p0, .int p1]) (n := 2) (Nat.le_of_ble_eq_true rfl)
  rw [lg_entry_eq]
  generalize (lg_sl ([.ref p0, .int p1]) ++ List.replicate (2 - (lg_sl ([.ref p0, .int p1])).length) Slot.unset).toArray = ls at hl ⊢
  have hl : lv_has ls 2 [(0, .ref p0), (1, .int p1)] := hl
  refine lv_aload_n hx hb dX11_isCold_0 rfl (lv_at hl 0 rfl) ?_
  refine lv_aload_n hx hb dX11_isCold_1 rfl (lv_at hl 0 rfl) ?_
  refine lv_iload_n hx hb dX11_isCold_2 rfl (lv_at hl 1 rfl) ?_
  refine vp_callSi (W.runV (As := [.int p1]) (rest := [.ref p0]) ⟨hx, hb, hml, hown, hts⟩ (c_X11_isThread l D tc z0 _ κ g _ p0 hk0 p1 lc eC nC mC cf lt eT nT mT tf hMo) (cwV 1 hts gX11_isCold_X11_isThread rfl rfl rfl (by decide +kernel) ⟨Nat.le_of_ble_eq_true rfl, Nat.le_of_ble_eq_true rfl⟩) (z_preV (Xc := []) hK hE hI [] rfl rfl (z_recv hK hI hk0 rfl rfl)) rfl rfl hl.1 rfl (lv_room (Nat.le_of_ble_eq_true rfl)) dX11_isCold_3 ⟨(Nat.le_of_ble_eq_true rfl), (Nat.le_of_ble_eq_true rfl)⟩) (fun v1 hw2 => ?_)
  rcases hw2 with ⟨rfl, i3, hi4, hp5⟩ | ⟨rfl, hno6⟩
  · skip
    rw [hp5] at hl
    refine lv_if_eq (tgt := 13) hx hb dX11_isCold_6 (by decide) (fun h9 => by first | exact absurd h9 (by decide) | exact absurd (by decide) h9) (fun _ => ?_)
    refine lv_iconst (v := 0) hx hb dX11_isCold_9 (by decide) ?_
    refine lv_goto (tgt := 14) hx hb dX11_isCold_10 (by decide) ?_
    refine z_ciX (Xc := []) (wr := []) (rx := []) [] [] rfl rfl rfl rfl (by decide) hI (va_runV (As := [.int 0]) (rest := []) ⟨hx, hb, hml, hown, hts⟩ (c_X11_fails l D tc z0 _ κ g _ p0 hk0 0) (cwV 1 hts gX11_isCold_X11_fails rfl rfl rfl (by decide +kernel) ⟨Nat.le_of_ble_eq_true rfl, Nat.le_of_ble_eq_true rfl⟩) (z_preV (Xc := []) hK hE hI [] rfl rfl (z_recv hK hI hk0 rfl rfl)) rfl rfl hl.1 rfl (lv_room (Nat.le_of_ble_eq_true rfl)) dX11_isCold_14 ⟨(Nat.le_of_ble_eq_true rfl), (Nat.le_of_ble_eq_true rfl)⟩) (fun v7 u H locs hw8 hI => ?_)
    obtain ⟨hw8, rfl⟩ := hw8
    have hI : zI D tc _ s.heap [] L κ (zup g p0 12 (.int 0)) _ _ := hI
    have hMo := hMo.upP (j := 12) (v := .int 0) (by decide)
    obtain rfl : v7 = 0 := hw8.trans (by decide)
    refine lv_if_ne (tgt := 43) hx hb dX11_isCold_17 (by decide) (fun h9 => by first | exact absurd h9 (by decide) | exact absurd (by decide) h9) (fun _ => ?_)
    refine lv_aload_n hx hb dX11_isCold_20 rfl (lv_at hl 0 rfl) ?_
    refine z_get (k := 13) (j := 1) hM hI hk0 rfl rfl hinX11 rfl (by decide) (by decide +kernel) (fun _ h9 => h9) dX11_isCold_21 (fun v9 hv10 => ?_)
    obtain ⟨hg12, i11, rfl, hr13⟩ := hv10
    obtain rfl : lt = i11 := Value.ref.inj (hMo.gt.symm.trans hg12.symm)
    refine lv_iload_n hx hb dX11_isCold_24 rfl (lv_at hl 1 rfl) ?_
    refine va_csFq (va_runF (As := [.int ((nI i3))]) (rest := []) (hK.1 1 _ rfl).2 ⟨hx, hb, hml, hown, hts⟩ (c_Jx4a65c_get_915e3 l D tc z0 _ κ (zup g p0 12 (.int 0)) _ lt 14 eT 26 12 nT mT tf rfl hMo.LT rfl rfl i3 (by omega)) (va_cwF 1 hts gX11_isCold_Jx4a65c_get_915e3_f101Jx4a65c rfl rfl rfl (hE.2.2.1 (RJx4a65c, ⟨"java/util/List", "get", "(I)Ljava/lang/Object;"⟩, yJx4a65c_get_915e3) (by decide +kernel)) (by decide +kernel) ⟨Nat.le_of_ble_eq_true rfl, Nat.le_of_ble_eq_true rfl⟩) (z_preV (Xc := []) hK hE hI [] rfl rfl (z_recv hK hI hMo.LT.1 rfl rfl)) rfl rfl hl.1 rfl (lv_room (Nat.le_of_ble_eq_true rfl)) dX11_isCold_25 ⟨(Nat.le_of_ble_eq_true rfl), (Nat.le_of_ble_eq_true rfl)⟩) (fun r14 hw15 => ?_)
    obtain rfl := hw15
    have hr16 : κ (tf i3) = 12 := hMo.LT.el (i := i3) (by omega)
    show W p l e9 (headSpec wsX11_isCold ({ frames := 3, cells := 0, slots := 0, locals := 64 })).room s m ([.ref p0, .int p1] : List Value).toArray below meth c _ _ 0 0 (MQ below (va_Qi (fun (r : Int32) (u : zS) => ∃ v : Int32, u = (L, κ, zup g p0 12 (.int v))) (fun (u : zS) (t : State) => zB D tc (zA [] L s.heap.size) [] u t) (zA [] L s.heap.size)) ([.ref p0, .int p1] : List Value).toArray s 0 0 (zA [] L s.heap.size)) (F0 m 30 ls (.ref (tf i3) :: []))
    refine z_castS (k := 12) hM hI hr16 rfl rfl (by decide +kernel) dX11_isCold_30 ?_
    refine z_getN (host := "WattgovernModel") (k := 12) (j := 3) hM hE hI hr16 rfl rfl hinX10 rfl (by decide) (by decide +kernel) (fun _ h9 => h9) dX11_isCold_33 (fun v17 hv18 => ?_)
    obtain ⟨i19, rfl⟩ := hv18
    refine lv_if_le (tgt := 43) hx hb dX11_isCold_36 (by decide) (fun c20 => ?_) (fun c20 => ?_)
    · skip
      refine lv_iconst (v := 0) hx hb dX11_isCold_43 (by decide) ?_
      refine W.widen (k := 0) (n := 0) (Nat.le_of_ble_eq_true rfl) (Nat.le_of_ble_eq_true rfl) ?_
      exact W.zret (v := 0) hx hb hr (by decide) (fun t ht hW => ⟨⟨_, (L, κ, (zup g p0 12 (.int 0))), rfl, ⟨_, rfl⟩, z_end hK hI ht hW⟩, z_F hI ht⟩) (z_locs hI) dX11_isCold_44
    · skip
      refine lv_iconst (v := 1) hx hb dX11_isCold_39 (by decide) ?_
      refine lv_goto (tgt := 44) hx hb dX11_isCold_40 (by decide) ?_
      refine W.widen (k := 0) (n := 0) (Nat.le_of_ble_eq_true rfl) (Nat.le_of_ble_eq_true rfl) ?_
      exact W.zret (v := 1) hx hb hr (by decide) (fun t ht hW => ⟨⟨_, (L, κ, (zup g p0 12 (.int 0))), rfl, ⟨_, rfl⟩, z_end hK hI ht hW⟩, z_F hI ht⟩) (z_locs hI) dX11_isCold_44
  · skip
    refine lv_if_eq (tgt := 13) hx hb dX11_isCold_6 (by decide) (fun _ => ?_) (fun h9 => by first | exact absurd h9 (by decide) | exact absurd (by decide) h9)
    refine lv_iconst (v := 1) hx hb dX11_isCold_13 (by decide) ?_
    refine z_ciX (Xc := []) (wr := []) (rx := []) [] [] rfl rfl rfl rfl (by decide) hI (va_runV (As := [.int 1]) (rest := []) ⟨hx, hb, hml, hown, hts⟩ (c_X11_fails l D tc z0 _ κ g _ p0 hk0 1) (cwV 1 hts gX11_isCold_X11_fails rfl rfl rfl (by decide +kernel) ⟨Nat.le_of_ble_eq_true rfl, Nat.le_of_ble_eq_true rfl⟩) (z_preV (Xc := []) hK hE hI [] rfl rfl (z_recv hK hI hk0 rfl rfl)) rfl rfl hl.1 rfl (lv_room (Nat.le_of_ble_eq_true rfl)) dX11_isCold_14 ⟨(Nat.le_of_ble_eq_true rfl), (Nat.le_of_ble_eq_true rfl)⟩) (fun v21 u H locs hw22 hI => ?_)
    obtain ⟨hw22, rfl⟩ := hw22
    have hI : zI D tc _ s.heap [] L κ (zup g p0 12 (.int 1)) _ _ := hI
    have hMo := hMo.upP (j := 12) (v := .int 1) (by decide)
    obtain rfl : v21 = 1 := hw22.trans (by decide)
    refine lv_if_ne (tgt := 43) hx hb dX11_isCold_17 (by decide) (fun _ => ?_) (fun h9 => by first | exact absurd h9 (by decide) | exact absurd (by decide) h9)
    refine lv_iconst (v := 0) hx hb dX11_isCold_43 (by decide) ?_
    refine W.widen (k := 0) (n := 0) (Nat.le_of_ble_eq_true rfl) (Nat.le_of_ble_eq_true rfl) ?_
    exact W.zret (v := 0) hx hb hr (by decide) (fun t ht hW => ⟨⟨_, (L, κ, (zup g p0 12 (.int 1))), rfl, ⟨_, rfl⟩, z_end hK hI ht hW⟩, z_F hI ht⟩) (z_locs hI) dX11_isCold_44

set_option maxHeartbeats 4000000 in
set_option maxRecDepth 100000 in
theorem c_X11_isTripped (l : Launch) (D : va_G) (tc : Nat → ClassId) (z0 : Nat) (L : List Nat) (κ : Nat → Nat) (g : Nat → Nat → Value) (sz : Nat) (p0 : Nat) (hk0 : κ p0 = 13) (p1 : Int32) (lc eC nC : Nat) (mC : Int32) (cf : Nat → Nat) (lt eT nT : Nat) (mT : Int32) (tf : Nat → Nat) (hMo : zMo κ g z0 p0 lc eC nC mC cf lt eT nT mT tf) : Met l yX11_isTripped wsX11_isTripped ({ frames := 3, cells := 0, slots := 0, locals := 64 }) (zPc D tc z0 [.ref p0, .int p1] [] (L, κ, g) sz) (va_Qi (fun (r : Int32) (u : zS) => ∃ v : Int32, u = (L, κ, zup g p0 12 (.int v))) (fun (u : zS) (t : State) => zB D tc (zA [] L sz) [] u t) (zA [] L sz)) 0 0 (zA [] L sz) := by
  refine Met.ofW (cc := cX11_isTripped) (maxL := 2) (ret := (some .boolean)) (by decide) rfl ?_
  intro p e9 s m args below meth c s₁ B hml hv
  obtain ⟨rfl, rfl, hK, hE, hI⟩ := hv.opn
  have hx := B.exec
  have hb := B.bytes
  have hr := B.returns
  have hts := atoms_spec (ws := wsX11_isTripped) B.pre
  have hown : s.vm.findClass RX11 = some m.cls := findClass_of_methodNamed B.named
  have hlocks := B.notSynchronized
  have hM : zM p s m c cX11_isTripped _ wsX11_isTripped RX11 D tc := ⟨hx, hb, hts, hown, hK⟩
  have hinX11 : ∀ w ∈ wsX110, w ∈ wsX11_isTripped := by decide +kernel
  have hinX9 : ∀ w ∈ wsX90, w ∈ wsX11_isTripped := by decide +kernel
  have hnC := hMo.bC
  have hnT := hMo.bT
  have hl := lv_entry ([.ref p0, .int p1]) (n := 2) (Nat.le_of_ble_eq_true rfl)
  rw [lg_entry_eq]
  generalize (lg_sl ([.ref p0, .int p1]) ++ List.replicate (2 - (lg_sl ([.ref p0, .int p1])).length) Slot.unset).toArray = ls at hl ⊢
  have hl : lv_has ls 2 [(0, .ref p0), (1, .int p1)] := hl
  refine lv_aload_n hx hb dX11_isTripped_0 rfl (lv_at hl 0 rfl) ?_
  refine lv_aload_n hx hb dX11_isTripped_1 rfl (lv_at hl 0 rfl) ?_
  refine lv_iload_n hx hb dX11_isTripped_2 rfl (lv_at hl 1 rfl) ?_
  refine vp_callSi (W.runV (As := [.int p1]) (rest := [.ref p0]) ⟨hx, hb, hml, hown, hts⟩ (c_X11_isCore l D tc z0 _ κ g _ p0 hk0 p1 lc eC nC mC cf lt eT nT mT tf hMo) (cwV 1 hts gX11_isTripped_X11_isCore rfl rfl rfl (by decide +kernel) ⟨Nat.le_of_ble_eq_true rfl, Nat.le_of_ble_eq_true rfl⟩) (z_preV (Xc := []) hK hE hI [] rfl rfl (z_recv hK hI hk0 rfl rfl)) rfl rfl hl.1 rfl (lv_room (Nat.le_of_ble_eq_true rfl)) dX11_isTripped_3 ⟨(Nat.le_of_ble_eq_true rfl), (Nat.le_of_ble_eq_true rfl)⟩) (fun v1 hw2 => ?_)
  rcases hw2 with ⟨rfl, i3, hi4, hp5⟩ | ⟨rfl, hno6⟩
  · skip
    rw [hp5] at hl
    refine lv_if_eq (tgt := 13) hx hb dX11_isTripped_6 (by decide) (fun h9 => by first | exact absurd h9 (by decide) | exact absurd (by decide) h9) (fun _ => ?_)
    refine lv_iconst (v := 0) hx hb dX11_isTripped_9 (by decide) ?_
    refine lv_goto (tgt := 14) hx hb dX11_isTripped_10 (by decide) ?_
    refine z_ciX (Xc := []) (wr := []) (rx := []) [] [] rfl rfl rfl rfl (by decide) hI (va_runV (As := [.int 0]) (rest := []) ⟨hx, hb, hml, hown, hts⟩ (c_X11_fails l D tc z0 _ κ g _ p0 hk0 0) (cwV 1 hts gX11_isTripped_X11_fails rfl rfl rfl (by decide +kernel) ⟨Nat.le_of_ble_eq_true rfl, Nat.le_of_ble_eq_true rfl⟩) (z_preV (Xc := []) hK hE hI [] rfl rfl (z_recv hK hI hk0 rfl rfl)) rfl rfl hl.1 rfl (lv_room (Nat.le_of_ble_eq_true rfl)) dX11_isTripped_14 ⟨(Nat.le_of_ble_eq_true rfl), (Nat.le_of_ble_eq_true rfl)⟩) (fun v7 u H locs hw8 hI => ?_)
    obtain ⟨hw8, rfl⟩ := hw8
    have hI : zI D tc _ s.heap [] L κ (zup g p0 12 (.int 0)) _ _ := hI
    have hMo := hMo.upP (j := 12) (v := .int 0) (by decide)
    obtain rfl : v7 = 0 := hw8.trans (by decide)
    refine lv_if_ne (tgt := 43) hx hb dX11_isTripped_17 (by decide) (fun h9 => by first | exact absurd h9 (by decide) | exact absurd (by decide) h9) (fun _ => ?_)
    refine lv_aload_n hx hb dX11_isTripped_20 rfl (lv_at hl 0 rfl) ?_
    refine z_get (k := 13) (j := 0) hM hI hk0 rfl rfl hinX11 rfl (by decide) (by decide +kernel) (fun _ h9 => h9) dX11_isTripped_21 (fun v9 hv10 => ?_)
    obtain ⟨hg12, i11, rfl, hr13⟩ := hv10
    obtain rfl : lc = i11 := Value.ref.inj (hMo.gc.symm.trans hg12.symm)
    refine lv_iload_n hx hb dX11_isTripped_24 rfl (lv_at hl 1 rfl) ?_
    refine va_csFq (va_runF (As := [.int ((nI i3))]) (rest := []) (hK.1 1 _ rfl).2 ⟨hx, hb, hml, hown, hts⟩ (c_Jx4a65c_get_915e3 l D tc z0 _ κ (zup g p0 12 (.int 0)) _ lc 1 eC 25 11 nC mC cf rfl hMo.LC rfl rfl i3 (by omega)) (va_cwF 1 hts gX11_isTripped_Jx4a65c_get_915e3_f101Jx4a65c rfl rfl rfl (hE.2.2.1 (RJx4a65c, ⟨"java/util/List", "get", "(I)Ljava/lang/Object;"⟩, yJx4a65c_get_915e3) (by decide +kernel)) (by decide +kernel) ⟨Nat.le_of_ble_eq_true rfl, Nat.le_of_ble_eq_true rfl⟩) (z_preV (Xc := []) hK hE hI [] rfl rfl (z_recv hK hI hMo.LC.1 rfl rfl)) rfl rfl hl.1 rfl (lv_room (Nat.le_of_ble_eq_true rfl)) dX11_isTripped_25 ⟨(Nat.le_of_ble_eq_true rfl), (Nat.le_of_ble_eq_true rfl)⟩) (fun r14 hw15 => ?_)
    obtain rfl := hw15
    have hr16 : κ (cf i3) = 11 := hMo.LC.el (i := i3) (by omega)
    show W p l e9 (headSpec wsX11_isTripped ({ frames := 3, cells := 0, slots := 0, locals := 64 })).room s m ([.ref p0, .int p1] : List Value).toArray below meth c _ _ 0 0 (MQ below (va_Qi (fun (r : Int32) (u : zS) => ∃ v : Int32, u = (L, κ, zup g p0 12 (.int v))) (fun (u : zS) (t : State) => zB D tc (zA [] L s.heap.size) [] u t) (zA [] L s.heap.size)) ([.ref p0, .int p1] : List Value).toArray s 0 0 (zA [] L s.heap.size)) (F0 m 30 ls (.ref (cf i3) :: []))
    refine z_castS (k := 11) hM hI hr16 rfl rfl (by decide +kernel) dX11_isTripped_30 ?_
    refine z_getN (host := "WattgovernModel") (k := 11) (j := 16) hM hE hI hr16 rfl rfl hinX9 rfl (by decide) (by decide +kernel) (fun _ h9 => h9) dX11_isTripped_33 (fun v17 hv18 => ?_)
    obtain ⟨i19, rfl, hz20⟩ := zv_b hv18
    refine lv_if_eq (tgt := 43) hx hb dX11_isTripped_36 (by decide) (fun c21 => ?_) (fun c21 => ?_)
    · skip
      refine lv_iconst (v := 0) hx hb dX11_isTripped_43 (by decide) ?_
      refine W.widen (k := 0) (n := 0) (Nat.le_of_ble_eq_true rfl) (Nat.le_of_ble_eq_true rfl) ?_
      exact W.zret (v := 0) hx hb hr (by decide) (fun t ht hW => ⟨⟨_, (L, κ, (zup g p0 12 (.int 0))), rfl, ⟨_, rfl⟩, z_end hK hI ht hW⟩, z_F hI ht⟩) (z_locs hI) dX11_isTripped_44
    · skip
      refine lv_iconst (v := 1) hx hb dX11_isTripped_39 (by decide) ?_
      refine lv_goto (tgt := 44) hx hb dX11_isTripped_40 (by decide) ?_
      refine W.widen (k := 0) (n := 0) (Nat.le_of_ble_eq_true rfl) (Nat.le_of_ble_eq_true rfl) ?_
      exact W.zret (v := 1) hx hb hr (by decide) (fun t ht hW => ⟨⟨_, (L, κ, (zup g p0 12 (.int 0))), rfl, ⟨_, rfl⟩, z_end hK hI ht hW⟩, z_F hI ht⟩) (z_locs hI) dX11_isTripped_44
  · skip
    refine lv_if_eq (tgt := 13) hx hb dX11_isTripped_6 (by decide) (fun _ => ?_) (fun h9 => by first | exact absurd h9 (by decide) | exact absurd (by decide) h9)
    refine lv_iconst (v := 1) hx hb dX11_isTripped_13 (by decide) ?_
    refine z_ciX (Xc := []) (wr := []) (rx := []) [] [] rfl rfl rfl rfl (by decide) hI (va_runV (As := [.int 1]) (rest := []) ⟨hx, hb, hml, hown, hts⟩ (c_X11_fails l D tc z0 _ κ g _ p0 hk0 1) (cwV 1 hts gX11_isTripped_X11_fails rfl rfl rfl (by decide +kernel) ⟨Nat.le_of_ble_eq_true rfl, Nat.le_of_ble_eq_true rfl⟩) (z_preV (Xc := []) hK hE hI [] rfl rfl (z_recv hK hI hk0 rfl rfl)) rfl rfl hl.1 rfl (lv_room (Nat.le_of_ble_eq_true rfl)) dX11_isTripped_14 ⟨(Nat.le_of_ble_eq_true rfl), (Nat.le_of_ble_eq_true rfl)⟩) (fun v22 u H locs hw23 hI => ?_)
    obtain ⟨hw23, rfl⟩ := hw23
    have hI : zI D tc _ s.heap [] L κ (zup g p0 12 (.int 1)) _ _ := hI
    have hMo := hMo.upP (j := 12) (v := .int 1) (by decide)
    obtain rfl : v22 = 1 := hw23.trans (by decide)
    refine lv_if_ne (tgt := 43) hx hb dX11_isTripped_17 (by decide) (fun _ => ?_) (fun h9 => by first | exact absurd h9 (by decide) | exact absurd (by decide) h9)
    refine lv_iconst (v := 0) hx hb dX11_isTripped_43 (by decide) ?_
    refine W.widen (k := 0) (n := 0) (Nat.le_of_ble_eq_true rfl) (Nat.le_of_ble_eq_true rfl) ?_
    exact W.zret (v := 0) hx hb hr (by decide) (fun t ht hW => ⟨⟨_, (L, κ, (zup g p0 12 (.int 1))), rfl, ⟨_, rfl⟩, z_end hK hI ht hW⟩, z_F hI ht⟩) (z_locs hI) dX11_isTripped_44

set_option maxHeartbeats 4000000 in
set_option maxRecDepth 100000 in
theorem c_X11_isRetired (l : Launch) (D : va_G) (tc : Nat → ClassId) (z0 : Nat) (L : List Nat) (κ : Nat → Nat) (g : Nat → Nat → Value) (sz : Nat) (p0 : Nat) (hk0 : κ p0 = 13) (p1 : Int32) (lc eC nC : Nat) (mC : Int32) (cf : Nat → Nat) (lt eT nT : Nat) (mT : Int32) (tf : Nat → Nat) (hMo : zMo κ g z0 p0 lc eC nC mC cf lt eT nT mT tf) : Met l yX11_isRetired wsX11_isRetired ({ frames := 3, cells := 0, slots := 0, locals := 64 }) (zPc D tc z0 [.ref p0, .int p1] [] (L, κ, g) sz) (va_Qi (fun (r : Int32) (u : zS) => ∃ v : Int32, u = (L, κ, zup g p0 12 (.int v))) (fun (u : zS) (t : State) => zB D tc (zA [] L sz) [] u t) (zA [] L sz)) 0 0 (zA [] L sz) := by
  refine Met.ofW (cc := cX11_isRetired) (maxL := 2) (ret := (some .boolean)) (by decide) rfl ?_
  intro p e9 s m args below meth c s₁ B hml hv
  obtain ⟨rfl, rfl, hK, hE, hI⟩ := hv.opn
  have hx := B.exec
  have hb := B.bytes
  have hr := B.returns
  have hts := atoms_spec (ws := wsX11_isRetired) B.pre
  have hown : s.vm.findClass RX11 = some m.cls := findClass_of_methodNamed B.named
  have hlocks := B.notSynchronized
  have hM : zM p s m c cX11_isRetired _ wsX11_isRetired RX11 D tc := ⟨hx, hb, hts, hown, hK⟩
  have hinX11 : ∀ w ∈ wsX110, w ∈ wsX11_isRetired := by decide +kernel
  have hnC := hMo.bC
  have hnT := hMo.bT
  have hl := lv_entry ([.ref p0, .int p1]) (n := 2) (Nat.le_of_ble_eq_true rfl)
  rw [lg_entry_eq]
  generalize (lg_sl ([.ref p0, .int p1]) ++ List.replicate (2 - (lg_sl ([.ref p0, .int p1])).length) Slot.unset).toArray = ls at hl ⊢
  have hl : lv_has ls 2 [(0, .ref p0), (1, .int p1)] := hl
  refine lv_aload_n hx hb dX11_isRetired_0 rfl (lv_at hl 0 rfl) ?_
  refine lv_aload_n hx hb dX11_isRetired_1 rfl (lv_at hl 0 rfl) ?_
  refine lv_iload_n hx hb dX11_isRetired_2 rfl (lv_at hl 1 rfl) ?_
  refine vp_callSi (W.runV (As := [.int p1]) (rest := [.ref p0]) ⟨hx, hb, hml, hown, hts⟩ (c_X11_isCore l D tc z0 _ κ g _ p0 hk0 p1 lc eC nC mC cf lt eT nT mT tf hMo) (cwV 1 hts gX11_isRetired_X11_isCore rfl rfl rfl (by decide +kernel) ⟨Nat.le_of_ble_eq_true rfl, Nat.le_of_ble_eq_true rfl⟩) (z_preV (Xc := []) hK hE hI [] rfl rfl (z_recv hK hI hk0 rfl rfl)) rfl rfl hl.1 rfl (lv_room (Nat.le_of_ble_eq_true rfl)) dX11_isRetired_3 ⟨(Nat.le_of_ble_eq_true rfl), (Nat.le_of_ble_eq_true rfl)⟩) (fun v1 hw2 => ?_)
  rcases hw2 with ⟨rfl, i3, hi4, hp5⟩ | ⟨rfl, hno6⟩
  · skip
    rw [hp5] at hl
    refine lv_if_eq (tgt := 13) hx hb dX11_isRetired_6 (by decide) (fun h9 => by first | exact absurd h9 (by decide) | exact absurd (by decide) h9) (fun _ => ?_)
    refine lv_iconst (v := 0) hx hb dX11_isRetired_9 (by decide) ?_
    refine lv_goto (tgt := 14) hx hb dX11_isRetired_10 (by decide) ?_
    refine z_ciX (Xc := []) (wr := []) (rx := []) [] [] rfl rfl rfl rfl (by decide) hI (va_runV (As := [.int 0]) (rest := []) ⟨hx, hb, hml, hown, hts⟩ (c_X11_fails l D tc z0 _ κ g _ p0 hk0 0) (cwV 1 hts gX11_isRetired_X11_fails rfl rfl rfl (by decide +kernel) ⟨Nat.le_of_ble_eq_true rfl, Nat.le_of_ble_eq_true rfl⟩) (z_preV (Xc := []) hK hE hI [] rfl rfl (z_recv hK hI hk0 rfl rfl)) rfl rfl hl.1 rfl (lv_room (Nat.le_of_ble_eq_true rfl)) dX11_isRetired_14 ⟨(Nat.le_of_ble_eq_true rfl), (Nat.le_of_ble_eq_true rfl)⟩) (fun v7 u H locs hw8 hI => ?_)
    obtain ⟨hw8, rfl⟩ := hw8
    have hI : zI D tc _ s.heap [] L κ (zup g p0 12 (.int 0)) _ _ := hI
    have hMo := hMo.upP (j := 12) (v := .int 0) (by decide)
    obtain rfl : v7 = 0 := hw8.trans (by decide)
    refine lv_if_ne (tgt := 43) hx hb dX11_isRetired_17 (by decide) (fun h9 => by first | exact absurd h9 (by decide) | exact absurd (by decide) h9) (fun _ => ?_)
    refine lv_aload_n hx hb dX11_isRetired_20 rfl (lv_at hl 0 rfl) ?_
    refine z_get (k := 13) (j := 0) hM hI hk0 rfl rfl hinX11 rfl (by decide) (by decide +kernel) (fun _ h9 => h9) dX11_isRetired_21 (fun v9 hv10 => ?_)
    obtain ⟨hg12, i11, rfl, hr13⟩ := hv10
    obtain rfl : lc = i11 := Value.ref.inj (hMo.gc.symm.trans hg12.symm)
    refine lv_iload_n hx hb dX11_isRetired_24 rfl (lv_at hl 1 rfl) ?_
    refine va_csFq (va_runF (As := [.int ((nI i3))]) (rest := []) (hK.1 1 _ rfl).2 ⟨hx, hb, hml, hown, hts⟩ (c_Jx4a65c_get_915e3 l D tc z0 _ κ (zup g p0 12 (.int 0)) _ lc 1 eC 25 11 nC mC cf rfl hMo.LC rfl rfl i3 (by omega)) (va_cwF 1 hts gX11_isRetired_Jx4a65c_get_915e3_f101Jx4a65c rfl rfl rfl (hE.2.2.1 (RJx4a65c, ⟨"java/util/List", "get", "(I)Ljava/lang/Object;"⟩, yJx4a65c_get_915e3) (by decide +kernel)) (by decide +kernel) ⟨Nat.le_of_ble_eq_true rfl, Nat.le_of_ble_eq_true rfl⟩) (z_preV (Xc := []) hK hE hI [] rfl rfl (z_recv hK hI hMo.LC.1 rfl rfl)) rfl rfl hl.1 rfl (lv_room (Nat.le_of_ble_eq_true rfl)) dX11_isRetired_25 ⟨(Nat.le_of_ble_eq_true rfl), (Nat.le_of_ble_eq_true rfl)⟩) (fun r14 hw15 => ?_)
    obtain rfl := hw15
    have hr16 : κ (cf i3) = 11 := hMo.LC.el (i := i3) (by omega)
    show W p l e9 (headSpec wsX11_isRetired ({ frames := 3, cells := 0, slots := 0, locals := 64 })).room s m ([.ref p0, .int p1] : List Value).toArray below meth c _ _ 0 0 (MQ below (va_Qi (fun (r : Int32) (u : zS) => ∃ v : Int32, u = (L, κ, zup g p0 12 (.int v))) (fun (u : zS) (t : State) => zB D tc (zA [] L s.heap.size) [] u t) (zA [] L s.heap.size)) ([.ref p0, .int p1] : List Value).toArray s 0 0 (zA [] L s.heap.size)) (F0 m 30 ls (.ref (cf i3) :: []))
    refine z_castS (k := 11) hM hI hr16 rfl rfl (by decide +kernel) dX11_isRetired_30 ?_
    refine vp_callSi (va_Run.run (va_runVN (As := []) (rest := []) ⟨hx, hb, hml, hown, hts⟩ (c_X9_isRetired l D tc z0 _ κ (zup g p0 12 (.int 0)) _ ((cf i3)) hr16) ⟨va_cnB 0 hts gX11_isRetired_X9_isRetired_n208 rfl rfl rfl (hE.1 (.methodLinkNest RX11 208 yX9_isRetired "WattgovernModel") (by decide +kernel) rfl) (hts (.initialized yX9_isRetired.cls) (by decide +kernel)) (by decide +kernel) ⟨Nat.le_of_ble_eq_true rfl, Nat.le_of_ble_eq_true rfl⟩, hts (.instanceMethod yX9_isRetired) (by decide +kernel), hts (.selects RX9 yX9_isRetired yX9_isRetired) (by decide +kernel)⟩ (z_preV (Xc := []) hK hE hI [] rfl rfl (z_recv hK hI hr16 rfl rfl)) rfl rfl hl.1 rfl (lv_room (Nat.le_of_ble_eq_true rfl)) dX11_isRetired_33 ⟨(Nat.le_of_ble_eq_true rfl), (Nat.le_of_ble_eq_true rfl)⟩)) (fun v17 hw18 => ?_)
    refine lv_if_eq (tgt := 43) hx hb dX11_isRetired_36 (by decide) (fun c19 => ?_) (fun c19 => ?_)
    · skip
      refine lv_iconst (v := 0) hx hb dX11_isRetired_43 (by decide) ?_
      refine W.widen (k := 0) (n := 0) (Nat.le_of_ble_eq_true rfl) (Nat.le_of_ble_eq_true rfl) ?_
      exact W.zret (v := 0) hx hb hr (by decide) (fun t ht hW => ⟨⟨_, (L, κ, (zup g p0 12 (.int 0))), rfl, ⟨_, rfl⟩, z_end hK hI ht hW⟩, z_F hI ht⟩) (z_locs hI) dX11_isRetired_44
    · skip
      refine lv_iconst (v := 1) hx hb dX11_isRetired_39 (by decide) ?_
      refine lv_goto (tgt := 44) hx hb dX11_isRetired_40 (by decide) ?_
      refine W.widen (k := 0) (n := 0) (Nat.le_of_ble_eq_true rfl) (Nat.le_of_ble_eq_true rfl) ?_
      exact W.zret (v := 1) hx hb hr (by decide) (fun t ht hW => ⟨⟨_, (L, κ, (zup g p0 12 (.int 0))), rfl, ⟨_, rfl⟩, z_end hK hI ht hW⟩, z_F hI ht⟩) (z_locs hI) dX11_isRetired_44
  · skip
    refine lv_if_eq (tgt := 13) hx hb dX11_isRetired_6 (by decide) (fun _ => ?_) (fun h9 => by first | exact absurd h9 (by decide) | exact absurd (by decide) h9)
    refine lv_iconst (v := 1) hx hb dX11_isRetired_13 (by decide) ?_
    refine z_ciX (Xc := []) (wr := []) (rx := []) [] [] rfl rfl rfl rfl (by decide) hI (va_runV (As := [.int 1]) (rest := []) ⟨hx, hb, hml, hown, hts⟩ (c_X11_fails l D tc z0 _ κ g _ p0 hk0 1) (cwV 1 hts gX11_isRetired_X11_fails rfl rfl rfl (by decide +kernel) ⟨Nat.le_of_ble_eq_true rfl, Nat.le_of_ble_eq_true rfl⟩) (z_preV (Xc := []) hK hE hI [] rfl rfl (z_recv hK hI hk0 rfl rfl)) rfl rfl hl.1 rfl (lv_room (Nat.le_of_ble_eq_true rfl)) dX11_isRetired_14 ⟨(Nat.le_of_ble_eq_true rfl), (Nat.le_of_ble_eq_true rfl)⟩) (fun v20 u H locs hw21 hI => ?_)
    obtain ⟨hw21, rfl⟩ := hw21
    have hI : zI D tc _ s.heap [] L κ (zup g p0 12 (.int 1)) _ _ := hI
    have hMo := hMo.upP (j := 12) (v := .int 1) (by decide)
    obtain rfl : v20 = 1 := hw21.trans (by decide)
    refine lv_if_ne (tgt := 43) hx hb dX11_isRetired_17 (by decide) (fun _ => ?_) (fun h9 => by first | exact absurd h9 (by decide) | exact absurd (by decide) h9)
    refine lv_iconst (v := 0) hx hb dX11_isRetired_43 (by decide) ?_
    refine W.widen (k := 0) (n := 0) (Nat.le_of_ble_eq_true rfl) (Nat.le_of_ble_eq_true rfl) ?_
    exact W.zret (v := 0) hx hb hr (by decide) (fun t ht hW => ⟨⟨_, (L, κ, (zup g p0 12 (.int 1))), rfl, ⟨_, rfl⟩, z_end hK hI ht hW⟩, z_F hI ht⟩) (z_locs hI) dX11_isRetired_44

set_option maxHeartbeats 4000000 in
set_option maxRecDepth 100000 in
theorem c_X11_isBusy (l : Launch) (D : va_G) (tc : Nat → ClassId) (z0 : Nat) (L : List Nat) (κ : Nat → Nat) (g : Nat → Nat → Value) (sz : Nat) (p0 : Nat) (hk0 : κ p0 = 13) (p1 : Int32) (lc eC nC : Nat) (mC : Int32) (cf : Nat → Nat) (lt eT nT : Nat) (mT : Int32) (tf : Nat → Nat) (hMo : zMo κ g z0 p0 lc eC nC mC cf lt eT nT mT tf) : Met l yX11_isBusy wsX11_isBusy ({ frames := 4, cells := 1, slots := 4, locals := 84 }) (zPc D tc z0 [.ref p0, .int p1] [] (L, κ, g) sz) (va_Qi (fun (r : Int32) (u : zS) => ∃ v : Int32, u = (L, κ, zup g p0 12 (.int v))) (fun (u : zS) (t : State) => zB D tc (zA [] L sz) [] u t) (zA [] L sz)) 1 4 (zA [] L sz) := by
  refine Met.ofW (cc := cX11_isBusy) (maxL := 2) (ret := (some .boolean)) (by decide) rfl ?_
  intro p e9 s m args below meth c s₁ B hml hv
  obtain ⟨rfl, rfl, hK, hE, hI⟩ := hv.opn
  have hx := B.exec
  have hb := B.bytes
  have hr := B.returns
  have hts := atoms_spec (ws := wsX11_isBusy) B.pre
  have hown : s.vm.findClass RX11 = some m.cls := findClass_of_methodNamed B.named
  have hlocks := B.notSynchronized
  have hM : zM p s m c cX11_isBusy _ wsX11_isBusy RX11 D tc := ⟨hx, hb, hts, hown, hK⟩
  skip
  have hnC := hMo.bC
  have hnT := hMo.bT
  have hl := lv_entry ([.ref p0, .int p1]) (n := 2) (Nat.le_of_ble_eq_true rfl)
  rw [lg_entry_eq]
  generalize (lg_sl ([.ref p0, .int p1]) ++ List.replicate (2 - (lg_sl ([.ref p0, .int p1])).length) Slot.unset).toArray = ls at hl ⊢
  have hl : lv_has ls 2 [(0, .ref p0), (1, .int p1)] := hl
  refine lv_aload_n hx hb dX11_isBusy_0 rfl (lv_at hl 0 rfl) ?_
  refine lv_aload_n hx hb dX11_isBusy_1 rfl (lv_at hl 0 rfl) ?_
  refine lv_iload_n hx hb dX11_isBusy_2 rfl (lv_at hl 1 rfl) ?_
  refine vp_callSi (W.runV (As := [.int p1]) (rest := [.ref p0]) ⟨hx, hb, hml, hown, hts⟩ (c_X11_isCore l D tc z0 _ κ g _ p0 hk0 p1 lc eC nC mC cf lt eT nT mT tf hMo) (cwV 1 hts gX11_isBusy_X11_isCore rfl rfl rfl (by decide +kernel) ⟨Nat.le_of_ble_eq_true rfl, Nat.le_of_ble_eq_true rfl⟩) (z_preV (Xc := []) hK hE hI [] rfl rfl (z_recv hK hI hk0 rfl rfl)) rfl rfl hl.1 rfl (lv_room (Nat.le_of_ble_eq_true rfl)) dX11_isBusy_3 ⟨(Nat.le_of_ble_eq_true rfl), (Nat.le_of_ble_eq_true rfl)⟩) (fun v1 hw2 => ?_)
  rcases hw2 with ⟨rfl, i3, hi4, hp5⟩ | ⟨rfl, hno6⟩
  · skip
    rw [hp5] at hl
    refine lv_if_eq (tgt := 13) hx hb dX11_isBusy_6 (by decide) (fun h9 => by first | exact absurd h9 (by decide) | exact absurd (by decide) h9) (fun _ => ?_)
    refine lv_iconst (v := 0) hx hb dX11_isBusy_9 (by decide) ?_
    refine lv_goto (tgt := 14) hx hb dX11_isBusy_10 (by decide) ?_
    refine z_ciX (Xc := []) (wr := []) (rx := []) [] [] rfl rfl rfl rfl (by decide) hI (va_runV (As := [.int 0]) (rest := []) ⟨hx, hb, hml, hown, hts⟩ (c_X11_fails l D tc z0 _ κ g _ p0 hk0 0) (cwV 1 hts gX11_isBusy_X11_fails rfl rfl rfl (by decide +kernel) ⟨Nat.le_of_ble_eq_true rfl, Nat.le_of_ble_eq_true rfl⟩) (z_preV (Xc := []) hK hE hI [] rfl rfl (z_recv hK hI hk0 rfl rfl)) rfl rfl hl.1 rfl (lv_room (Nat.le_of_ble_eq_true rfl)) dX11_isBusy_14 ⟨(Nat.le_of_ble_eq_true rfl), (Nat.le_of_ble_eq_true rfl)⟩) (fun v7 u H locs hw8 hI => ?_)
    obtain ⟨hw8, rfl⟩ := hw8
    have hI : zI D tc _ s.heap [] L κ (zup g p0 12 (.int 0)) _ _ := hI
    have hMo := hMo.upP (j := 12) (v := .int 0) (by decide)
    obtain rfl : v7 = 0 := hw8.trans (by decide)
    refine lv_if_ne (tgt := 32) hx hb dX11_isBusy_17 (by decide) (fun h9 => by first | exact absurd h9 (by decide) | exact absurd (by decide) h9) (fun _ => ?_)
    refine lv_aload_n hx hb dX11_isBusy_20 rfl (lv_at hl 0 rfl) ?_
    refine lv_iload_n hx hb dX11_isBusy_21 rfl (lv_at hl 1 rfl) ?_
    refine z_cqX (sel := fun u : zS => u) (rxf := fun _ => []) (Xc := []) (wr := []) [] [] rfl rfl rfl rfl (by decide) hI (va_runV (As := [.int ((nI i3))]) (rest := []) ⟨hx, hb, hml, hown, hts⟩ (c_X11_running l D tc z0 _ κ (zup g p0 12 (.int 0)) _ p0 hk0 ((nI i3)) lc eC nC mC cf lt eT nT mT tf hMo) (cwV 1 hts gX11_isBusy_X11_running rfl rfl rfl (by decide +kernel) ⟨Nat.le_of_ble_eq_true rfl, Nat.le_of_ble_eq_true rfl⟩) (z_preV (Xc := []) hK hE hI [] rfl rfl (z_recv hK hI hk0 rfl rfl)) rfl rfl hl.1 rfl (lv_room (Nat.le_of_ble_eq_true rfl)) dX11_isBusy_22 ⟨(Nat.le_of_ble_eq_true rfl), (Nat.le_of_ble_eq_true rfl)⟩) (fun v9 u H locs hw10 hI => ?_)
    obtain ⟨hw10, rfl⟩ := hw10
    have hI : zI D tc _ s.heap [] L κ (zup g p0 12 (.int 0)) _ _ := hI
    rcases v9 with _ | r11
    · show W p l e9 (headSpec wsX11_isBusy ({ frames := 4, cells := 1, slots := 4, locals := 84 })).room s m ([.ref p0, .int p1] : List Value).toArray below meth c _ _ _ _ (MQ below (va_Qi (fun (r : Int32) (u : zS) => ∃ v : Int32, u = (L, κ, zup g p0 12 (.int v))) (fun (u : zS) (t : State) => zB D tc (zA [] L s.heap.size) [] u t) (zA [] L s.heap.size)) ([.ref p0, .int p1] : List Value).toArray s 1 4 (zA [] L s.heap.size)) (F0 m 25 ls (.null :: []))
      refine W.widen (k := 1) (n := 4) (Nat.le_refl _) (Nat.le_refl _) ?_
      refine lv_ifnullN (tgt := 32) hx hb dX11_isBusy_25 (by decide) ?_
      refine lv_iconst (v := 0) hx hb dX11_isBusy_32 (by decide) ?_
      refine W.widen (k := 1) (n := 4) (Nat.le_of_ble_eq_true rfl) (Nat.le_of_ble_eq_true rfl) ?_
      exact W.zret (v := 0) hx hb hr (by decide) (fun t ht hW => ⟨⟨_, (L, κ, (zup g p0 12 (.int 0))), rfl, ⟨_, rfl⟩, z_end hK hI ht hW⟩, z_F hI ht⟩) (z_locs hI) dX11_isBusy_33
    · show W p l e9 (headSpec wsX11_isBusy ({ frames := 4, cells := 1, slots := 4, locals := 84 })).room s m ([.ref p0, .int p1] : List Value).toArray below meth c _ _ _ _ (MQ below (va_Qi (fun (r : Int32) (u : zS) => ∃ v : Int32, u = (L, κ, zup g p0 12 (.int v))) (fun (u : zS) (t : State) => zB D tc (zA [] L s.heap.size) [] u t) (zA [] L s.heap.size)) ([.ref p0, .int p1] : List Value).toArray s 1 4 (zA [] L s.heap.size)) (F0 m 25 ls (.ref r11 :: []))
      refine W.widen (k := 1) (n := 4) (Nat.le_refl _) (Nat.le_refl _) ?_
      have hr12 : κ r11 = 12 := hw10 _ rfl
      refine lv_ifnull hx hb dX11_isBusy_25 ?_
      refine lv_iconst (v := 1) hx hb dX11_isBusy_28 (by decide) ?_
      refine lv_goto (tgt := 33) hx hb dX11_isBusy_29 (by decide) ?_
      refine W.widen (k := 1) (n := 4) (Nat.le_of_ble_eq_true rfl) (Nat.le_of_ble_eq_true rfl) ?_
      exact W.zret (v := 1) hx hb hr (by decide) (fun t ht hW => ⟨⟨_, (L, κ, (zup g p0 12 (.int 0))), rfl, ⟨_, rfl⟩, z_end hK hI ht hW⟩, z_F hI ht⟩) (z_locs hI) dX11_isBusy_33
  · skip
    refine lv_if_eq (tgt := 13) hx hb dX11_isBusy_6 (by decide) (fun _ => ?_) (fun h9 => by first | exact absurd h9 (by decide) | exact absurd (by decide) h9)
    refine lv_iconst (v := 1) hx hb dX11_isBusy_13 (by decide) ?_
    refine z_ciX (Xc := []) (wr := []) (rx := []) [] [] rfl rfl rfl rfl (by decide) hI (va_runV (As := [.int 1]) (rest := []) ⟨hx, hb, hml, hown, hts⟩ (c_X11_fails l D tc z0 _ κ g _ p0 hk0 1) (cwV 1 hts gX11_isBusy_X11_fails rfl rfl rfl (by decide +kernel) ⟨Nat.le_of_ble_eq_true rfl, Nat.le_of_ble_eq_true rfl⟩) (z_preV (Xc := []) hK hE hI [] rfl rfl (z_recv hK hI hk0 rfl rfl)) rfl rfl hl.1 rfl (lv_room (Nat.le_of_ble_eq_true rfl)) dX11_isBusy_14 ⟨(Nat.le_of_ble_eq_true rfl), (Nat.le_of_ble_eq_true rfl)⟩) (fun v13 u H locs hw14 hI => ?_)
    obtain ⟨hw14, rfl⟩ := hw14
    have hI : zI D tc _ s.heap [] L κ (zup g p0 12 (.int 1)) _ _ := hI
    have hMo := hMo.upP (j := 12) (v := .int 1) (by decide)
    obtain rfl : v13 = 1 := hw14.trans (by decide)
    refine lv_if_ne (tgt := 32) hx hb dX11_isBusy_17 (by decide) (fun _ => ?_) (fun h9 => by first | exact absurd h9 (by decide) | exact absurd (by decide) h9)
    refine lv_iconst (v := 0) hx hb dX11_isBusy_32 (by decide) ?_
    refine W.widen (k := 1) (n := 4) (Nat.le_of_ble_eq_true rfl) (Nat.le_of_ble_eq_true rfl) ?_
    exact W.zret (v := 0) hx hb hr (by decide) (fun t ht hW => ⟨⟨_, (L, κ, (zup g p0 12 (.int 1))), rfl, ⟨_, rfl⟩, z_end hK hI ht hW⟩, z_F hI ht⟩) (z_locs hI) dX11_isBusy_33

set_option maxHeartbeats 4000000 in
set_option maxRecDepth 100000 in
theorem c_X11_need (l : Launch) (D : va_G) (tc : Nat → ClassId) (z0 : Nat) (L : List Nat) (κ : Nat → Nat) (g : Nat → Nat → Value) (sz : Nat) (p0 : Nat) (hk0 : κ p0 = 13) (p1 : Int32) (p2 : Int32) (lc eC nC : Nat) (mC : Int32) (cf : Nat → Nat) (lt eT nT : Nat) (mT : Int32) (tf : Nat → Nat) (hMo : zMo κ g z0 p0 lc eC nC mC cf lt eT nT mT tf) : Met l yX11_need wsX11_need ({ frames := 3, cells := 0, slots := 0, locals := 64 }) (zPc D tc z0 [.ref p0, .int p1, .int p2] [] (L, κ, g) sz) (va_Qi (fun (r : Int32) (u : zS) => ∃ v : Int32, u = (L, κ, zup g p0 12 (.int v))) (fun (u : zS) (t : State) => zB D tc (zA [] L sz) [] u t) (zA [] L sz)) 0 0 (zA [] L sz) := by
  refine Met.ofW (cc := cX11_need) (maxL := 3) (ret := (some .int)) (by decide) rfl ?_
  intro p e9 s m args below meth c s₁ B hml hv
  obtain ⟨rfl, rfl, hK, hE, hI⟩ := hv.opn
  have hx := B.exec
  have hb := B.bytes
  have hr := B.returns
  have hts := atoms_spec (ws := wsX11_need) B.pre
  have hown : s.vm.findClass RX11 = some m.cls := findClass_of_methodNamed B.named
  have hlocks := B.notSynchronized
  have hM : zM p s m c cX11_need _ wsX11_need RX11 D tc := ⟨hx, hb, hts, hown, hK⟩
  have hinX11 : ∀ w ∈ wsX110, w ∈ wsX11_need := by decide +kernel
  have hinX9 : ∀ w ∈ wsX90, w ∈ wsX11_need := by decide +kernel
  have hnC := hMo.bC
  have hnT := hMo.bT
  have hl := lv_entry ([.ref p0, .int p1, .int p2]) (n := 3) (Nat.le_of_ble_eq_true rfl)
  rw [lg_entry_eq]
  generalize (lg_sl ([.ref p0, .int p1, .int p2]) ++ List.replicate (3 - (lg_sl ([.ref p0, .int p1, .int p2])).length) Slot.unset).toArray = ls at hl ⊢
  have hl : lv_has ls 3 [(0, .ref p0), (1, .int p1), (2, .int p2)] := hl
  refine lv_aload_n hx hb dX11_need_0 rfl (lv_at hl 0 rfl) ?_
  refine lv_aload_n hx hb dX11_need_1 rfl (lv_at hl 0 rfl) ?_
  refine lv_iload_n hx hb dX11_need_2 rfl (lv_at hl 1 rfl) ?_
  refine vp_callSi (W.runV (As := [.int p1]) (rest := [.ref p0]) ⟨hx, hb, hml, hown, hts⟩ (c_X11_isCore l D tc z0 _ κ g _ p0 hk0 p1 lc eC nC mC cf lt eT nT mT tf hMo) (cwV 1 hts gX11_need_X11_isCore rfl rfl rfl (by decide +kernel) ⟨Nat.le_of_ble_eq_true rfl, Nat.le_of_ble_eq_true rfl⟩) (z_preV (Xc := []) hK hE hI [] rfl rfl (z_recv hK hI hk0 rfl rfl)) rfl rfl hl.1 rfl (lv_room (Nat.le_of_ble_eq_true rfl)) dX11_need_3 ⟨(Nat.le_of_ble_eq_true rfl), (Nat.le_of_ble_eq_true rfl)⟩) (fun v1 hw2 => ?_)
  rcases hw2 with ⟨rfl, i3, hi4, hp5⟩ | ⟨rfl, hno6⟩
  · skip
    rw [hp5] at hl
    refine lv_if_ne (tgt := 13) hx hb dX11_need_6 (by decide) (fun _ => ?_) (fun h9 => by first | exact absurd h9 (by decide) | exact absurd (by decide) h9)
    refine lv_iload_n hx hb dX11_need_13 rfl (lv_at hl 2 rfl) ?_
    refine lv_iconst (v := 0) hx hb dX11_need_14 (by decide) ?_
    refine lv_aload_n hx hb dX11_need_15 rfl (lv_at hl 0 rfl) ?_
    refine z_get (k := 13) (j := 0) hM hI hk0 rfl rfl hinX11 rfl (by decide) (by decide +kernel) (fun _ h9 => h9) dX11_need_16 (fun v7 hv8 => ?_)
    obtain ⟨hg10, i9, rfl, hr11⟩ := hv8
    obtain rfl : lc = i9 := Value.ref.inj (hMo.gc.symm.trans hg10.symm)
    refine lv_iload_n hx hb dX11_need_19 rfl (lv_at hl 1 rfl) ?_
    refine va_csFq (va_runF (As := [.int ((nI i3))]) (rest := [.int 0, .int p2, .ref p0]) (hK.1 1 _ rfl).2 ⟨hx, hb, hml, hown, hts⟩ (c_Jx4a65c_get_915e3 l D tc z0 _ κ g _ lc 1 eC 25 11 nC mC cf rfl hMo.LC rfl rfl i3 (by omega)) (va_cwF 1 hts gX11_need_Jx4a65c_get_915e3_f101Jx4a65c rfl rfl rfl (hE.2.2.1 (RJx4a65c, ⟨"java/util/List", "get", "(I)Ljava/lang/Object;"⟩, yJx4a65c_get_915e3) (by decide +kernel)) (by decide +kernel) ⟨Nat.le_of_ble_eq_true rfl, Nat.le_of_ble_eq_true rfl⟩) (z_preV (Xc := []) hK hE hI [] rfl rfl (z_recv hK hI hMo.LC.1 rfl rfl)) rfl rfl hl.1 rfl (lv_room (Nat.le_of_ble_eq_true rfl)) dX11_need_20 ⟨(Nat.le_of_ble_eq_true rfl), (Nat.le_of_ble_eq_true rfl)⟩) (fun r12 hw13 => ?_)
    obtain rfl := hw13
    have hr14 : κ (cf i3) = 11 := hMo.LC.el (i := i3) (by omega)
    show W p l e9 (headSpec wsX11_need ({ frames := 3, cells := 0, slots := 0, locals := 64 })).room s m ([.ref p0, .int p1, .int p2] : List Value).toArray below meth c _ _ 0 0 (MQ below (va_Qi (fun (r : Int32) (u : zS) => ∃ v : Int32, u = (L, κ, zup g p0 12 (.int v))) (fun (u : zS) (t : State) => zB D tc (zA [] L s.heap.size) [] u t) (zA [] L s.heap.size)) ([.ref p0, .int p1, .int p2] : List Value).toArray s 0 0 (zA [] L s.heap.size)) (F0 m 25 ls (.ref (cf i3) :: [.int 0, .int p2, .ref p0]))
    refine z_castS (k := 11) hM hI hr14 rfl rfl (by decide +kernel) dX11_need_25 ?_
    refine z_getN (host := "WattgovernModel") (k := 11) (j := 1) hM hE hI hr14 rfl rfl hinX9 rfl (by decide) (by decide +kernel) (fun _ h9 => h9) dX11_need_28 (fun v15 hv16 => ?_)
    obtain ⟨i17, rfl⟩ := hv16
    refine vp_callSi (W.runS (As := [.int p2, .int 0, .int i17]) (rest := [.ref p0]) ⟨hx, hb, hml, hown, hts⟩ (c_X11_in l D tc z0 _ κ g _ p2 0 i17) (va_cwS 3 hts gX11_need_X11_in rfl rfl rfl (by decide +kernel) ⟨Nat.le_of_ble_eq_true rfl, Nat.le_of_ble_eq_true rfl⟩) (z_pre hK hE hI [] rfl rfl) rfl rfl hl.1 rfl (lv_room (Nat.le_of_ble_eq_true rfl)) dX11_need_31 ⟨(Nat.le_of_ble_eq_true rfl), (Nat.le_of_ble_eq_true rfl)⟩) (fun v18 hw19 => ?_)
    obtain ⟨hw19, hz20⟩ := hw19
    refine lv_if_eq (tgt := 41) hx hb dX11_need_34 (by decide) (fun c21 => ?_) (fun c21 => ?_)
    · skip
      refine lv_iconst (v := 2) hx hb dX11_need_41 (by decide) ?_
      refine z_ciX (Xc := []) (wr := []) (rx := []) [] [] rfl rfl rfl rfl (by decide) hI (va_runV (As := [.int 2]) (rest := []) ⟨hx, hb, hml, hown, hts⟩ (c_X11_fails l D tc z0 _ κ g _ p0 hk0 2) (cwV 1 hts gX11_need_X11_fails rfl rfl rfl (by decide +kernel) ⟨Nat.le_of_ble_eq_true rfl, Nat.le_of_ble_eq_true rfl⟩) (z_preV (Xc := []) hK hE hI [] rfl rfl (z_recv hK hI hk0 rfl rfl)) rfl rfl hl.1 rfl (lv_room (Nat.le_of_ble_eq_true rfl)) dX11_need_42 ⟨(Nat.le_of_ble_eq_true rfl), (Nat.le_of_ble_eq_true rfl)⟩) (fun v22 u H locs hw23 hI => ?_)
      obtain ⟨hw23, rfl⟩ := hw23
      have hI : zI D tc _ s.heap [] L κ (zup g p0 12 (.int 2)) _ _ := hI
      have hMo := hMo.upP (j := 12) (v := .int 2) (by decide)
      obtain rfl : v22 = 1 := hw23.trans (by decide)
      refine lv_if_eq (tgt := 52) hx hb dX11_need_45 (by decide) (fun h9 => by first | exact absurd h9 (by decide) | exact absurd (by decide) h9) (fun _ => ?_)
      refine lv_iconst (v := 0) hx hb dX11_need_48 (by decide) ?_
      refine lv_goto (tgt := 85) hx hb dX11_need_49 (by decide) ?_
      refine W.widen (k := 0) (n := 0) (Nat.le_of_ble_eq_true rfl) (Nat.le_of_ble_eq_true rfl) ?_
      exact W.iret (v := 0) hx hb hr (fun t ht hW => ⟨⟨_, (L, κ, (zup g p0 12 (.int 2))), rfl, ⟨_, rfl⟩, z_end hK hI ht hW⟩, z_F hI ht⟩) (z_locs hI) dX11_need_85
    · skip
      refine lv_iconst (v := 0) hx hb dX11_need_37 (by decide) ?_
      refine lv_goto (tgt := 42) hx hb dX11_need_38 (by decide) ?_
      refine z_ciX (Xc := []) (wr := []) (rx := []) [] [] rfl rfl rfl rfl (by decide) hI (va_runV (As := [.int 0]) (rest := []) ⟨hx, hb, hml, hown, hts⟩ (c_X11_fails l D tc z0 _ κ g _ p0 hk0 0) (cwV 1 hts gX11_need_X11_fails rfl rfl rfl (by decide +kernel) ⟨Nat.le_of_ble_eq_true rfl, Nat.le_of_ble_eq_true rfl⟩) (z_preV (Xc := []) hK hE hI [] rfl rfl (z_recv hK hI hk0 rfl rfl)) rfl rfl hl.1 rfl (lv_room (Nat.le_of_ble_eq_true rfl)) dX11_need_42 ⟨(Nat.le_of_ble_eq_true rfl), (Nat.le_of_ble_eq_true rfl)⟩) (fun v24 u H locs hw25 hI => ?_)
      obtain ⟨hw25, rfl⟩ := hw25
      have hI : zI D tc _ s.heap [] L κ (zup g p0 12 (.int 0)) _ _ := hI
      have hMo := hMo.upP (j := 12) (v := .int 0) (by decide)
      obtain rfl : v24 = 0 := hw25.trans (by decide)
      refine lv_if_eq (tgt := 52) hx hb dX11_need_45 (by decide) (fun _ => ?_) (fun h9 => by first | exact absurd h9 (by decide) | exact absurd (by decide) h9)
      refine lv_aload_n hx hb dX11_need_52 rfl (lv_at hl 0 rfl) ?_
      refine z_get (k := 13) (j := 0) hM hI hk0 rfl rfl hinX11 rfl (by decide) (by decide +kernel) (fun _ h9 => h9) dX11_need_53 (fun v26 hv27 => ?_)
      obtain ⟨hg29, i28, rfl, hr30⟩ := hv27
      obtain rfl : lc = i28 := Value.ref.inj (hMo.gc.symm.trans hg29.symm)
      refine lv_iload_n hx hb dX11_need_56 rfl (lv_at hl 1 rfl) ?_
      refine va_csFq (va_runF (As := [.int ((nI i3))]) (rest := []) (hK.1 1 _ rfl).2 ⟨hx, hb, hml, hown, hts⟩ (c_Jx4a65c_get_915e3 l D tc z0 _ κ (zup g p0 12 (.int 0)) _ lc 1 eC 25 11 nC mC cf rfl hMo.LC rfl rfl i3 (by omega)) (va_cwF 1 hts gX11_need_Jx4a65c_get_915e3_f101Jx4a65c rfl rfl rfl (hE.2.2.1 (RJx4a65c, ⟨"java/util/List", "get", "(I)Ljava/lang/Object;"⟩, yJx4a65c_get_915e3) (by decide +kernel)) (by decide +kernel) ⟨Nat.le_of_ble_eq_true rfl, Nat.le_of_ble_eq_true rfl⟩) (z_preV (Xc := []) hK hE hI [] rfl rfl (z_recv hK hI hMo.LC.1 rfl rfl)) rfl rfl hl.1 rfl (lv_room (Nat.le_of_ble_eq_true rfl)) dX11_need_57 ⟨(Nat.le_of_ble_eq_true rfl), (Nat.le_of_ble_eq_true rfl)⟩) (fun r31 hw32 => ?_)
      obtain rfl := hw32
      have hr33 : κ (cf i3) = 11 := hMo.LC.el (i := i3) (by omega)
      show W p l e9 (headSpec wsX11_need ({ frames := 3, cells := 0, slots := 0, locals := 64 })).room s m ([.ref p0, .int p1, .int p2] : List Value).toArray below meth c _ _ 0 0 (MQ below (va_Qi (fun (r : Int32) (u : zS) => ∃ v : Int32, u = (L, κ, zup g p0 12 (.int v))) (fun (u : zS) (t : State) => zB D tc (zA [] L s.heap.size) [] u t) (zA [] L s.heap.size)) ([.ref p0, .int p1, .int p2] : List Value).toArray s 0 0 (zA [] L s.heap.size)) (F0 m 62 ls (.ref (cf i3) :: []))
      refine z_castS (k := 11) hM hI hr33 rfl rfl (by decide +kernel) dX11_need_62 ?_
      refine lv_iload_n hx hb dX11_need_65 rfl (lv_at hl 2 rfl) ?_
      refine lv_aload_n hx hb dX11_need_66 rfl (lv_at hl 0 rfl) ?_
      refine z_get (k := 13) (j := 0) hM hI hk0 rfl rfl hinX11 rfl (by decide) (by decide +kernel) (fun _ h9 => h9) dX11_need_67 (fun v34 hv35 => ?_)
      obtain ⟨hg37, i36, rfl, hr38⟩ := hv35
      obtain rfl : lc = i36 := Value.ref.inj (hMo.gc.symm.trans hg37.symm)
      refine lv_iload_n hx hb dX11_need_70 rfl (lv_at hl 1 rfl) ?_
      refine va_csFq (va_runF (As := [.int ((nI i3))]) (rest := [.int p2, .ref ((cf i3))]) (hK.1 1 _ rfl).2 ⟨hx, hb, hml, hown, hts⟩ (c_Jx4a65c_get_915e3 l D tc z0 _ κ (zup g p0 12 (.int 0)) _ lc 1 eC 25 11 nC mC cf rfl hMo.LC rfl rfl i3 (by omega)) (va_cwF 1 hts gX11_need_Jx4a65c_get_915e3_f101Jx4a65c rfl rfl rfl (hE.2.2.1 (RJx4a65c, ⟨"java/util/List", "get", "(I)Ljava/lang/Object;"⟩, yJx4a65c_get_915e3) (by decide +kernel)) (by decide +kernel) ⟨Nat.le_of_ble_eq_true rfl, Nat.le_of_ble_eq_true rfl⟩) (z_preV (Xc := []) hK hE hI [] rfl rfl (z_recv hK hI hMo.LC.1 rfl rfl)) rfl rfl hl.1 rfl (lv_room (Nat.le_of_ble_eq_true rfl)) dX11_need_71 ⟨(Nat.le_of_ble_eq_true rfl), (Nat.le_of_ble_eq_true rfl)⟩) (fun r39 hw40 => ?_)
      obtain rfl := hw40
      have hr41 : κ (cf i3) = 11 := hMo.LC.el (i := i3) (by omega)
      show W p l e9 (headSpec wsX11_need ({ frames := 3, cells := 0, slots := 0, locals := 64 })).room s m ([.ref p0, .int p1, .int p2] : List Value).toArray below meth c _ _ 0 0 (MQ below (va_Qi (fun (r : Int32) (u : zS) => ∃ v : Int32, u = (L, κ, zup g p0 12 (.int v))) (fun (u : zS) (t : State) => zB D tc (zA [] L s.heap.size) [] u t) (zA [] L s.heap.size)) ([.ref p0, .int p1, .int p2] : List Value).toArray s 0 0 (zA [] L s.heap.size)) (F0 m 76 ls (.ref (cf i3) :: [.int p2, .ref ((cf i3))]))
      refine z_castS (k := 11) hM hI hr41 rfl rfl (by decide +kernel) dX11_need_76 ?_
      refine vp_callSi (va_Run.run (va_runVN (As := []) (rest := [.int p2, .ref ((cf i3))]) ⟨hx, hb, hml, hown, hts⟩ (c_X9_degrees l D tc z0 _ κ (zup g p0 12 (.int 0)) _ ((cf i3)) hr41) ⟨va_cnB 0 hts gX11_need_X9_degrees_n133 rfl rfl rfl (hE.1 (.methodLinkNest RX11 133 yX9_degrees "WattgovernModel") (by decide +kernel) rfl) (hts (.initialized yX9_degrees.cls) (by decide +kernel)) (by decide +kernel) ⟨Nat.le_of_ble_eq_true rfl, Nat.le_of_ble_eq_true rfl⟩, hts (.instanceMethod yX9_degrees) (by decide +kernel), hts (.selects RX9 yX9_degrees yX9_degrees) (by decide +kernel)⟩ (z_preV (Xc := []) hK hE hI [] rfl rfl (z_recv hK hI hr41 rfl rfl)) rfl rfl hl.1 rfl (lv_room (Nat.le_of_ble_eq_true rfl)) dX11_need_79 ⟨(Nat.le_of_ble_eq_true rfl), (Nat.le_of_ble_eq_true rfl)⟩)) (fun v42 hw43 => ?_)
      refine vp_callSi (va_Run.run (va_runVN (As := [.int p2, .int v42]) (rest := []) ⟨hx, hb, hml, hown, hts⟩ (c_X9_need l D tc z0 _ κ (zup g p0 12 (.int 0)) _ ((cf i3)) hr33 p2 v42) ⟨va_cnB 2 hts gX11_need_X9_need_n234 rfl rfl rfl (hE.1 (.methodLinkNest RX11 234 yX9_need "WattgovernModel") (by decide +kernel) rfl) (hts (.initialized yX9_need.cls) (by decide +kernel)) (by decide +kernel) ⟨Nat.le_of_ble_eq_true rfl, Nat.le_of_ble_eq_true rfl⟩, hts (.instanceMethod yX9_need) (by decide +kernel), hts (.selects RX9 yX9_need yX9_need) (by decide +kernel)⟩ (z_preV (Xc := []) hK hE hI [] rfl rfl (z_recv hK hI hr33 rfl rfl)) rfl rfl hl.1 rfl (lv_room (Nat.le_of_ble_eq_true rfl)) dX11_need_82 ⟨(Nat.le_of_ble_eq_true rfl), (Nat.le_of_ble_eq_true rfl)⟩)) (fun v44 hw45 => ?_)
      refine W.widen (k := 0) (n := 0) (Nat.le_of_ble_eq_true rfl) (Nat.le_of_ble_eq_true rfl) ?_
      exact W.iret (v := v44) hx hb hr (fun t ht hW => ⟨⟨_, (L, κ, (zup g p0 12 (.int 0))), rfl, ⟨_, rfl⟩, z_end hK hI ht hW⟩, z_F hI ht⟩) (z_locs hI) dX11_need_85
  · skip
    refine lv_if_ne (tgt := 13) hx hb dX11_need_6 (by decide) (fun h9 => by first | exact absurd h9 (by decide) | exact absurd (by decide) h9) (fun _ => ?_)
    refine lv_iconst (v := 1) hx hb dX11_need_9 (by decide) ?_
    refine lv_goto (tgt := 42) hx hb dX11_need_10 (by decide) ?_
    refine z_ciX (Xc := []) (wr := []) (rx := []) [] [] rfl rfl rfl rfl (by decide) hI (va_runV (As := [.int 1]) (rest := []) ⟨hx, hb, hml, hown, hts⟩ (c_X11_fails l D tc z0 _ κ g _ p0 hk0 1) (cwV 1 hts gX11_need_X11_fails rfl rfl rfl (by decide +kernel) ⟨Nat.le_of_ble_eq_true rfl, Nat.le_of_ble_eq_true rfl⟩) (z_preV (Xc := []) hK hE hI [] rfl rfl (z_recv hK hI hk0 rfl rfl)) rfl rfl hl.1 rfl (lv_room (Nat.le_of_ble_eq_true rfl)) dX11_need_42 ⟨(Nat.le_of_ble_eq_true rfl), (Nat.le_of_ble_eq_true rfl)⟩) (fun v46 u H locs hw47 hI => ?_)
    obtain ⟨hw47, rfl⟩ := hw47
    have hI : zI D tc _ s.heap [] L κ (zup g p0 12 (.int 1)) _ _ := hI
    have hMo := hMo.upP (j := 12) (v := .int 1) (by decide)
    obtain rfl : v46 = 1 := hw47.trans (by decide)
    refine lv_if_eq (tgt := 52) hx hb dX11_need_45 (by decide) (fun h9 => by first | exact absurd h9 (by decide) | exact absurd (by decide) h9) (fun _ => ?_)
    refine lv_iconst (v := 0) hx hb dX11_need_48 (by decide) ?_
    refine lv_goto (tgt := 85) hx hb dX11_need_49 (by decide) ?_
    refine W.widen (k := 0) (n := 0) (Nat.le_of_ble_eq_true rfl) (Nat.le_of_ble_eq_true rfl) ?_
    exact W.iret (v := 0) hx hb hr (fun t ht hW => ⟨⟨_, (L, κ, (zup g p0 12 (.int 1))), rfl, ⟨_, rfl⟩, z_end hK hI ht hW⟩, z_F hI ht⟩) (z_locs hI) dX11_need_85

set_option maxHeartbeats 4000000 in
set_option maxRecDepth 100000 in
theorem c_X11_sensor (l : Launch) (D : va_G) (tc : Nat → ClassId) (z0 : Nat) (L : List Nat) (κ : Nat → Nat) (g : Nat → Nat → Value) (sz : Nat) (p0 : Nat) (hk0 : κ p0 = 13) (p1 : Int32) (lc eC nC : Nat) (mC : Int32) (cf : Nat → Nat) (lt eT nT : Nat) (mT : Int32) (tf : Nat → Nat) (hMo : zMo κ g z0 p0 lc eC nC mC cf lt eT nT mT tf) : Met l yX11_sensor wsX11_sensor ({ frames := 3, cells := 0, slots := 0, locals := 64 }) (zPc D tc z0 [.ref p0, .int p1] [] (L, κ, g) sz) (va_Qi (fun (r : Int32) (u : zS) => ∃ v : Int32, u = (L, κ, zup g p0 12 (.int v))) (fun (u : zS) (t : State) => zB D tc (zA [] L sz) [] u t) (zA [] L sz)) 0 0 (zA [] L sz) := by
  refine Met.ofW (cc := cX11_sensor) (maxL := 2) (ret := (some .int)) (by decide) rfl ?_
  intro p e9 s m args below meth c s₁ B hml hv
  obtain ⟨rfl, rfl, hK, hE, hI⟩ := hv.opn
  have hx := B.exec
  have hb := B.bytes
  have hr := B.returns
  have hts := atoms_spec (ws := wsX11_sensor) B.pre
  have hown : s.vm.findClass RX11 = some m.cls := findClass_of_methodNamed B.named
  have hlocks := B.notSynchronized
  have hM : zM p s m c cX11_sensor _ wsX11_sensor RX11 D tc := ⟨hx, hb, hts, hown, hK⟩
  have hinX11 : ∀ w ∈ wsX110, w ∈ wsX11_sensor := by decide +kernel
  have hinX9 : ∀ w ∈ wsX90, w ∈ wsX11_sensor := by decide +kernel
  have hnC := hMo.bC
  have hnT := hMo.bT
  have hl := lv_entry ([.ref p0, .int p1]) (n := 2) (Nat.le_of_ble_eq_true rfl)
  rw [lg_entry_eq]
  generalize (lg_sl ([.ref p0, .int p1]) ++ List.replicate (2 - (lg_sl ([.ref p0, .int p1])).length) Slot.unset).toArray = ls at hl ⊢
  have hl : lv_has ls 2 [(0, .ref p0), (1, .int p1)] := hl
  refine lv_aload_n hx hb dX11_sensor_0 rfl (lv_at hl 0 rfl) ?_
  refine lv_aload_n hx hb dX11_sensor_1 rfl (lv_at hl 0 rfl) ?_
  refine lv_iload_n hx hb dX11_sensor_2 rfl (lv_at hl 1 rfl) ?_
  refine vp_callSi (W.runV (As := [.int p1]) (rest := [.ref p0]) ⟨hx, hb, hml, hown, hts⟩ (c_X11_isCore l D tc z0 _ κ g _ p0 hk0 p1 lc eC nC mC cf lt eT nT mT tf hMo) (cwV 1 hts gX11_sensor_X11_isCore rfl rfl rfl (by decide +kernel) ⟨Nat.le_of_ble_eq_true rfl, Nat.le_of_ble_eq_true rfl⟩) (z_preV (Xc := []) hK hE hI [] rfl rfl (z_recv hK hI hk0 rfl rfl)) rfl rfl hl.1 rfl (lv_room (Nat.le_of_ble_eq_true rfl)) dX11_sensor_3 ⟨(Nat.le_of_ble_eq_true rfl), (Nat.le_of_ble_eq_true rfl)⟩) (fun v1 hw2 => ?_)
  rcases hw2 with ⟨rfl, i3, hi4, hp5⟩ | ⟨rfl, hno6⟩
  · skip
    rw [hp5] at hl
    refine lv_if_ne (tgt := 13) hx hb dX11_sensor_6 (by decide) (fun _ => ?_) (fun h9 => by first | exact absurd h9 (by decide) | exact absurd (by decide) h9)
    refine lv_aload_n hx hb dX11_sensor_13 rfl (lv_at hl 0 rfl) ?_
    refine z_get (k := 13) (j := 0) hM hI hk0 rfl rfl hinX11 rfl (by decide) (by decide +kernel) (fun _ h9 => h9) dX11_sensor_14 (fun v7 hv8 => ?_)
    obtain ⟨hg10, i9, rfl, hr11⟩ := hv8
    obtain rfl : lc = i9 := Value.ref.inj (hMo.gc.symm.trans hg10.symm)
    refine lv_iload_n hx hb dX11_sensor_17 rfl (lv_at hl 1 rfl) ?_
    refine va_csFq (va_runF (As := [.int ((nI i3))]) (rest := [.ref p0]) (hK.1 1 _ rfl).2 ⟨hx, hb, hml, hown, hts⟩ (c_Jx4a65c_get_915e3 l D tc z0 _ κ g _ lc 1 eC 25 11 nC mC cf rfl hMo.LC rfl rfl i3 (by omega)) (va_cwF 1 hts gX11_sensor_Jx4a65c_get_915e3_f101Jx4a65c rfl rfl rfl (hE.2.2.1 (RJx4a65c, ⟨"java/util/List", "get", "(I)Ljava/lang/Object;"⟩, yJx4a65c_get_915e3) (by decide +kernel)) (by decide +kernel) ⟨Nat.le_of_ble_eq_true rfl, Nat.le_of_ble_eq_true rfl⟩) (z_preV (Xc := []) hK hE hI [] rfl rfl (z_recv hK hI hMo.LC.1 rfl rfl)) rfl rfl hl.1 rfl (lv_room (Nat.le_of_ble_eq_true rfl)) dX11_sensor_18 ⟨(Nat.le_of_ble_eq_true rfl), (Nat.le_of_ble_eq_true rfl)⟩) (fun r12 hw13 => ?_)
    obtain rfl := hw13
    have hr14 : κ (cf i3) = 11 := hMo.LC.el (i := i3) (by omega)
    show W p l e9 (headSpec wsX11_sensor ({ frames := 3, cells := 0, slots := 0, locals := 64 })).room s m ([.ref p0, .int p1] : List Value).toArray below meth c _ _ 0 0 (MQ below (va_Qi (fun (r : Int32) (u : zS) => ∃ v : Int32, u = (L, κ, zup g p0 12 (.int v))) (fun (u : zS) (t : State) => zB D tc (zA [] L s.heap.size) [] u t) (zA [] L s.heap.size)) ([.ref p0, .int p1] : List Value).toArray s 0 0 (zA [] L s.heap.size)) (F0 m 23 ls (.ref (cf i3) :: [.ref p0]))
    refine z_castS (k := 11) hM hI hr14 rfl rfl (by decide +kernel) dX11_sensor_23 ?_
    refine z_getN (host := "WattgovernModel") (k := 11) (j := 15) hM hE hI hr14 rfl rfl hinX9 rfl (by decide) (by decide +kernel) (fun _ h9 => h9) dX11_sensor_26 (fun v15 hv16 => ?_)
    obtain ⟨hg18, i17, rfl, hz19⟩ := zv_tb hv16
    refine lv_if_eq (tgt := 36) hx hb dX11_sensor_29 (by decide) (fun c20 => ?_) (fun c20 => ?_)
    · skip
      refine lv_iconst (v := 0) hx hb dX11_sensor_36 (by decide) ?_
      refine z_ciX (Xc := []) (wr := []) (rx := []) [] [] rfl rfl rfl rfl (by decide) hI (va_runV (As := [.int 0]) (rest := []) ⟨hx, hb, hml, hown, hts⟩ (c_X11_fails l D tc z0 _ κ g _ p0 hk0 0) (cwV 1 hts gX11_sensor_X11_fails rfl rfl rfl (by decide +kernel) ⟨Nat.le_of_ble_eq_true rfl, Nat.le_of_ble_eq_true rfl⟩) (z_preV (Xc := []) hK hE hI [] rfl rfl (z_recv hK hI hk0 rfl rfl)) rfl rfl hl.1 rfl (lv_room (Nat.le_of_ble_eq_true rfl)) dX11_sensor_37 ⟨(Nat.le_of_ble_eq_true rfl), (Nat.le_of_ble_eq_true rfl)⟩) (fun v21 u H locs hw22 hI => ?_)
      obtain ⟨hw22, rfl⟩ := hw22
      have hI : zI D tc _ s.heap [] L κ (zup g p0 12 (.int 0)) _ _ := hI
      have hMo := hMo.upP (j := 12) (v := .int 0) (by decide)
      obtain rfl : v21 = 0 := hw22.trans (by decide)
      refine lv_if_eq (tgt := 47) hx hb dX11_sensor_40 (by decide) (fun _ => ?_) (fun h9 => by first | exact absurd h9 (by decide) | exact absurd (by decide) h9)
      refine lv_aload_n hx hb dX11_sensor_47 rfl (lv_at hl 0 rfl) ?_
      refine z_get (k := 13) (j := 0) hM hI hk0 rfl rfl hinX11 rfl (by decide) (by decide +kernel) (fun _ h9 => h9) dX11_sensor_48 (fun v23 hv24 => ?_)
      obtain ⟨hg26, i25, rfl, hr27⟩ := hv24
      obtain rfl : lc = i25 := Value.ref.inj (hMo.gc.symm.trans hg26.symm)
      refine lv_iload_n hx hb dX11_sensor_51 rfl (lv_at hl 1 rfl) ?_
      refine va_csFq (va_runF (As := [.int ((nI i3))]) (rest := []) (hK.1 1 _ rfl).2 ⟨hx, hb, hml, hown, hts⟩ (c_Jx4a65c_get_915e3 l D tc z0 _ κ (zup g p0 12 (.int 0)) _ lc 1 eC 25 11 nC mC cf rfl hMo.LC rfl rfl i3 (by omega)) (va_cwF 1 hts gX11_sensor_Jx4a65c_get_915e3_f101Jx4a65c rfl rfl rfl (hE.2.2.1 (RJx4a65c, ⟨"java/util/List", "get", "(I)Ljava/lang/Object;"⟩, yJx4a65c_get_915e3) (by decide +kernel)) (by decide +kernel) ⟨Nat.le_of_ble_eq_true rfl, Nat.le_of_ble_eq_true rfl⟩) (z_preV (Xc := []) hK hE hI [] rfl rfl (z_recv hK hI hMo.LC.1 rfl rfl)) rfl rfl hl.1 rfl (lv_room (Nat.le_of_ble_eq_true rfl)) dX11_sensor_52 ⟨(Nat.le_of_ble_eq_true rfl), (Nat.le_of_ble_eq_true rfl)⟩) (fun r28 hw29 => ?_)
      obtain rfl := hw29
      have hr30 : κ (cf i3) = 11 := hMo.LC.el (i := i3) (by omega)
      show W p l e9 (headSpec wsX11_sensor ({ frames := 3, cells := 0, slots := 0, locals := 64 })).room s m ([.ref p0, .int p1] : List Value).toArray below meth c _ _ 0 0 (MQ below (va_Qi (fun (r : Int32) (u : zS) => ∃ v : Int32, u = (L, κ, zup g p0 12 (.int v))) (fun (u : zS) (t : State) => zB D tc (zA [] L s.heap.size) [] u t) (zA [] L s.heap.size)) ([.ref p0, .int p1] : List Value).toArray s 0 0 (zA [] L s.heap.size)) (F0 m 57 ls (.ref (cf i3) :: []))
      refine z_castS (k := 11) hM hI hr30 rfl rfl (by decide +kernel) dX11_sensor_57 ?_
      refine z_getN (host := "WattgovernModel") (k := 11) (j := 14) hM hE hI hr30 rfl rfl hinX9 rfl (by decide) (by decide +kernel) (fun _ h9 => h9) dX11_sensor_60 (fun v31 hv32 => ?_)
      obtain ⟨i33, rfl⟩ := hv32
      refine W.widen (k := 0) (n := 0) (Nat.le_of_ble_eq_true rfl) (Nat.le_of_ble_eq_true rfl) ?_
      exact W.iret (v := i33) hx hb hr (fun t ht hW => ⟨⟨_, (L, κ, (zup g p0 12 (.int 0))), rfl, ⟨_, rfl⟩, z_end hK hI ht hW⟩, z_F hI ht⟩) (z_locs hI) dX11_sensor_63
    · skip
      refine lv_iconst (v := 2) hx hb dX11_sensor_32 (by decide) ?_
      refine lv_goto (tgt := 37) hx hb dX11_sensor_33 (by decide) ?_
      refine z_ciX (Xc := []) (wr := []) (rx := []) [] [] rfl rfl rfl rfl (by decide) hI (va_runV (As := [.int 2]) (rest := []) ⟨hx, hb, hml, hown, hts⟩ (c_X11_fails l D tc z0 _ κ g _ p0 hk0 2) (cwV 1 hts gX11_sensor_X11_fails rfl rfl rfl (by decide +kernel) ⟨Nat.le_of_ble_eq_true rfl, Nat.le_of_ble_eq_true rfl⟩) (z_preV (Xc := []) hK hE hI [] rfl rfl (z_recv hK hI hk0 rfl rfl)) rfl rfl hl.1 rfl (lv_room (Nat.le_of_ble_eq_true rfl)) dX11_sensor_37 ⟨(Nat.le_of_ble_eq_true rfl), (Nat.le_of_ble_eq_true rfl)⟩) (fun v34 u H locs hw35 hI => ?_)
      obtain ⟨hw35, rfl⟩ := hw35
      have hI : zI D tc _ s.heap [] L κ (zup g p0 12 (.int 2)) _ _ := hI
      have hMo := hMo.upP (j := 12) (v := .int 2) (by decide)
      obtain rfl : v34 = 1 := hw35.trans (by decide)
      refine lv_if_eq (tgt := 47) hx hb dX11_sensor_40 (by decide) (fun h9 => by first | exact absurd h9 (by decide) | exact absurd (by decide) h9) (fun _ => ?_)
      refine lv_iconst (v := 0) hx hb dX11_sensor_43 (by decide) ?_
      refine lv_goto (tgt := 63) hx hb dX11_sensor_44 (by decide) ?_
      refine W.widen (k := 0) (n := 0) (Nat.le_of_ble_eq_true rfl) (Nat.le_of_ble_eq_true rfl) ?_
      exact W.iret (v := 0) hx hb hr (fun t ht hW => ⟨⟨_, (L, κ, (zup g p0 12 (.int 2))), rfl, ⟨_, rfl⟩, z_end hK hI ht hW⟩, z_F hI ht⟩) (z_locs hI) dX11_sensor_63
  · skip
    refine lv_if_ne (tgt := 13) hx hb dX11_sensor_6 (by decide) (fun h9 => by first | exact absurd h9 (by decide) | exact absurd (by decide) h9) (fun _ => ?_)
    refine lv_iconst (v := 1) hx hb dX11_sensor_9 (by decide) ?_
    refine lv_goto (tgt := 37) hx hb dX11_sensor_10 (by decide) ?_
    refine z_ciX (Xc := []) (wr := []) (rx := []) [] [] rfl rfl rfl rfl (by decide) hI (va_runV (As := [.int 1]) (rest := []) ⟨hx, hb, hml, hown, hts⟩ (c_X11_fails l D tc z0 _ κ g _ p0 hk0 1) (cwV 1 hts gX11_sensor_X11_fails rfl rfl rfl (by decide +kernel) ⟨Nat.le_of_ble_eq_true rfl, Nat.le_of_ble_eq_true rfl⟩) (z_preV (Xc := []) hK hE hI [] rfl rfl (z_recv hK hI hk0 rfl rfl)) rfl rfl hl.1 rfl (lv_room (Nat.le_of_ble_eq_true rfl)) dX11_sensor_37 ⟨(Nat.le_of_ble_eq_true rfl), (Nat.le_of_ble_eq_true rfl)⟩) (fun v36 u H locs hw37 hI => ?_)
    obtain ⟨hw37, rfl⟩ := hw37
    have hI : zI D tc _ s.heap [] L κ (zup g p0 12 (.int 1)) _ _ := hI
    have hMo := hMo.upP (j := 12) (v := .int 1) (by decide)
    obtain rfl : v36 = 1 := hw37.trans (by decide)
    refine lv_if_eq (tgt := 47) hx hb dX11_sensor_40 (by decide) (fun h9 => by first | exact absurd h9 (by decide) | exact absurd (by decide) h9) (fun _ => ?_)
    refine lv_iconst (v := 0) hx hb dX11_sensor_43 (by decide) ?_
    refine lv_goto (tgt := 63) hx hb dX11_sensor_44 (by decide) ?_
    refine W.widen (k := 0) (n := 0) (Nat.le_of_ble_eq_true rfl) (Nat.le_of_ble_eq_true rfl) ?_
    exact W.iret (v := 0) hx hb hr (fun t ht hW => ⟨⟨_, (L, κ, (zup g p0 12 (.int 1))), rfl, ⟨_, rfl⟩, z_end hK hI ht hW⟩, z_F hI ht⟩) (z_locs hI) dX11_sensor_63

set_option maxHeartbeats 4000000 in
set_option maxRecDepth 100000 in
theorem c_X11_volts (l : Launch) (D : va_G) (tc : Nat → ClassId) (z0 : Nat) (L : List Nat) (κ : Nat → Nat) (g : Nat → Nat → Value) (sz : Nat) (p0 : Nat) (hk0 : κ p0 = 13) (p1 : Int32) : Met l yX11_volts wsX11_volts ({ frames := 1, cells := 0, slots := 0, locals := 22 }) (zPc D tc z0 [.ref p0, .int p1] [] (L, κ, g) sz) (va_Qi (fun (r : Int32) (u : zS) => ∃ v : Int32, u = (L, κ, zup g p0 12 (.int v))) (fun (u : zS) (t : State) => zB D tc (zA [] L sz) [] u t) (zA [] L sz)) 0 0 (zA [] L sz) := by
  refine Met.ofW (cc := cX11_volts) (maxL := 2) (ret := (some .int)) (by decide) rfl ?_
  intro p e9 s m args below meth c s₁ B hml hv
  obtain ⟨rfl, rfl, hK, hE, hI⟩ := hv.opn
  have hx := B.exec
  have hb := B.bytes
  have hr := B.returns
  have hts := atoms_spec (ws := wsX11_volts) B.pre
  have hown : s.vm.findClass RX11 = some m.cls := findClass_of_methodNamed B.named
  have hlocks := B.notSynchronized
  have hM : zM p s m c cX11_volts _ wsX11_volts RX11 D tc := ⟨hx, hb, hts, hown, hK⟩
  have hinX11 : ∀ w ∈ wsX110, w ∈ wsX11_volts := by decide +kernel
  have hl := lv_entry ([.ref p0, .int p1]) (n := 2) (Nat.le_of_ble_eq_true rfl)
  rw [lg_entry_eq]
  generalize (lg_sl ([.ref p0, .int p1]) ++ List.replicate (2 - (lg_sl ([.ref p0, .int p1])).length) Slot.unset).toArray = ls at hl ⊢
  have hl : lv_has ls 2 [(0, .ref p0), (1, .int p1)] := hl
  refine lv_aload_n hx hb dX11_volts_0 rfl (lv_at hl 0 rfl) ?_
  refine lv_iload_n hx hb dX11_volts_1 rfl (lv_at hl 1 rfl) ?_
  refine lv_iconst (v := 0) hx hb dX11_volts_2 (by decide) ?_
  refine lv_iconst (v := 2) hx hb dX11_volts_3 (by decide) ?_
  refine vp_callSi (W.runS (As := [.int p1, .int 0, .int 2]) (rest := [.ref p0]) ⟨hx, hb, hml, hown, hts⟩ (c_X11_in l D tc z0 _ κ g _ p1 0 2) (va_cwS 3 hts gX11_volts_X11_in rfl rfl rfl (by decide +kernel) ⟨Nat.le_of_ble_eq_true rfl, Nat.le_of_ble_eq_true rfl⟩) (z_pre hK hE hI [] rfl rfl) rfl rfl hl.1 rfl (lv_room (Nat.le_of_ble_eq_true rfl)) dX11_volts_4 ⟨(Nat.le_of_ble_eq_true rfl), (Nat.le_of_ble_eq_true rfl)⟩) (fun v1 hw2 => ?_)
  obtain ⟨hw2, hz3⟩ := hw2
  refine lv_if_eq (tgt := 14) hx hb dX11_volts_7 (by decide) (fun c4 => ?_) (fun c4 => ?_)
  · skip
    refine lv_iconst (v := 1) hx hb dX11_volts_14 (by decide) ?_
    refine z_ciX (Xc := []) (wr := []) (rx := []) [] [] rfl rfl rfl rfl (by decide) hI (va_runV (As := [.int 1]) (rest := []) ⟨hx, hb, hml, hown, hts⟩ (c_X11_fails l D tc z0 _ κ g _ p0 hk0 1) (cwV 1 hts gX11_volts_X11_fails rfl rfl rfl (by decide +kernel) ⟨Nat.le_of_ble_eq_true rfl, Nat.le_of_ble_eq_true rfl⟩) (z_preV (Xc := []) hK hE hI [] rfl rfl (z_recv hK hI hk0 rfl rfl)) rfl rfl hl.1 rfl (lv_room (Nat.le_of_ble_eq_true rfl)) dX11_volts_15 ⟨(Nat.le_of_ble_eq_true rfl), (Nat.le_of_ble_eq_true rfl)⟩) (fun v5 u H locs hw6 hI => ?_)
    obtain ⟨hw6, rfl⟩ := hw6
    have hI : zI D tc _ s.heap [] L κ (zup g p0 12 (.int 1)) _ _ := hI
    obtain rfl : v5 = 1 := hw6.trans (by decide)
    refine lv_if_eq (tgt := 25) hx hb dX11_volts_18 (by decide) (fun h9 => by first | exact absurd h9 (by decide) | exact absurd (by decide) h9) (fun _ => ?_)
    refine lv_iconst (v := 0) hx hb dX11_volts_21 (by decide) ?_
    refine lv_goto (tgt := 31) hx hb dX11_volts_22 (by decide) ?_
    refine W.widen (k := 0) (n := 0) (Nat.le_of_ble_eq_true rfl) (Nat.le_of_ble_eq_true rfl) ?_
    exact W.iret (v := 0) hx hb hr (fun t ht hW => ⟨⟨_, (L, κ, (zup g p0 12 (.int 1))), rfl, ⟨_, rfl⟩, z_end hK hI ht hW⟩, z_F hI ht⟩) (z_locs hI) dX11_volts_31
  · skip
    refine lv_iconst (v := 0) hx hb dX11_volts_10 (by decide) ?_
    refine lv_goto (tgt := 15) hx hb dX11_volts_11 (by decide) ?_
    refine z_ciX (Xc := []) (wr := []) (rx := []) [] [] rfl rfl rfl rfl (by decide) hI (va_runV (As := [.int 0]) (rest := []) ⟨hx, hb, hml, hown, hts⟩ (c_X11_fails l D tc z0 _ κ g _ p0 hk0 0) (cwV 1 hts gX11_volts_X11_fails rfl rfl rfl (by decide +kernel) ⟨Nat.le_of_ble_eq_true rfl, Nat.le_of_ble_eq_true rfl⟩) (z_preV (Xc := []) hK hE hI [] rfl rfl (z_recv hK hI hk0 rfl rfl)) rfl rfl hl.1 rfl (lv_room (Nat.le_of_ble_eq_true rfl)) dX11_volts_15 ⟨(Nat.le_of_ble_eq_true rfl), (Nat.le_of_ble_eq_true rfl)⟩) (fun v7 u H locs hw8 hI => ?_)
    obtain ⟨hw8, rfl⟩ := hw8
    have hI : zI D tc _ s.heap [] L κ (zup g p0 12 (.int 0)) _ _ := hI
    obtain rfl : v7 = 0 := hw8.trans (by decide)
    refine lv_if_eq (tgt := 25) hx hb dX11_volts_18 (by decide) (fun _ => ?_) (fun h9 => by first | exact absurd h9 (by decide) | exact absurd (by decide) h9)
    refine lv_aload_n hx hb dX11_volts_25 rfl (lv_at hl 0 rfl) ?_
    refine z_get (k := 13) (j := 2) hM hI hk0 rfl rfl hinX11 rfl (by decide) (by decide +kernel) (fun _ h9 => h9) dX11_volts_26 (fun v9 hv10 => ?_)
    obtain ⟨hg12, i11, rfl, hr13⟩ := hv10
    refine lv_iload_n hx hb dX11_volts_29 rfl (lv_at hl 1 rfl) ?_
    refine z_iald hM hI hr13 rfl rfl (z_in02 hw2 c4) dX11_volts_30 (fun v14 hv15 => ?_)
    refine W.widen (k := 0) (n := 0) (Nat.le_of_ble_eq_true rfl) (Nat.le_of_ble_eq_true rfl) ?_
    exact W.iret (v := v14) hx hb hr (fun t ht hW => ⟨⟨_, (L, κ, (zup g p0 12 (.int 0))), rfl, ⟨_, rfl⟩, z_end hK hI ht hW⟩, z_F hI ht⟩) (z_locs hI) dX11_volts_31

set_option maxHeartbeats 4000000 in
set_option maxRecDepth 100000 in
theorem c_X11_feed (l : Launch) (D : va_G) (tc : Nat → ClassId) (z0 : Nat) (L : List Nat) (κ : Nat → Nat) (g : Nat → Nat → Value) (sz : Nat) (p0 : Nat) (hk0 : κ p0 = 13) (p1 : Int32) (p2 : Int32) (lc eC nC : Nat) (mC : Int32) (cf : Nat → Nat) (lt eT nT : Nat) (mT : Int32) (tf : Nat → Nat) (hMo : zMo κ g z0 p0 lc eC nC mC cf lt eT nT mT tf) : Met l yX11_feed wsX11_feed ({ frames := 3, cells := 0, slots := 0, locals := 64 }) (zPc D tc z0 [.ref p0, .int p1, .int p2] [] (L, κ, g) sz) (va_Qi (fun (r : Int32) (u : zS) => ∃ v : Int32, u = (L, κ, zup g p0 12 (.int v))) (fun (u : zS) (t : State) => zB D tc (zA [] L sz) [] u t) (zA [] L sz)) 0 0 (zA [] L sz) := by
  refine Met.ofW (cc := cX11_feed) (maxL := 3) (ret := (some .int)) (by decide) rfl ?_
  intro p e9 s m args below meth c s₁ B hml hv
  obtain ⟨rfl, rfl, hK, hE, hI⟩ := hv.opn
  have hx := B.exec
  have hb := B.bytes
  have hr := B.returns
  have hts := atoms_spec (ws := wsX11_feed) B.pre
  have hown : s.vm.findClass RX11 = some m.cls := findClass_of_methodNamed B.named
  have hlocks := B.notSynchronized
  have hM : zM p s m c cX11_feed _ wsX11_feed RX11 D tc := ⟨hx, hb, hts, hown, hK⟩
  have hinX11 : ∀ w ∈ wsX110, w ∈ wsX11_feed := by decide +kernel
  have hinX10 : ∀ w ∈ wsX100, w ∈ wsX11_feed := by decide +kernel
  have hnC := hMo.bC
  have hnT := hMo.bT
  have hl := lv_entry ([.ref p0, .int p1, .int p2]) (n := 3) (Nat.le_of_ble_eq_true rfl)
  rw [lg_entry_eq]
  generalize (lg_sl ([.ref p0, .int p1, .int p2]) ++ List.replicate (3 - (lg_sl ([.ref p0, .int p1, .int p2])).length) Slot.unset).toArray = ls at hl ⊢
  have hl : lv_has ls 3 [(0, .ref p0), (1, .int p1), (2, .int p2)] := hl
  refine lv_aload_n hx hb dX11_feed_0 rfl (lv_at hl 0 rfl) ?_
  refine lv_aload_n hx hb dX11_feed_1 rfl (lv_at hl 0 rfl) ?_
  refine lv_iload_n hx hb dX11_feed_2 rfl (lv_at hl 1 rfl) ?_
  refine vp_callSi (W.runV (As := [.int p1]) (rest := [.ref p0]) ⟨hx, hb, hml, hown, hts⟩ (c_X11_isThread l D tc z0 _ κ g _ p0 hk0 p1 lc eC nC mC cf lt eT nT mT tf hMo) (cwV 1 hts gX11_feed_X11_isThread rfl rfl rfl (by decide +kernel) ⟨Nat.le_of_ble_eq_true rfl, Nat.le_of_ble_eq_true rfl⟩) (z_preV (Xc := []) hK hE hI [] rfl rfl (z_recv hK hI hk0 rfl rfl)) rfl rfl hl.1 rfl (lv_room (Nat.le_of_ble_eq_true rfl)) dX11_feed_3 ⟨(Nat.le_of_ble_eq_true rfl), (Nat.le_of_ble_eq_true rfl)⟩) (fun v1 hw2 => ?_)
  rcases hw2 with ⟨rfl, i3, hi4, hp5⟩ | ⟨rfl, hno6⟩
  · skip
    rw [hp5] at hl
    refine lv_if_ne (tgt := 13) hx hb dX11_feed_6 (by decide) (fun _ => ?_) (fun h9 => by first | exact absurd h9 (by decide) | exact absurd (by decide) h9)
    refine lv_iload_n hx hb dX11_feed_13 rfl (lv_at hl 2 rfl) ?_
    refine lv_iconst (v := 1) hx hb dX11_feed_14 (by decide) ?_
    refine lv_ldc (v := 99999) hx hb hown (hts (.constant RX11 94 (99999)) (by decide +kernel)) dX11_feed_15 ?_
    refine vp_callSi (W.runS (As := [.int p2, .int 1, .int 99999]) (rest := [.ref p0]) ⟨hx, hb, hml, hown, hts⟩ (c_X11_in l D tc z0 _ κ g _ p2 1 99999) (va_cwS 3 hts gX11_feed_X11_in rfl rfl rfl (by decide +kernel) ⟨Nat.le_of_ble_eq_true rfl, Nat.le_of_ble_eq_true rfl⟩) (z_pre hK hE hI [] rfl rfl) rfl rfl hl.1 rfl (lv_room (Nat.le_of_ble_eq_true rfl)) dX11_feed_17 ⟨(Nat.le_of_ble_eq_true rfl), (Nat.le_of_ble_eq_true rfl)⟩) (fun v7 hw8 => ?_)
    obtain ⟨hw8, hz9⟩ := hw8
    refine lv_if_ne (tgt := 27) hx hb dX11_feed_20 (by decide) (fun c10 => ?_) (fun c10 => ?_)
    · skip
      refine lv_aload_n hx hb dX11_feed_27 rfl (lv_at hl 0 rfl) ?_
      refine z_get (k := 13) (j := 1) hM hI hk0 rfl rfl hinX11 rfl (by decide) (by decide +kernel) (fun _ h9 => h9) dX11_feed_28 (fun v11 hv12 => ?_)
      obtain ⟨hg14, i13, rfl, hr15⟩ := hv12
      obtain rfl : lt = i13 := Value.ref.inj (hMo.gt.symm.trans hg14.symm)
      refine lv_iload_n hx hb dX11_feed_31 rfl (lv_at hl 1 rfl) ?_
      refine va_csFq (va_runF (As := [.int ((nI i3))]) (rest := [.ref p0]) (hK.1 1 _ rfl).2 ⟨hx, hb, hml, hown, hts⟩ (c_Jx4a65c_get_915e3 l D tc z0 _ κ g _ lt 14 eT 26 12 nT mT tf rfl hMo.LT rfl rfl i3 (by omega)) (va_cwF 1 hts gX11_feed_Jx4a65c_get_915e3_f101Jx4a65c rfl rfl rfl (hE.2.2.1 (RJx4a65c, ⟨"java/util/List", "get", "(I)Ljava/lang/Object;"⟩, yJx4a65c_get_915e3) (by decide +kernel)) (by decide +kernel) ⟨Nat.le_of_ble_eq_true rfl, Nat.le_of_ble_eq_true rfl⟩) (z_preV (Xc := []) hK hE hI [] rfl rfl (z_recv hK hI hMo.LT.1 rfl rfl)) rfl rfl hl.1 rfl (lv_room (Nat.le_of_ble_eq_true rfl)) dX11_feed_32 ⟨(Nat.le_of_ble_eq_true rfl), (Nat.le_of_ble_eq_true rfl)⟩) (fun r16 hw17 => ?_)
      obtain rfl := hw17
      have hr18 : κ (tf i3) = 12 := hMo.LT.el (i := i3) (by omega)
      show W p l e9 (headSpec wsX11_feed ({ frames := 3, cells := 0, slots := 0, locals := 64 })).room s m ([.ref p0, .int p1, .int p2] : List Value).toArray below meth c _ _ 0 0 (MQ below (va_Qi (fun (r : Int32) (u : zS) => ∃ v : Int32, u = (L, κ, zup g p0 12 (.int v))) (fun (u : zS) (t : State) => zB D tc (zA [] L s.heap.size) [] u t) (zA [] L s.heap.size)) ([.ref p0, .int p1, .int p2] : List Value).toArray s 0 0 (zA [] L s.heap.size)) (F0 m 37 ls (.ref (tf i3) :: [.ref p0]))
      refine z_castS (k := 12) hM hI hr18 rfl rfl (by decide +kernel) dX11_feed_37 ?_
      refine z_getN (host := "WattgovernModel") (k := 12) (j := 2) hM hE hI hr18 rfl rfl hinX10 rfl (by decide) (by decide +kernel) (fun _ h9 => h9) dX11_feed_40 (fun v19 hv20 => ?_)
      obtain ⟨i21, rfl⟩ := hv20
      refine lv_iload_n hx hb dX11_feed_43 rfl (lv_at hl 2 rfl) ?_
      refine lv_iadd hx hb dX11_feed_44 ?_
      refine lv_topi (fun v22 e23 => ?_)
      refine lv_ldc (v := 999999) hx hb hown (hts (.constant RX11 105 (999999)) (by decide +kernel)) dX11_feed_45 ?_
      refine lv_icmp_le (tgt := 54) hx hb dX11_feed_47 (by decide) (fun c24 => ?_) (fun c24 => ?_)
      · skip
        refine lv_iconst (v := 0) hx hb dX11_feed_54 (by decide) ?_
        refine z_ciX (Xc := []) (wr := []) (rx := []) [] [] rfl rfl rfl rfl (by decide) hI (va_runV (As := [.int 0]) (rest := []) ⟨hx, hb, hml, hown, hts⟩ (c_X11_fails l D tc z0 _ κ g _ p0 hk0 0) (cwV 1 hts gX11_feed_X11_fails rfl rfl rfl (by decide +kernel) ⟨Nat.le_of_ble_eq_true rfl, Nat.le_of_ble_eq_true rfl⟩) (z_preV (Xc := []) hK hE hI [] rfl rfl (z_recv hK hI hk0 rfl rfl)) rfl rfl hl.1 rfl (lv_room (Nat.le_of_ble_eq_true rfl)) dX11_feed_55 ⟨(Nat.le_of_ble_eq_true rfl), (Nat.le_of_ble_eq_true rfl)⟩) (fun v25 u H locs hw26 hI => ?_)
        obtain ⟨hw26, rfl⟩ := hw26
        have hI : zI D tc _ s.heap [] L κ (zup g p0 12 (.int 0)) _ _ := hI
        have hMo := hMo.upP (j := 12) (v := .int 0) (by decide)
        obtain rfl : v25 = 0 := hw26.trans (by decide)
        refine lv_if_eq (tgt := 63) hx hb dX11_feed_58 (by decide) (fun _ => ?_) (fun h9 => by first | exact absurd h9 (by decide) | exact absurd (by decide) h9)
        refine lv_aload_n hx hb dX11_feed_63 rfl (lv_at hl 0 rfl) ?_
        refine z_get (k := 13) (j := 1) hM hI hk0 rfl rfl hinX11 rfl (by decide) (by decide +kernel) (fun _ h9 => h9) dX11_feed_64 (fun v27 hv28 => ?_)
        obtain ⟨hg30, i29, rfl, hr31⟩ := hv28
        obtain rfl : lt = i29 := Value.ref.inj (hMo.gt.symm.trans hg30.symm)
        refine lv_iload_n hx hb dX11_feed_67 rfl (lv_at hl 1 rfl) ?_
        refine va_csFq (va_runF (As := [.int ((nI i3))]) (rest := []) (hK.1 1 _ rfl).2 ⟨hx, hb, hml, hown, hts⟩ (c_Jx4a65c_get_915e3 l D tc z0 _ κ (zup g p0 12 (.int 0)) _ lt 14 eT 26 12 nT mT tf rfl hMo.LT rfl rfl i3 (by omega)) (va_cwF 1 hts gX11_feed_Jx4a65c_get_915e3_f101Jx4a65c rfl rfl rfl (hE.2.2.1 (RJx4a65c, ⟨"java/util/List", "get", "(I)Ljava/lang/Object;"⟩, yJx4a65c_get_915e3) (by decide +kernel)) (by decide +kernel) ⟨Nat.le_of_ble_eq_true rfl, Nat.le_of_ble_eq_true rfl⟩) (z_preV (Xc := []) hK hE hI [] rfl rfl (z_recv hK hI hMo.LT.1 rfl rfl)) rfl rfl hl.1 rfl (lv_room (Nat.le_of_ble_eq_true rfl)) dX11_feed_68 ⟨(Nat.le_of_ble_eq_true rfl), (Nat.le_of_ble_eq_true rfl)⟩) (fun r32 hw33 => ?_)
        obtain rfl := hw33
        have hr34 : κ (tf i3) = 12 := hMo.LT.el (i := i3) (by omega)
        show W p l e9 (headSpec wsX11_feed ({ frames := 3, cells := 0, slots := 0, locals := 64 })).room s m ([.ref p0, .int p1, .int p2] : List Value).toArray below meth c _ _ 0 0 (MQ below (va_Qi (fun (r : Int32) (u : zS) => ∃ v : Int32, u = (L, κ, zup g p0 12 (.int v))) (fun (u : zS) (t : State) => zB D tc (zA [] L s.heap.size) [] u t) (zA [] L s.heap.size)) ([.ref p0, .int p1, .int p2] : List Value).toArray s 0 0 (zA [] L s.heap.size)) (F0 m 73 ls (.ref (tf i3) :: []))
        refine z_castS (k := 12) hM hI hr34 rfl rfl (by decide +kernel) dX11_feed_73 ?_
        refine lv_dup hx hb dX11_feed_76 rfl ?_
        refine z_getN (host := "WattgovernModel") (k := 12) (j := 2) hM hE hI hr34 rfl rfl hinX10 rfl (by decide) (by decide +kernel) (fun _ h9 => h9) dX11_feed_77 (fun v35 hv36 => ?_)
        obtain ⟨i37, rfl⟩ := hv36
        refine lv_iload_n hx hb dX11_feed_80 rfl (lv_at hl 2 rfl) ?_
        refine lv_iadd hx hb dX11_feed_81 ?_
        refine lv_topi (fun v38 e39 => ?_)
        refine z_putN (host := "WattgovernModel") (g' := (zup g p0 12 (.int 0))) (k := 12) (j := 2) hM hE hI hr34 rfl rfl hinX10 tyX10 tyX10_ok nmX10 rfl (by decide) (by decide +kernel) (fun _ h9 => h9) rfl rfl rfl rfl ⟨_, rfl⟩ (fun _ _ _ => rfl) dX11_feed_82 (fun H locs hI => ?_)
        refine lv_aload_n hx hb dX11_feed_85 rfl (lv_at hl 0 rfl) ?_
        refine z_get (k := 13) (j := 1) hM hI hk0 rfl rfl hinX11 rfl (by decide) (by decide +kernel) (fun _ h9 => h9) dX11_feed_86 (fun v40 hv41 => ?_)
        obtain ⟨hg43, i42, rfl, hr44⟩ := hv41
        obtain rfl : lt = i42 := Value.ref.inj (hMo.gt.symm.trans hg43.symm)
        refine lv_iload_n hx hb dX11_feed_89 rfl (lv_at hl 1 rfl) ?_
        refine va_csFq (va_runF (As := [.int ((nI i3))]) (rest := []) (hK.1 1 _ rfl).2 ⟨hx, hb, hml, hown, hts⟩ (c_Jx4a65c_get_915e3 l D tc z0 _ κ (zup g p0 12 (.int 0)) _ lt 14 eT 26 12 nT mT tf rfl hMo.LT rfl rfl i3 (by omega)) (va_cwF 1 hts gX11_feed_Jx4a65c_get_915e3_f101Jx4a65c rfl rfl rfl (hE.2.2.1 (RJx4a65c, ⟨"java/util/List", "get", "(I)Ljava/lang/Object;"⟩, yJx4a65c_get_915e3) (by decide +kernel)) (by decide +kernel) ⟨Nat.le_of_ble_eq_true rfl, Nat.le_of_ble_eq_true rfl⟩) (z_preV (Xc := []) hK hE hI [] rfl rfl (z_recv hK hI hMo.LT.1 rfl rfl)) rfl rfl hl.1 rfl (lv_room (Nat.le_of_ble_eq_true rfl)) dX11_feed_90 ⟨(Nat.le_of_ble_eq_true rfl), (Nat.le_of_ble_eq_true rfl)⟩) (fun r45 hw46 => ?_)
        obtain rfl := hw46
        have hr47 : κ (tf i3) = 12 := hMo.LT.el (i := i3) (by omega)
        show W p l e9 (headSpec wsX11_feed ({ frames := 3, cells := 0, slots := 0, locals := 64 })).room s m ([.ref p0, .int p1, .int p2] : List Value).toArray below meth c _ _ 0 0 (MQ below (va_Qi (fun (r : Int32) (u : zS) => ∃ v : Int32, u = (L, κ, zup g p0 12 (.int v))) (fun (u : zS) (t : State) => zB D tc (zA [] L s.heap.size) [] u t) (zA [] L s.heap.size)) ([.ref p0, .int p1, .int p2] : List Value).toArray s 0 0 (zA [] L s.heap.size)) (F0 m 95 ls (.ref (tf i3) :: []))
        refine z_castS (k := 12) hM hI hr47 rfl rfl (by decide +kernel) dX11_feed_95 ?_
        refine z_getN (host := "WattgovernModel") (k := 12) (j := 2) hM hE hI hr47 rfl rfl hinX10 rfl (by decide) (by decide +kernel) (fun _ h9 => h9) dX11_feed_98 (fun v48 hv49 => ?_)
        obtain ⟨i50, rfl⟩ := hv49
        refine W.widen (k := 0) (n := 0) (Nat.le_of_ble_eq_true rfl) (Nat.le_of_ble_eq_true rfl) ?_
        exact W.iret (v := i50) hx hb hr (fun t ht hW => ⟨⟨_, (L, κ, (zup g p0 12 (.int 0))), rfl, ⟨_, rfl⟩, z_end hK hI ht hW⟩, z_F hI ht⟩) (z_locs hI) dX11_feed_101
      · skip
        refine lv_iconst (v := 3) hx hb dX11_feed_50 (by decide) ?_
        refine lv_goto (tgt := 55) hx hb dX11_feed_51 (by decide) ?_
        refine z_ciX (Xc := []) (wr := []) (rx := []) [] [] rfl rfl rfl rfl (by decide) hI (va_runV (As := [.int 3]) (rest := []) ⟨hx, hb, hml, hown, hts⟩ (c_X11_fails l D tc z0 _ κ g _ p0 hk0 3) (cwV 1 hts gX11_feed_X11_fails rfl rfl rfl (by decide +kernel) ⟨Nat.le_of_ble_eq_true rfl, Nat.le_of_ble_eq_true rfl⟩) (z_preV (Xc := []) hK hE hI [] rfl rfl (z_recv hK hI hk0 rfl rfl)) rfl rfl hl.1 rfl (lv_room (Nat.le_of_ble_eq_true rfl)) dX11_feed_55 ⟨(Nat.le_of_ble_eq_true rfl), (Nat.le_of_ble_eq_true rfl)⟩) (fun v51 u H locs hw52 hI => ?_)
        obtain ⟨hw52, rfl⟩ := hw52
        have hI : zI D tc _ s.heap [] L κ (zup g p0 12 (.int 3)) _ _ := hI
        have hMo := hMo.upP (j := 12) (v := .int 3) (by decide)
        obtain rfl : v51 = 1 := hw52.trans (by decide)
        refine lv_if_eq (tgt := 63) hx hb dX11_feed_58 (by decide) (fun h9 => by first | exact absurd h9 (by decide) | exact absurd (by decide) h9) (fun _ => ?_)
        refine lv_iconst (v := 0) hx hb dX11_feed_61 (by decide) ?_
        refine W.widen (k := 0) (n := 0) (Nat.le_of_ble_eq_true rfl) (Nat.le_of_ble_eq_true rfl) ?_
        exact W.iret (v := 0) hx hb hr (fun t ht hW => ⟨⟨_, (L, κ, (zup g p0 12 (.int 3))), rfl, ⟨_, rfl⟩, z_end hK hI ht hW⟩, z_F hI ht⟩) (z_locs hI) dX11_feed_62
    · skip
      refine lv_iconst (v := 2) hx hb dX11_feed_23 (by decide) ?_
      refine lv_goto (tgt := 55) hx hb dX11_feed_24 (by decide) ?_
      refine z_ciX (Xc := []) (wr := []) (rx := []) [] [] rfl rfl rfl rfl (by decide) hI (va_runV (As := [.int 2]) (rest := []) ⟨hx, hb, hml, hown, hts⟩ (c_X11_fails l D tc z0 _ κ g _ p0 hk0 2) (cwV 1 hts gX11_feed_X11_fails rfl rfl rfl (by decide +kernel) ⟨Nat.le_of_ble_eq_true rfl, Nat.le_of_ble_eq_true rfl⟩) (z_preV (Xc := []) hK hE hI [] rfl rfl (z_recv hK hI hk0 rfl rfl)) rfl rfl hl.1 rfl (lv_room (Nat.le_of_ble_eq_true rfl)) dX11_feed_55 ⟨(Nat.le_of_ble_eq_true rfl), (Nat.le_of_ble_eq_true rfl)⟩) (fun v53 u H locs hw54 hI => ?_)
      obtain ⟨hw54, rfl⟩ := hw54
      have hI : zI D tc _ s.heap [] L κ (zup g p0 12 (.int 2)) _ _ := hI
      have hMo := hMo.upP (j := 12) (v := .int 2) (by decide)
      obtain rfl : v53 = 1 := hw54.trans (by decide)
      refine lv_if_eq (tgt := 63) hx hb dX11_feed_58 (by decide) (fun h9 => by first | exact absurd h9 (by decide) | exact absurd (by decide) h9) (fun _ => ?_)
      refine lv_iconst (v := 0) hx hb dX11_feed_61 (by decide) ?_
      refine W.widen (k := 0) (n := 0) (Nat.le_of_ble_eq_true rfl) (Nat.le_of_ble_eq_true rfl) ?_
      exact W.iret (v := 0) hx hb hr (fun t ht hW => ⟨⟨_, (L, κ, (zup g p0 12 (.int 2))), rfl, ⟨_, rfl⟩, z_end hK hI ht hW⟩, z_F hI ht⟩) (z_locs hI) dX11_feed_62
  · skip
    refine lv_if_ne (tgt := 13) hx hb dX11_feed_6 (by decide) (fun h9 => by first | exact absurd h9 (by decide) | exact absurd (by decide) h9) (fun _ => ?_)
    refine lv_iconst (v := 1) hx hb dX11_feed_9 (by decide) ?_
    refine lv_goto (tgt := 55) hx hb dX11_feed_10 (by decide) ?_
    refine z_ciX (Xc := []) (wr := []) (rx := []) [] [] rfl rfl rfl rfl (by decide) hI (va_runV (As := [.int 1]) (rest := []) ⟨hx, hb, hml, hown, hts⟩ (c_X11_fails l D tc z0 _ κ g _ p0 hk0 1) (cwV 1 hts gX11_feed_X11_fails rfl rfl rfl (by decide +kernel) ⟨Nat.le_of_ble_eq_true rfl, Nat.le_of_ble_eq_true rfl⟩) (z_preV (Xc := []) hK hE hI [] rfl rfl (z_recv hK hI hk0 rfl rfl)) rfl rfl hl.1 rfl (lv_room (Nat.le_of_ble_eq_true rfl)) dX11_feed_55 ⟨(Nat.le_of_ble_eq_true rfl), (Nat.le_of_ble_eq_true rfl)⟩) (fun v55 u H locs hw56 hI => ?_)
    obtain ⟨hw56, rfl⟩ := hw56
    have hI : zI D tc _ s.heap [] L κ (zup g p0 12 (.int 1)) _ _ := hI
    have hMo := hMo.upP (j := 12) (v := .int 1) (by decide)
    obtain rfl : v55 = 1 := hw56.trans (by decide)
    refine lv_if_eq (tgt := 63) hx hb dX11_feed_58 (by decide) (fun h9 => by first | exact absurd h9 (by decide) | exact absurd (by decide) h9) (fun _ => ?_)
    refine lv_iconst (v := 0) hx hb dX11_feed_61 (by decide) ?_
    refine W.widen (k := 0) (n := 0) (Nat.le_of_ble_eq_true rfl) (Nat.le_of_ble_eq_true rfl) ?_
    exact W.iret (v := 0) hx hb hr (fun t ht hW => ⟨⟨_, (L, κ, (zup g p0 12 (.int 1))), rfl, ⟨_, rfl⟩, z_end hK hI ht hW⟩, z_F hI ht⟩) (z_locs hI) dX11_feed_62

set_option maxHeartbeats 4000000 in
set_option maxRecDepth 100000 in
theorem c_X11_heatUp (l : Launch) (D : va_G) (tc : Nat → ClassId) (z0 : Nat) (L : List Nat) (κ : Nat → Nat) (g : Nat → Nat → Value) (sz : Nat) (p0 : Nat) (hk0 : κ p0 = 13) (p1 : Int32) (p2 : Int32) (lc eC nC : Nat) (mC : Int32) (cf : Nat → Nat) (lt eT nT : Nat) (mT : Int32) (tf : Nat → Nat) (hMo : zMo κ g z0 p0 lc eC nC mC cf lt eT nT mT tf) : Met l yX11_heatUp wsX11_heatUp ({ frames := 3, cells := 0, slots := 0, locals := 64 }) (zPc D tc z0 [.ref p0, .int p1, .int p2] [] (L, κ, g) sz) (va_Qi (fun (r : Int32) (u : zS) => ∃ v : Int32, u = (L, κ, zup g p0 12 (.int v))) (fun (u : zS) (t : State) => zB D tc (zA [] L sz) [] u t) (zA [] L sz)) 0 0 (zA [] L sz) := by
  refine Met.ofW (cc := cX11_heatUp) (maxL := 3) (ret := (some .int)) (by decide) rfl ?_
  intro p e9 s m args below meth c s₁ B hml hv
  obtain ⟨rfl, rfl, hK, hE, hI⟩ := hv.opn
  have hx := B.exec
  have hb := B.bytes
  have hr := B.returns
  have hts := atoms_spec (ws := wsX11_heatUp) B.pre
  have hown : s.vm.findClass RX11 = some m.cls := findClass_of_methodNamed B.named
  have hlocks := B.notSynchronized
  have hM : zM p s m c cX11_heatUp _ wsX11_heatUp RX11 D tc := ⟨hx, hb, hts, hown, hK⟩
  have hinX11 : ∀ w ∈ wsX110, w ∈ wsX11_heatUp := by decide +kernel
  have hinX9 : ∀ w ∈ wsX90, w ∈ wsX11_heatUp := by decide +kernel
  have hnC := hMo.bC
  have hnT := hMo.bT
  have hl := lv_entry ([.ref p0, .int p1, .int p2]) (n := 3) (Nat.le_of_ble_eq_true rfl)
  rw [lg_entry_eq]
  generalize (lg_sl ([.ref p0, .int p1, .int p2]) ++ List.replicate (3 - (lg_sl ([.ref p0, .int p1, .int p2])).length) Slot.unset).toArray = ls at hl ⊢
  have hl : lv_has ls 3 [(0, .ref p0), (1, .int p1), (2, .int p2)] := hl
  refine lv_aload_n hx hb dX11_heatUp_0 rfl (lv_at hl 0 rfl) ?_
  refine lv_aload_n hx hb dX11_heatUp_1 rfl (lv_at hl 0 rfl) ?_
  refine lv_iload_n hx hb dX11_heatUp_2 rfl (lv_at hl 1 rfl) ?_
  refine vp_callSi (W.runV (As := [.int p1]) (rest := [.ref p0]) ⟨hx, hb, hml, hown, hts⟩ (c_X11_isCore l D tc z0 _ κ g _ p0 hk0 p1 lc eC nC mC cf lt eT nT mT tf hMo) (cwV 1 hts gX11_heatUp_X11_isCore rfl rfl rfl (by decide +kernel) ⟨Nat.le_of_ble_eq_true rfl, Nat.le_of_ble_eq_true rfl⟩) (z_preV (Xc := []) hK hE hI [] rfl rfl (z_recv hK hI hk0 rfl rfl)) rfl rfl hl.1 rfl (lv_room (Nat.le_of_ble_eq_true rfl)) dX11_heatUp_3 ⟨(Nat.le_of_ble_eq_true rfl), (Nat.le_of_ble_eq_true rfl)⟩) (fun v1 hw2 => ?_)
  rcases hw2 with ⟨rfl, i3, hi4, hp5⟩ | ⟨rfl, hno6⟩
  · skip
    rw [hp5] at hl
    refine lv_if_ne (tgt := 13) hx hb dX11_heatUp_6 (by decide) (fun _ => ?_) (fun h9 => by first | exact absurd h9 (by decide) | exact absurd (by decide) h9)
    refine lv_iload_n hx hb dX11_heatUp_13 rfl (lv_at hl 2 rfl) ?_
    refine lv_iconst (v := 1) hx hb dX11_heatUp_14 (by decide) ?_
    refine lv_sipush (v := 9999) hx hb dX11_heatUp_15 (by decide) ?_
    refine vp_callSi (W.runS (As := [.int p2, .int 1, .int 9999]) (rest := [.ref p0]) ⟨hx, hb, hml, hown, hts⟩ (c_X11_in l D tc z0 _ κ g _ p2 1 9999) (va_cwS 3 hts gX11_heatUp_X11_in rfl rfl rfl (by decide +kernel) ⟨Nat.le_of_ble_eq_true rfl, Nat.le_of_ble_eq_true rfl⟩) (z_pre hK hE hI [] rfl rfl) rfl rfl hl.1 rfl (lv_room (Nat.le_of_ble_eq_true rfl)) dX11_heatUp_18 ⟨(Nat.le_of_ble_eq_true rfl), (Nat.le_of_ble_eq_true rfl)⟩) (fun v7 hw8 => ?_)
    obtain ⟨hw8, hz9⟩ := hw8
    refine lv_if_ne (tgt := 28) hx hb dX11_heatUp_21 (by decide) (fun c10 => ?_) (fun c10 => ?_)
    · skip
      refine lv_aload_n hx hb dX11_heatUp_28 rfl (lv_at hl 0 rfl) ?_
      refine z_get (k := 13) (j := 0) hM hI hk0 rfl rfl hinX11 rfl (by decide) (by decide +kernel) (fun _ h9 => h9) dX11_heatUp_29 (fun v11 hv12 => ?_)
      obtain ⟨hg14, i13, rfl, hr15⟩ := hv12
      obtain rfl : lc = i13 := Value.ref.inj (hMo.gc.symm.trans hg14.symm)
      refine lv_iload_n hx hb dX11_heatUp_32 rfl (lv_at hl 1 rfl) ?_
      refine va_csFq (va_runF (As := [.int ((nI i3))]) (rest := [.ref p0]) (hK.1 1 _ rfl).2 ⟨hx, hb, hml, hown, hts⟩ (c_Jx4a65c_get_915e3 l D tc z0 _ κ g _ lc 1 eC 25 11 nC mC cf rfl hMo.LC rfl rfl i3 (by omega)) (va_cwF 1 hts gX11_heatUp_Jx4a65c_get_915e3_f101Jx4a65c rfl rfl rfl (hE.2.2.1 (RJx4a65c, ⟨"java/util/List", "get", "(I)Ljava/lang/Object;"⟩, yJx4a65c_get_915e3) (by decide +kernel)) (by decide +kernel) ⟨Nat.le_of_ble_eq_true rfl, Nat.le_of_ble_eq_true rfl⟩) (z_preV (Xc := []) hK hE hI [] rfl rfl (z_recv hK hI hMo.LC.1 rfl rfl)) rfl rfl hl.1 rfl (lv_room (Nat.le_of_ble_eq_true rfl)) dX11_heatUp_33 ⟨(Nat.le_of_ble_eq_true rfl), (Nat.le_of_ble_eq_true rfl)⟩) (fun r16 hw17 => ?_)
      obtain rfl := hw17
      have hr18 : κ (cf i3) = 11 := hMo.LC.el (i := i3) (by omega)
      show W p l e9 (headSpec wsX11_heatUp ({ frames := 3, cells := 0, slots := 0, locals := 64 })).room s m ([.ref p0, .int p1, .int p2] : List Value).toArray below meth c _ _ 0 0 (MQ below (va_Qi (fun (r : Int32) (u : zS) => ∃ v : Int32, u = (L, κ, zup g p0 12 (.int v))) (fun (u : zS) (t : State) => zB D tc (zA [] L s.heap.size) [] u t) (zA [] L s.heap.size)) ([.ref p0, .int p1, .int p2] : List Value).toArray s 0 0 (zA [] L s.heap.size)) (F0 m 38 ls (.ref (cf i3) :: [.ref p0]))
      refine z_castS (k := 11) hM hI hr18 rfl rfl (by decide +kernel) dX11_heatUp_38 ?_
      refine z_getN (host := "WattgovernModel") (k := 11) (j := 10) hM hE hI hr18 rfl rfl hinX9 rfl (by decide) (by decide +kernel) (fun _ h9 => h9) dX11_heatUp_41 (fun v19 hv20 => ?_)
      obtain ⟨i21, rfl⟩ := hv20
      refine lv_iload_n hx hb dX11_heatUp_44 rfl (lv_at hl 2 rfl) ?_
      refine lv_iadd hx hb dX11_heatUp_45 ?_
      refine lv_topi (fun v22 e23 => ?_)
      refine lv_ldc (v := 99999) hx hb hown (hts (.constant RX11 94 (99999)) (by decide +kernel)) dX11_heatUp_46 ?_
      refine lv_icmp_le (tgt := 55) hx hb dX11_heatUp_48 (by decide) (fun c24 => ?_) (fun c24 => ?_)
      · skip
        refine lv_iconst (v := 0) hx hb dX11_heatUp_55 (by decide) ?_
        refine z_ciX (Xc := []) (wr := []) (rx := []) [] [] rfl rfl rfl rfl (by decide) hI (va_runV (As := [.int 0]) (rest := []) ⟨hx, hb, hml, hown, hts⟩ (c_X11_fails l D tc z0 _ κ g _ p0 hk0 0) (cwV 1 hts gX11_heatUp_X11_fails rfl rfl rfl (by decide +kernel) ⟨Nat.le_of_ble_eq_true rfl, Nat.le_of_ble_eq_true rfl⟩) (z_preV (Xc := []) hK hE hI [] rfl rfl (z_recv hK hI hk0 rfl rfl)) rfl rfl hl.1 rfl (lv_room (Nat.le_of_ble_eq_true rfl)) dX11_heatUp_56 ⟨(Nat.le_of_ble_eq_true rfl), (Nat.le_of_ble_eq_true rfl)⟩) (fun v25 u H locs hw26 hI => ?_)
        obtain ⟨hw26, rfl⟩ := hw26
        have hI : zI D tc _ s.heap [] L κ (zup g p0 12 (.int 0)) _ _ := hI
        have hMo := hMo.upP (j := 12) (v := .int 0) (by decide)
        obtain rfl : v25 = 0 := hw26.trans (by decide)
        refine lv_if_eq (tgt := 64) hx hb dX11_heatUp_59 (by decide) (fun _ => ?_) (fun h9 => by first | exact absurd h9 (by decide) | exact absurd (by decide) h9)
        refine lv_aload_n hx hb dX11_heatUp_64 rfl (lv_at hl 0 rfl) ?_
        refine z_get (k := 13) (j := 0) hM hI hk0 rfl rfl hinX11 rfl (by decide) (by decide +kernel) (fun _ h9 => h9) dX11_heatUp_65 (fun v27 hv28 => ?_)
        obtain ⟨hg30, i29, rfl, hr31⟩ := hv28
        obtain rfl : lc = i29 := Value.ref.inj (hMo.gc.symm.trans hg30.symm)
        refine lv_iload_n hx hb dX11_heatUp_68 rfl (lv_at hl 1 rfl) ?_
        refine va_csFq (va_runF (As := [.int ((nI i3))]) (rest := []) (hK.1 1 _ rfl).2 ⟨hx, hb, hml, hown, hts⟩ (c_Jx4a65c_get_915e3 l D tc z0 _ κ (zup g p0 12 (.int 0)) _ lc 1 eC 25 11 nC mC cf rfl hMo.LC rfl rfl i3 (by omega)) (va_cwF 1 hts gX11_heatUp_Jx4a65c_get_915e3_f101Jx4a65c rfl rfl rfl (hE.2.2.1 (RJx4a65c, ⟨"java/util/List", "get", "(I)Ljava/lang/Object;"⟩, yJx4a65c_get_915e3) (by decide +kernel)) (by decide +kernel) ⟨Nat.le_of_ble_eq_true rfl, Nat.le_of_ble_eq_true rfl⟩) (z_preV (Xc := []) hK hE hI [] rfl rfl (z_recv hK hI hMo.LC.1 rfl rfl)) rfl rfl hl.1 rfl (lv_room (Nat.le_of_ble_eq_true rfl)) dX11_heatUp_69 ⟨(Nat.le_of_ble_eq_true rfl), (Nat.le_of_ble_eq_true rfl)⟩) (fun r32 hw33 => ?_)
        obtain rfl := hw33
        have hr34 : κ (cf i3) = 11 := hMo.LC.el (i := i3) (by omega)
        show W p l e9 (headSpec wsX11_heatUp ({ frames := 3, cells := 0, slots := 0, locals := 64 })).room s m ([.ref p0, .int p1, .int p2] : List Value).toArray below meth c _ _ 0 0 (MQ below (va_Qi (fun (r : Int32) (u : zS) => ∃ v : Int32, u = (L, κ, zup g p0 12 (.int v))) (fun (u : zS) (t : State) => zB D tc (zA [] L s.heap.size) [] u t) (zA [] L s.heap.size)) ([.ref p0, .int p1, .int p2] : List Value).toArray s 0 0 (zA [] L s.heap.size)) (F0 m 74 ls (.ref (cf i3) :: []))
        refine z_castS (k := 11) hM hI hr34 rfl rfl (by decide +kernel) dX11_heatUp_74 ?_
        refine lv_dup hx hb dX11_heatUp_77 rfl ?_
        refine z_getN (host := "WattgovernModel") (k := 11) (j := 10) hM hE hI hr34 rfl rfl hinX9 rfl (by decide) (by decide +kernel) (fun _ h9 => h9) dX11_heatUp_78 (fun v35 hv36 => ?_)
        obtain ⟨i37, rfl⟩ := hv36
        refine lv_iload_n hx hb dX11_heatUp_81 rfl (lv_at hl 2 rfl) ?_
        refine lv_iadd hx hb dX11_heatUp_82 ?_
        refine lv_topi (fun v38 e39 => ?_)
        refine z_putN (host := "WattgovernModel") (g' := (zup g p0 12 (.int 0))) (k := 11) (j := 10) hM hE hI hr34 rfl rfl hinX9 tyX9 tyX9_ok nmX9 rfl (by decide) (by decide +kernel) (fun _ h9 => h9) rfl rfl rfl rfl ⟨_, rfl⟩ (fun _ _ _ => rfl) dX11_heatUp_83 (fun H locs hI => ?_)
        refine lv_aload_n hx hb dX11_heatUp_86 rfl (lv_at hl 0 rfl) ?_
        refine lv_dup hx hb dX11_heatUp_87 rfl ?_
        refine z_get (k := 13) (j := 22) hM hI hk0 rfl rfl hinX11 rfl (by decide) (by decide +kernel) (fun _ h9 => h9) dX11_heatUp_88 (fun v40 hv41 => ?_)
        obtain ⟨i42, rfl⟩ := hv41
        refine lv_iload_n hx hb dX11_heatUp_91 rfl (lv_at hl 2 rfl) ?_
        refine lv_i2l hx hb dX11_heatUp_92 rfl ?_
        refine lv_topl (fun v43 e44 => ?_)
        refine lv_ladd hx hb dX11_heatUp_93 ?_
        refine lv_topl (fun v45 e46 => ?_)
        refine z_put (g' := (zup g p0 12 (.int 0))) (k := 13) (j := 22) hM hI hk0 rfl rfl hinX11 tyX11 tyX11_ok nmX11 rfl (by decide) (by decide +kernel) (fun _ h9 => h9) rfl rfl rfl rfl ⟨_, rfl⟩ (fun _ _ _ => rfl) dX11_heatUp_94 (fun H locs hI => ?_)
        refine lv_aload_n hx hb dX11_heatUp_97 rfl (lv_at hl 0 rfl) ?_
        refine z_get (k := 13) (j := 0) hM hI hk0 rfl rfl hinX11 rfl (by decide) (by decide +kernel) (fun _ h9 => h9) dX11_heatUp_98 (fun v47 hv48 => ?_)
        obtain ⟨hg50, i49, rfl, hr51⟩ := hv48
        obtain rfl : lc = i49 := Value.ref.inj (hMo.gc.symm.trans hg50.symm)
        refine lv_iload_n hx hb dX11_heatUp_101 rfl (lv_at hl 1 rfl) ?_
        refine va_csFq (va_runF (As := [.int ((nI i3))]) (rest := []) (hK.1 1 _ rfl).2 ⟨hx, hb, hml, hown, hts⟩ (c_Jx4a65c_get_915e3 l D tc z0 _ κ (zup g p0 12 (.int 0)) _ lc 1 eC 25 11 nC mC cf rfl hMo.LC rfl rfl i3 (by omega)) (va_cwF 1 hts gX11_heatUp_Jx4a65c_get_915e3_f101Jx4a65c rfl rfl rfl (hE.2.2.1 (RJx4a65c, ⟨"java/util/List", "get", "(I)Ljava/lang/Object;"⟩, yJx4a65c_get_915e3) (by decide +kernel)) (by decide +kernel) ⟨Nat.le_of_ble_eq_true rfl, Nat.le_of_ble_eq_true rfl⟩) (z_preV (Xc := []) hK hE hI [] rfl rfl (z_recv hK hI hMo.LC.1 rfl rfl)) rfl rfl hl.1 rfl (lv_room (Nat.le_of_ble_eq_true rfl)) dX11_heatUp_102 ⟨(Nat.le_of_ble_eq_true rfl), (Nat.le_of_ble_eq_true rfl)⟩) (fun r52 hw53 => ?_)
        obtain rfl := hw53
        have hr54 : κ (cf i3) = 11 := hMo.LC.el (i := i3) (by omega)
        show W p l e9 (headSpec wsX11_heatUp ({ frames := 3, cells := 0, slots := 0, locals := 64 })).room s m ([.ref p0, .int p1, .int p2] : List Value).toArray below meth c _ _ 0 0 (MQ below (va_Qi (fun (r : Int32) (u : zS) => ∃ v : Int32, u = (L, κ, zup g p0 12 (.int v))) (fun (u : zS) (t : State) => zB D tc (zA [] L s.heap.size) [] u t) (zA [] L s.heap.size)) ([.ref p0, .int p1, .int p2] : List Value).toArray s 0 0 (zA [] L s.heap.size)) (F0 m 107 ls (.ref (cf i3) :: []))
        refine z_castS (k := 11) hM hI hr54 rfl rfl (by decide +kernel) dX11_heatUp_107 ?_
        refine vp_callSi (va_Run.run (va_runVN (As := []) (rest := []) ⟨hx, hb, hml, hown, hts⟩ (c_X9_degrees l D tc z0 _ κ (zup g p0 12 (.int 0)) _ ((cf i3)) hr54) ⟨va_cnB 0 hts gX11_heatUp_X9_degrees_n133 rfl rfl rfl (hE.1 (.methodLinkNest RX11 133 yX9_degrees "WattgovernModel") (by decide +kernel) rfl) (hts (.initialized yX9_degrees.cls) (by decide +kernel)) (by decide +kernel) ⟨Nat.le_of_ble_eq_true rfl, Nat.le_of_ble_eq_true rfl⟩, hts (.instanceMethod yX9_degrees) (by decide +kernel), hts (.selects RX9 yX9_degrees yX9_degrees) (by decide +kernel)⟩ (z_preV (Xc := []) hK hE hI [] rfl rfl (z_recv hK hI hr54 rfl rfl)) rfl rfl hl.1 rfl (lv_room (Nat.le_of_ble_eq_true rfl)) dX11_heatUp_110 ⟨(Nat.le_of_ble_eq_true rfl), (Nat.le_of_ble_eq_true rfl)⟩)) (fun v55 hw56 => ?_)
        refine W.widen (k := 0) (n := 0) (Nat.le_of_ble_eq_true rfl) (Nat.le_of_ble_eq_true rfl) ?_
        exact W.iret (v := v55) hx hb hr (fun t ht hW => ⟨⟨_, (L, κ, (zup g p0 12 (.int 0))), rfl, ⟨_, rfl⟩, z_end hK hI ht hW⟩, z_F hI ht⟩) (z_locs hI) dX11_heatUp_113
      · skip
        refine lv_iconst (v := 3) hx hb dX11_heatUp_51 (by decide) ?_
        refine lv_goto (tgt := 56) hx hb dX11_heatUp_52 (by decide) ?_
        refine z_ciX (Xc := []) (wr := []) (rx := []) [] [] rfl rfl rfl rfl (by decide) hI (va_runV (As := [.int 3]) (rest := []) ⟨hx, hb, hml, hown, hts⟩ (c_X11_fails l D tc z0 _ κ g _ p0 hk0 3) (cwV 1 hts gX11_heatUp_X11_fails rfl rfl rfl (by decide +kernel) ⟨Nat.le_of_ble_eq_true rfl, Nat.le_of_ble_eq_true rfl⟩) (z_preV (Xc := []) hK hE hI [] rfl rfl (z_recv hK hI hk0 rfl rfl)) rfl rfl hl.1 rfl (lv_room (Nat.le_of_ble_eq_true rfl)) dX11_heatUp_56 ⟨(Nat.le_of_ble_eq_true rfl), (Nat.le_of_ble_eq_true rfl)⟩) (fun v57 u H locs hw58 hI => ?_)
        obtain ⟨hw58, rfl⟩ := hw58
        have hI : zI D tc _ s.heap [] L κ (zup g p0 12 (.int 3)) _ _ := hI
        have hMo := hMo.upP (j := 12) (v := .int 3) (by decide)
        obtain rfl : v57 = 1 := hw58.trans (by decide)
        refine lv_if_eq (tgt := 64) hx hb dX11_heatUp_59 (by decide) (fun h9 => by first | exact absurd h9 (by decide) | exact absurd (by decide) h9) (fun _ => ?_)
        refine lv_iconst (v := 0) hx hb dX11_heatUp_62 (by decide) ?_
        refine W.widen (k := 0) (n := 0) (Nat.le_of_ble_eq_true rfl) (Nat.le_of_ble_eq_true rfl) ?_
        exact W.iret (v := 0) hx hb hr (fun t ht hW => ⟨⟨_, (L, κ, (zup g p0 12 (.int 3))), rfl, ⟨_, rfl⟩, z_end hK hI ht hW⟩, z_F hI ht⟩) (z_locs hI) dX11_heatUp_63
    · skip
      refine lv_iconst (v := 2) hx hb dX11_heatUp_24 (by decide) ?_
      refine lv_goto (tgt := 56) hx hb dX11_heatUp_25 (by decide) ?_
      refine z_ciX (Xc := []) (wr := []) (rx := []) [] [] rfl rfl rfl rfl (by decide) hI (va_runV (As := [.int 2]) (rest := []) ⟨hx, hb, hml, hown, hts⟩ (c_X11_fails l D tc z0 _ κ g _ p0 hk0 2) (cwV 1 hts gX11_heatUp_X11_fails rfl rfl rfl (by decide +kernel) ⟨Nat.le_of_ble_eq_true rfl, Nat.le_of_ble_eq_true rfl⟩) (z_preV (Xc := []) hK hE hI [] rfl rfl (z_recv hK hI hk0 rfl rfl)) rfl rfl hl.1 rfl (lv_room (Nat.le_of_ble_eq_true rfl)) dX11_heatUp_56 ⟨(Nat.le_of_ble_eq_true rfl), (Nat.le_of_ble_eq_true rfl)⟩) (fun v59 u H locs hw60 hI => ?_)
      obtain ⟨hw60, rfl⟩ := hw60
      have hI : zI D tc _ s.heap [] L κ (zup g p0 12 (.int 2)) _ _ := hI
      have hMo := hMo.upP (j := 12) (v := .int 2) (by decide)
      obtain rfl : v59 = 1 := hw60.trans (by decide)
      refine lv_if_eq (tgt := 64) hx hb dX11_heatUp_59 (by decide) (fun h9 => by first | exact absurd h9 (by decide) | exact absurd (by decide) h9) (fun _ => ?_)
      refine lv_iconst (v := 0) hx hb dX11_heatUp_62 (by decide) ?_
      refine W.widen (k := 0) (n := 0) (Nat.le_of_ble_eq_true rfl) (Nat.le_of_ble_eq_true rfl) ?_
      exact W.iret (v := 0) hx hb hr (fun t ht hW => ⟨⟨_, (L, κ, (zup g p0 12 (.int 2))), rfl, ⟨_, rfl⟩, z_end hK hI ht hW⟩, z_F hI ht⟩) (z_locs hI) dX11_heatUp_63
  · skip
    refine lv_if_ne (tgt := 13) hx hb dX11_heatUp_6 (by decide) (fun h9 => by first | exact absurd h9 (by decide) | exact absurd (by decide) h9) (fun _ => ?_)
    refine lv_iconst (v := 1) hx hb dX11_heatUp_9 (by decide) ?_
    refine lv_goto (tgt := 56) hx hb dX11_heatUp_10 (by decide) ?_
    refine z_ciX (Xc := []) (wr := []) (rx := []) [] [] rfl rfl rfl rfl (by decide) hI (va_runV (As := [.int 1]) (rest := []) ⟨hx, hb, hml, hown, hts⟩ (c_X11_fails l D tc z0 _ κ g _ p0 hk0 1) (cwV 1 hts gX11_heatUp_X11_fails rfl rfl rfl (by decide +kernel) ⟨Nat.le_of_ble_eq_true rfl, Nat.le_of_ble_eq_true rfl⟩) (z_preV (Xc := []) hK hE hI [] rfl rfl (z_recv hK hI hk0 rfl rfl)) rfl rfl hl.1 rfl (lv_room (Nat.le_of_ble_eq_true rfl)) dX11_heatUp_56 ⟨(Nat.le_of_ble_eq_true rfl), (Nat.le_of_ble_eq_true rfl)⟩) (fun v61 u H locs hw62 hI => ?_)
    obtain ⟨hw62, rfl⟩ := hw62
    have hI : zI D tc _ s.heap [] L κ (zup g p0 12 (.int 1)) _ _ := hI
    have hMo := hMo.upP (j := 12) (v := .int 1) (by decide)
    obtain rfl : v61 = 1 := hw62.trans (by decide)
    refine lv_if_eq (tgt := 64) hx hb dX11_heatUp_59 (by decide) (fun h9 => by first | exact absurd h9 (by decide) | exact absurd (by decide) h9) (fun _ => ?_)
    refine lv_iconst (v := 0) hx hb dX11_heatUp_62 (by decide) ?_
    refine W.widen (k := 0) (n := 0) (Nat.le_of_ble_eq_true rfl) (Nat.le_of_ble_eq_true rfl) ?_
    exact W.iret (v := 0) hx hb hr (fun t ht hW => ⟨⟨_, (L, κ, (zup g p0 12 (.int 1))), rfl, ⟨_, rfl⟩, z_end hK hI ht hW⟩, z_F hI ht⟩) (z_locs hI) dX11_heatUp_63

set_option maxHeartbeats 4000000 in
set_option maxRecDepth 100000 in
theorem c_X11_wear (l : Launch) (D : va_G) (tc : Nat → ClassId) (z0 : Nat) (L : List Nat) (κ : Nat → Nat) (g : Nat → Nat → Value) (sz : Nat) (p0 : Nat) (hk0 : κ p0 = 13) (p1 : Int32) (p2 : Int32) (lc eC nC : Nat) (mC : Int32) (cf : Nat → Nat) (lt eT nT : Nat) (mT : Int32) (tf : Nat → Nat) (hMo : zMo κ g z0 p0 lc eC nC mC cf lt eT nT mT tf) : Met l yX11_wear wsX11_wear ({ frames := 3, cells := 0, slots := 0, locals := 64 }) (zPc D tc z0 [.ref p0, .int p1, .int p2] [] (L, κ, g) sz) (va_Qi (fun (r : Int32) (u : zS) => ∃ v : Int32, u = (L, κ, zup g p0 12 (.int v))) (fun (u : zS) (t : State) => zB D tc (zA [] L sz) [] u t) (zA [] L sz)) 0 0 (zA [] L sz) := by
  refine Met.ofW (cc := cX11_wear) (maxL := 3) (ret := (some .int)) (by decide) rfl ?_
  intro p e9 s m args below meth c s₁ B hml hv
  obtain ⟨rfl, rfl, hK, hE, hI⟩ := hv.opn
  have hx := B.exec
  have hb := B.bytes
  have hr := B.returns
  have hts := atoms_spec (ws := wsX11_wear) B.pre
  have hown : s.vm.findClass RX11 = some m.cls := findClass_of_methodNamed B.named
  have hlocks := B.notSynchronized
  have hM : zM p s m c cX11_wear _ wsX11_wear RX11 D tc := ⟨hx, hb, hts, hown, hK⟩
  have hinX11 : ∀ w ∈ wsX110, w ∈ wsX11_wear := by decide +kernel
  have hinX9 : ∀ w ∈ wsX90, w ∈ wsX11_wear := by decide +kernel
  have hnC := hMo.bC
  have hnT := hMo.bT
  have hl := lv_entry ([.ref p0, .int p1, .int p2]) (n := 3) (Nat.le_of_ble_eq_true rfl)
  rw [lg_entry_eq]
  generalize (lg_sl ([.ref p0, .int p1, .int p2]) ++ List.replicate (3 - (lg_sl ([.ref p0, .int p1, .int p2])).length) Slot.unset).toArray = ls at hl ⊢
  have hl : lv_has ls 3 [(0, .ref p0), (1, .int p1), (2, .int p2)] := hl
  refine lv_aload_n hx hb dX11_wear_0 rfl (lv_at hl 0 rfl) ?_
  refine lv_aload_n hx hb dX11_wear_1 rfl (lv_at hl 0 rfl) ?_
  refine lv_iload_n hx hb dX11_wear_2 rfl (lv_at hl 1 rfl) ?_
  refine vp_callSi (W.runV (As := [.int p1]) (rest := [.ref p0]) ⟨hx, hb, hml, hown, hts⟩ (c_X11_isCore l D tc z0 _ κ g _ p0 hk0 p1 lc eC nC mC cf lt eT nT mT tf hMo) (cwV 1 hts gX11_wear_X11_isCore rfl rfl rfl (by decide +kernel) ⟨Nat.le_of_ble_eq_true rfl, Nat.le_of_ble_eq_true rfl⟩) (z_preV (Xc := []) hK hE hI [] rfl rfl (z_recv hK hI hk0 rfl rfl)) rfl rfl hl.1 rfl (lv_room (Nat.le_of_ble_eq_true rfl)) dX11_wear_3 ⟨(Nat.le_of_ble_eq_true rfl), (Nat.le_of_ble_eq_true rfl)⟩) (fun v1 hw2 => ?_)
  rcases hw2 with ⟨rfl, i3, hi4, hp5⟩ | ⟨rfl, hno6⟩
  · skip
    rw [hp5] at hl
    refine lv_if_ne (tgt := 13) hx hb dX11_wear_6 (by decide) (fun _ => ?_) (fun h9 => by first | exact absurd h9 (by decide) | exact absurd (by decide) h9)
    refine lv_iload_n hx hb dX11_wear_13 rfl (lv_at hl 2 rfl) ?_
    refine lv_iconst (v := 1) hx hb dX11_wear_14 (by decide) ?_
    refine lv_sipush (v := 999) hx hb dX11_wear_15 (by decide) ?_
    refine vp_callSi (W.runS (As := [.int p2, .int 1, .int 999]) (rest := [.ref p0]) ⟨hx, hb, hml, hown, hts⟩ (c_X11_in l D tc z0 _ κ g _ p2 1 999) (va_cwS 3 hts gX11_wear_X11_in rfl rfl rfl (by decide +kernel) ⟨Nat.le_of_ble_eq_true rfl, Nat.le_of_ble_eq_true rfl⟩) (z_pre hK hE hI [] rfl rfl) rfl rfl hl.1 rfl (lv_room (Nat.le_of_ble_eq_true rfl)) dX11_wear_18 ⟨(Nat.le_of_ble_eq_true rfl), (Nat.le_of_ble_eq_true rfl)⟩) (fun v7 hw8 => ?_)
    obtain ⟨hw8, hz9⟩ := hw8
    refine lv_if_ne (tgt := 28) hx hb dX11_wear_21 (by decide) (fun c10 => ?_) (fun c10 => ?_)
    · skip
      refine lv_aload_n hx hb dX11_wear_28 rfl (lv_at hl 0 rfl) ?_
      refine z_get (k := 13) (j := 0) hM hI hk0 rfl rfl hinX11 rfl (by decide) (by decide +kernel) (fun _ h9 => h9) dX11_wear_29 (fun v11 hv12 => ?_)
      obtain ⟨hg14, i13, rfl, hr15⟩ := hv12
      obtain rfl : lc = i13 := Value.ref.inj (hMo.gc.symm.trans hg14.symm)
      refine lv_iload_n hx hb dX11_wear_32 rfl (lv_at hl 1 rfl) ?_
      refine va_csFq (va_runF (As := [.int ((nI i3))]) (rest := [.ref p0]) (hK.1 1 _ rfl).2 ⟨hx, hb, hml, hown, hts⟩ (c_Jx4a65c_get_915e3 l D tc z0 _ κ g _ lc 1 eC 25 11 nC mC cf rfl hMo.LC rfl rfl i3 (by omega)) (va_cwF 1 hts gX11_wear_Jx4a65c_get_915e3_f101Jx4a65c rfl rfl rfl (hE.2.2.1 (RJx4a65c, ⟨"java/util/List", "get", "(I)Ljava/lang/Object;"⟩, yJx4a65c_get_915e3) (by decide +kernel)) (by decide +kernel) ⟨Nat.le_of_ble_eq_true rfl, Nat.le_of_ble_eq_true rfl⟩) (z_preV (Xc := []) hK hE hI [] rfl rfl (z_recv hK hI hMo.LC.1 rfl rfl)) rfl rfl hl.1 rfl (lv_room (Nat.le_of_ble_eq_true rfl)) dX11_wear_33 ⟨(Nat.le_of_ble_eq_true rfl), (Nat.le_of_ble_eq_true rfl)⟩) (fun r16 hw17 => ?_)
      obtain rfl := hw17
      have hr18 : κ (cf i3) = 11 := hMo.LC.el (i := i3) (by omega)
      show W p l e9 (headSpec wsX11_wear ({ frames := 3, cells := 0, slots := 0, locals := 64 })).room s m ([.ref p0, .int p1, .int p2] : List Value).toArray below meth c _ _ 0 0 (MQ below (va_Qi (fun (r : Int32) (u : zS) => ∃ v : Int32, u = (L, κ, zup g p0 12 (.int v))) (fun (u : zS) (t : State) => zB D tc (zA [] L s.heap.size) [] u t) (zA [] L s.heap.size)) ([.ref p0, .int p1, .int p2] : List Value).toArray s 0 0 (zA [] L s.heap.size)) (F0 m 38 ls (.ref (cf i3) :: [.ref p0]))
      refine z_castS (k := 11) hM hI hr18 rfl rfl (by decide +kernel) dX11_wear_38 ?_
      refine z_getN (host := "WattgovernModel") (k := 11) (j := 13) hM hE hI hr18 rfl rfl hinX9 rfl (by decide) (by decide +kernel) (fun _ h9 => h9) dX11_wear_41 (fun v19 hv20 => ?_)
      obtain ⟨i21, rfl⟩ := hv20
      refine lv_iload_n hx hb dX11_wear_44 rfl (lv_at hl 2 rfl) ?_
      refine lv_iadd hx hb dX11_wear_45 ?_
      refine lv_topi (fun v22 e23 => ?_)
      refine lv_sipush (v := 9999) hx hb dX11_wear_46 (by decide) ?_
      refine lv_icmp_le (tgt := 56) hx hb dX11_wear_49 (by decide) (fun c24 => ?_) (fun c24 => ?_)
      · skip
        refine lv_iconst (v := 0) hx hb dX11_wear_56 (by decide) ?_
        refine z_ciX (Xc := []) (wr := []) (rx := []) [] [] rfl rfl rfl rfl (by decide) hI (va_runV (As := [.int 0]) (rest := []) ⟨hx, hb, hml, hown, hts⟩ (c_X11_fails l D tc z0 _ κ g _ p0 hk0 0) (cwV 1 hts gX11_wear_X11_fails rfl rfl rfl (by decide +kernel) ⟨Nat.le_of_ble_eq_true rfl, Nat.le_of_ble_eq_true rfl⟩) (z_preV (Xc := []) hK hE hI [] rfl rfl (z_recv hK hI hk0 rfl rfl)) rfl rfl hl.1 rfl (lv_room (Nat.le_of_ble_eq_true rfl)) dX11_wear_57 ⟨(Nat.le_of_ble_eq_true rfl), (Nat.le_of_ble_eq_true rfl)⟩) (fun v25 u H locs hw26 hI => ?_)
        obtain ⟨hw26, rfl⟩ := hw26
        have hI : zI D tc _ s.heap [] L κ (zup g p0 12 (.int 0)) _ _ := hI
        have hMo := hMo.upP (j := 12) (v := .int 0) (by decide)
        obtain rfl : v25 = 0 := hw26.trans (by decide)
        refine lv_if_eq (tgt := 65) hx hb dX11_wear_60 (by decide) (fun _ => ?_) (fun h9 => by first | exact absurd h9 (by decide) | exact absurd (by decide) h9)
        refine lv_aload_n hx hb dX11_wear_65 rfl (lv_at hl 0 rfl) ?_
        refine z_get (k := 13) (j := 0) hM hI hk0 rfl rfl hinX11 rfl (by decide) (by decide +kernel) (fun _ h9 => h9) dX11_wear_66 (fun v27 hv28 => ?_)
        obtain ⟨hg30, i29, rfl, hr31⟩ := hv28
        obtain rfl : lc = i29 := Value.ref.inj (hMo.gc.symm.trans hg30.symm)
        refine lv_iload_n hx hb dX11_wear_69 rfl (lv_at hl 1 rfl) ?_
        refine va_csFq (va_runF (As := [.int ((nI i3))]) (rest := []) (hK.1 1 _ rfl).2 ⟨hx, hb, hml, hown, hts⟩ (c_Jx4a65c_get_915e3 l D tc z0 _ κ (zup g p0 12 (.int 0)) _ lc 1 eC 25 11 nC mC cf rfl hMo.LC rfl rfl i3 (by omega)) (va_cwF 1 hts gX11_wear_Jx4a65c_get_915e3_f101Jx4a65c rfl rfl rfl (hE.2.2.1 (RJx4a65c, ⟨"java/util/List", "get", "(I)Ljava/lang/Object;"⟩, yJx4a65c_get_915e3) (by decide +kernel)) (by decide +kernel) ⟨Nat.le_of_ble_eq_true rfl, Nat.le_of_ble_eq_true rfl⟩) (z_preV (Xc := []) hK hE hI [] rfl rfl (z_recv hK hI hMo.LC.1 rfl rfl)) rfl rfl hl.1 rfl (lv_room (Nat.le_of_ble_eq_true rfl)) dX11_wear_70 ⟨(Nat.le_of_ble_eq_true rfl), (Nat.le_of_ble_eq_true rfl)⟩) (fun r32 hw33 => ?_)
        obtain rfl := hw33
        have hr34 : κ (cf i3) = 11 := hMo.LC.el (i := i3) (by omega)
        show W p l e9 (headSpec wsX11_wear ({ frames := 3, cells := 0, slots := 0, locals := 64 })).room s m ([.ref p0, .int p1, .int p2] : List Value).toArray below meth c _ _ 0 0 (MQ below (va_Qi (fun (r : Int32) (u : zS) => ∃ v : Int32, u = (L, κ, zup g p0 12 (.int v))) (fun (u : zS) (t : State) => zB D tc (zA [] L s.heap.size) [] u t) (zA [] L s.heap.size)) ([.ref p0, .int p1, .int p2] : List Value).toArray s 0 0 (zA [] L s.heap.size)) (F0 m 75 ls (.ref (cf i3) :: []))
        refine z_castS (k := 11) hM hI hr34 rfl rfl (by decide +kernel) dX11_wear_75 ?_
        refine lv_dup hx hb dX11_wear_78 rfl ?_
        refine z_getN (host := "WattgovernModel") (k := 11) (j := 13) hM hE hI hr34 rfl rfl hinX9 rfl (by decide) (by decide +kernel) (fun _ h9 => h9) dX11_wear_79 (fun v35 hv36 => ?_)
        obtain ⟨i37, rfl⟩ := hv36
        refine lv_iload_n hx hb dX11_wear_82 rfl (lv_at hl 2 rfl) ?_
        refine lv_iadd hx hb dX11_wear_83 ?_
        refine lv_topi (fun v38 e39 => ?_)
        refine z_putN (host := "WattgovernModel") (g' := (zup g p0 12 (.int 0))) (k := 11) (j := 13) hM hE hI hr34 rfl rfl hinX9 tyX9 tyX9_ok nmX9 rfl (by decide) (by decide +kernel) (fun _ h9 => h9) rfl rfl rfl rfl ⟨_, rfl⟩ (fun _ _ _ => rfl) dX11_wear_84 (fun H locs hI => ?_)
        refine lv_aload_n hx hb dX11_wear_87 rfl (lv_at hl 0 rfl) ?_
        refine z_get (k := 13) (j := 0) hM hI hk0 rfl rfl hinX11 rfl (by decide) (by decide +kernel) (fun _ h9 => h9) dX11_wear_88 (fun v40 hv41 => ?_)
        obtain ⟨hg43, i42, rfl, hr44⟩ := hv41
        obtain rfl : lc = i42 := Value.ref.inj (hMo.gc.symm.trans hg43.symm)
        refine lv_iload_n hx hb dX11_wear_91 rfl (lv_at hl 1 rfl) ?_
        refine va_csFq (va_runF (As := [.int ((nI i3))]) (rest := []) (hK.1 1 _ rfl).2 ⟨hx, hb, hml, hown, hts⟩ (c_Jx4a65c_get_915e3 l D tc z0 _ κ (zup g p0 12 (.int 0)) _ lc 1 eC 25 11 nC mC cf rfl hMo.LC rfl rfl i3 (by omega)) (va_cwF 1 hts gX11_wear_Jx4a65c_get_915e3_f101Jx4a65c rfl rfl rfl (hE.2.2.1 (RJx4a65c, ⟨"java/util/List", "get", "(I)Ljava/lang/Object;"⟩, yJx4a65c_get_915e3) (by decide +kernel)) (by decide +kernel) ⟨Nat.le_of_ble_eq_true rfl, Nat.le_of_ble_eq_true rfl⟩) (z_preV (Xc := []) hK hE hI [] rfl rfl (z_recv hK hI hMo.LC.1 rfl rfl)) rfl rfl hl.1 rfl (lv_room (Nat.le_of_ble_eq_true rfl)) dX11_wear_92 ⟨(Nat.le_of_ble_eq_true rfl), (Nat.le_of_ble_eq_true rfl)⟩) (fun r45 hw46 => ?_)
        obtain rfl := hw46
        have hr47 : κ (cf i3) = 11 := hMo.LC.el (i := i3) (by omega)
        show W p l e9 (headSpec wsX11_wear ({ frames := 3, cells := 0, slots := 0, locals := 64 })).room s m ([.ref p0, .int p1, .int p2] : List Value).toArray below meth c _ _ 0 0 (MQ below (va_Qi (fun (r : Int32) (u : zS) => ∃ v : Int32, u = (L, κ, zup g p0 12 (.int v))) (fun (u : zS) (t : State) => zB D tc (zA [] L s.heap.size) [] u t) (zA [] L s.heap.size)) ([.ref p0, .int p1, .int p2] : List Value).toArray s 0 0 (zA [] L s.heap.size)) (F0 m 97 ls (.ref (cf i3) :: []))
        refine z_castS (k := 11) hM hI hr47 rfl rfl (by decide +kernel) dX11_wear_97 ?_
        refine z_getN (host := "WattgovernModel") (k := 11) (j := 13) hM hE hI hr47 rfl rfl hinX9 rfl (by decide) (by decide +kernel) (fun _ h9 => h9) dX11_wear_100 (fun v48 hv49 => ?_)
        obtain ⟨i50, rfl⟩ := hv49
        refine W.widen (k := 0) (n := 0) (Nat.le_of_ble_eq_true rfl) (Nat.le_of_ble_eq_true rfl) ?_
        exact W.iret (v := i50) hx hb hr (fun t ht hW => ⟨⟨_, (L, κ, (zup g p0 12 (.int 0))), rfl, ⟨_, rfl⟩, z_end hK hI ht hW⟩, z_F hI ht⟩) (z_locs hI) dX11_wear_103
      · skip
        refine lv_iconst (v := 3) hx hb dX11_wear_52 (by decide) ?_
        refine lv_goto (tgt := 57) hx hb dX11_wear_53 (by decide) ?_
        refine z_ciX (Xc := []) (wr := []) (rx := []) [] [] rfl rfl rfl rfl (by decide) hI (va_runV (As := [.int 3]) (rest := []) ⟨hx, hb, hml, hown, hts⟩ (c_X11_fails l D tc z0 _ κ g _ p0 hk0 3) (cwV 1 hts gX11_wear_X11_fails rfl rfl rfl (by decide +kernel) ⟨Nat.le_of_ble_eq_true rfl, Nat.le_of_ble_eq_true rfl⟩) (z_preV (Xc := []) hK hE hI [] rfl rfl (z_recv hK hI hk0 rfl rfl)) rfl rfl hl.1 rfl (lv_room (Nat.le_of_ble_eq_true rfl)) dX11_wear_57 ⟨(Nat.le_of_ble_eq_true rfl), (Nat.le_of_ble_eq_true rfl)⟩) (fun v51 u H locs hw52 hI => ?_)
        obtain ⟨hw52, rfl⟩ := hw52
        have hI : zI D tc _ s.heap [] L κ (zup g p0 12 (.int 3)) _ _ := hI
        have hMo := hMo.upP (j := 12) (v := .int 3) (by decide)
        obtain rfl : v51 = 1 := hw52.trans (by decide)
        refine lv_if_eq (tgt := 65) hx hb dX11_wear_60 (by decide) (fun h9 => by first | exact absurd h9 (by decide) | exact absurd (by decide) h9) (fun _ => ?_)
        refine lv_iconst (v := 0) hx hb dX11_wear_63 (by decide) ?_
        refine W.widen (k := 0) (n := 0) (Nat.le_of_ble_eq_true rfl) (Nat.le_of_ble_eq_true rfl) ?_
        exact W.iret (v := 0) hx hb hr (fun t ht hW => ⟨⟨_, (L, κ, (zup g p0 12 (.int 3))), rfl, ⟨_, rfl⟩, z_end hK hI ht hW⟩, z_F hI ht⟩) (z_locs hI) dX11_wear_64
    · skip
      refine lv_iconst (v := 2) hx hb dX11_wear_24 (by decide) ?_
      refine lv_goto (tgt := 57) hx hb dX11_wear_25 (by decide) ?_
      refine z_ciX (Xc := []) (wr := []) (rx := []) [] [] rfl rfl rfl rfl (by decide) hI (va_runV (As := [.int 2]) (rest := []) ⟨hx, hb, hml, hown, hts⟩ (c_X11_fails l D tc z0 _ κ g _ p0 hk0 2) (cwV 1 hts gX11_wear_X11_fails rfl rfl rfl (by decide +kernel) ⟨Nat.le_of_ble_eq_true rfl, Nat.le_of_ble_eq_true rfl⟩) (z_preV (Xc := []) hK hE hI [] rfl rfl (z_recv hK hI hk0 rfl rfl)) rfl rfl hl.1 rfl (lv_room (Nat.le_of_ble_eq_true rfl)) dX11_wear_57 ⟨(Nat.le_of_ble_eq_true rfl), (Nat.le_of_ble_eq_true rfl)⟩) (fun v53 u H locs hw54 hI => ?_)
      obtain ⟨hw54, rfl⟩ := hw54
      have hI : zI D tc _ s.heap [] L κ (zup g p0 12 (.int 2)) _ _ := hI
      have hMo := hMo.upP (j := 12) (v := .int 2) (by decide)
      obtain rfl : v53 = 1 := hw54.trans (by decide)
      refine lv_if_eq (tgt := 65) hx hb dX11_wear_60 (by decide) (fun h9 => by first | exact absurd h9 (by decide) | exact absurd (by decide) h9) (fun _ => ?_)
      refine lv_iconst (v := 0) hx hb dX11_wear_63 (by decide) ?_
      refine W.widen (k := 0) (n := 0) (Nat.le_of_ble_eq_true rfl) (Nat.le_of_ble_eq_true rfl) ?_
      exact W.iret (v := 0) hx hb hr (fun t ht hW => ⟨⟨_, (L, κ, (zup g p0 12 (.int 2))), rfl, ⟨_, rfl⟩, z_end hK hI ht hW⟩, z_F hI ht⟩) (z_locs hI) dX11_wear_64
  · skip
    refine lv_if_ne (tgt := 13) hx hb dX11_wear_6 (by decide) (fun h9 => by first | exact absurd h9 (by decide) | exact absurd (by decide) h9) (fun _ => ?_)
    refine lv_iconst (v := 1) hx hb dX11_wear_9 (by decide) ?_
    refine lv_goto (tgt := 57) hx hb dX11_wear_10 (by decide) ?_
    refine z_ciX (Xc := []) (wr := []) (rx := []) [] [] rfl rfl rfl rfl (by decide) hI (va_runV (As := [.int 1]) (rest := []) ⟨hx, hb, hml, hown, hts⟩ (c_X11_fails l D tc z0 _ κ g _ p0 hk0 1) (cwV 1 hts gX11_wear_X11_fails rfl rfl rfl (by decide +kernel) ⟨Nat.le_of_ble_eq_true rfl, Nat.le_of_ble_eq_true rfl⟩) (z_preV (Xc := []) hK hE hI [] rfl rfl (z_recv hK hI hk0 rfl rfl)) rfl rfl hl.1 rfl (lv_room (Nat.le_of_ble_eq_true rfl)) dX11_wear_57 ⟨(Nat.le_of_ble_eq_true rfl), (Nat.le_of_ble_eq_true rfl)⟩) (fun v55 u H locs hw56 hI => ?_)
    obtain ⟨hw56, rfl⟩ := hw56
    have hI : zI D tc _ s.heap [] L κ (zup g p0 12 (.int 1)) _ _ := hI
    have hMo := hMo.upP (j := 12) (v := .int 1) (by decide)
    obtain rfl : v55 = 1 := hw56.trans (by decide)
    refine lv_if_eq (tgt := 65) hx hb dX11_wear_60 (by decide) (fun h9 => by first | exact absurd h9 (by decide) | exact absurd (by decide) h9) (fun _ => ?_)
    refine lv_iconst (v := 0) hx hb dX11_wear_63 (by decide) ?_
    refine W.widen (k := 0) (n := 0) (Nat.le_of_ble_eq_true rfl) (Nat.le_of_ble_eq_true rfl) ?_
    exact W.iret (v := 0) hx hb hr (fun t ht hW => ⟨⟨_, (L, κ, (zup g p0 12 (.int 1))), rfl, ⟨_, rfl⟩, z_end hK hI ht hW⟩, z_F hI ht⟩) (z_locs hI) dX11_wear_64

set_option maxHeartbeats 4000000 in
set_option maxRecDepth 100000 in
theorem c_X11_caseDegrees (l : Launch) (D : va_G) (tc : Nat → ClassId) (z0 : Nat) (L : List Nat) (κ : Nat → Nat) (g : Nat → Nat → Value) (sz : Nat) (p0 : Nat) (hk0 : κ p0 = 13) : Met l yX11_caseDegrees wsX11_caseDegrees ({ frames := 0, cells := 0, slots := 0, locals := 0 }) (zPc D tc z0 [.ref p0] [] (L, κ, g) sz) (va_Qi (fun (r : Int32) (u : zS) => ∃ v : Int32, u = (L, κ, zup g p0 12 (.int v))) (fun (u : zS) (t : State) => zB D tc (zA [] L sz) [] u t) (zA [] L sz)) 0 0 (zA [] L sz) := by
  refine Met.ofW (cc := cX11_caseDegrees) (maxL := 1) (ret := (some .int)) (by decide) rfl ?_
  intro p e9 s m args below meth c s₁ B hml hv
  obtain ⟨rfl, rfl, hK, hE, hI⟩ := hv.opn
  have hx := B.exec
  have hb := B.bytes
  have hr := B.returns
  have hts := atoms_spec (ws := wsX11_caseDegrees) B.pre
  have hown : s.vm.findClass RX11 = some m.cls := findClass_of_methodNamed B.named
  have hlocks := B.notSynchronized
  have hM : zM p s m c cX11_caseDegrees _ wsX11_caseDegrees RX11 D tc := ⟨hx, hb, hts, hown, hK⟩
  have hinX11 : ∀ w ∈ wsX110, w ∈ wsX11_caseDegrees := by decide +kernel
  have hl := lv_entry ([.ref p0]) (n := 1) (Nat.le_of_ble_eq_true rfl)
  rw [lg_entry_eq]
  generalize (lg_sl ([.ref p0]) ++ List.replicate (1 - (lg_sl ([.ref p0])).length) Slot.unset).toArray = ls at hl ⊢
  have hl : lv_has ls 1 [(0, .ref p0)] := hl
  refine lv_aload_n hx hb dX11_caseDegrees_0 rfl (lv_at hl 0 rfl) ?_
  refine lv_iconst (v := 0) hx hb dX11_caseDegrees_1 (by decide) ?_
  refine z_put (g' := (zup g p0 12 (.int 0))) (k := 13) (j := 12) hM hI hk0 rfl rfl hinX11 tyX11 tyX11_ok nmX11 rfl (by decide) (by decide +kernel) (fun _ h9 => h9) rfl rfl rfl rfl ⟨(zup_self _ _ _ _).symm, _, rfl⟩ (fun b i h => zup_ne h) dX11_caseDegrees_2 (fun H locs hI => ?_)
  refine lv_aload_n hx hb dX11_caseDegrees_5 rfl (lv_at hl 0 rfl) ?_
  refine z_get (k := 13) (j := 5) hM hI hk0 rfl rfl hinX11 rfl (by decide) (by decide +kernel) (fun _ h9 => h9) dX11_caseDegrees_6 (fun v1 hv2 => ?_)
  obtain ⟨i3, rfl⟩ := hv2
  refine lv_sipush (v := 200) hx hb dX11_caseDegrees_9 (by decide) ?_
  refine lv_idiv hx hb dX11_caseDegrees_12 (by decide) ?_
  refine lv_topi (fun v4 e5 => ?_)
  refine W.widen (k := 0) (n := 0) (Nat.le_of_ble_eq_true rfl) (Nat.le_of_ble_eq_true rfl) ?_
  exact W.iret (v := v4) hx hb hr (fun t ht hW => ⟨⟨_, (L, κ, (zup g p0 12 (.int 0))), rfl, ⟨_, rfl⟩, z_end hK hI ht hW⟩, z_F hI ht⟩) (z_locs hI) dX11_caseDegrees_13

set_option maxHeartbeats 4000000 in
set_option maxRecDepth 100000 in
theorem c_X11_fan (l : Launch) (D : va_G) (tc : Nat → ClassId) (z0 : Nat) (L : List Nat) (κ : Nat → Nat) (g : Nat → Nat → Value) (sz : Nat) (p0 : Nat) (hk0 : κ p0 = 13) : Met l yX11_fan wsX11_fan ({ frames := 0, cells := 0, slots := 0, locals := 0 }) (zPc D tc z0 [.ref p0] [] (L, κ, g) sz) (va_Qi (fun (r : Int32) (u : zS) => ∃ v : Int32, u = (L, κ, zup g p0 12 (.int v))) (fun (u : zS) (t : State) => zB D tc (zA [] L sz) [] u t) (zA [] L sz)) 0 0 (zA [] L sz) := by
  refine Met.ofW (cc := cX11_fan) (maxL := 1) (ret := (some .int)) (by decide) rfl ?_
  intro p e9 s m args below meth c s₁ B hml hv
  obtain ⟨rfl, rfl, hK, hE, hI⟩ := hv.opn
  have hx := B.exec
  have hb := B.bytes
  have hr := B.returns
  have hts := atoms_spec (ws := wsX11_fan) B.pre
  have hown : s.vm.findClass RX11 = some m.cls := findClass_of_methodNamed B.named
  have hlocks := B.notSynchronized
  have hM : zM p s m c cX11_fan _ wsX11_fan RX11 D tc := ⟨hx, hb, hts, hown, hK⟩
  have hinX11 : ∀ w ∈ wsX110, w ∈ wsX11_fan := by decide +kernel
  have hl := lv_entry ([.ref p0]) (n := 1) (Nat.le_of_ble_eq_true rfl)
  rw [lg_entry_eq]
  generalize (lg_sl ([.ref p0]) ++ List.replicate (1 - (lg_sl ([.ref p0])).length) Slot.unset).toArray = ls at hl ⊢
  have hl : lv_has ls 1 [(0, .ref p0)] := hl
  refine lv_aload_n hx hb dX11_fan_0 rfl (lv_at hl 0 rfl) ?_
  refine lv_iconst (v := 0) hx hb dX11_fan_1 (by decide) ?_
  refine z_put (g' := (zup g p0 12 (.int 0))) (k := 13) (j := 12) hM hI hk0 rfl rfl hinX11 tyX11 tyX11_ok nmX11 rfl (by decide) (by decide +kernel) (fun _ h9 => h9) rfl rfl rfl rfl ⟨(zup_self _ _ _ _).symm, _, rfl⟩ (fun b i h => zup_ne h) dX11_fan_2 (fun H locs hI => ?_)
  refine lv_aload_n hx hb dX11_fan_5 rfl (lv_at hl 0 rfl) ?_
  refine z_get (k := 13) (j := 6) hM hI hk0 rfl rfl hinX11 rfl (by decide) (by decide +kernel) (fun _ h9 => h9) dX11_fan_6 (fun v1 hv2 => ?_)
  obtain ⟨i3, rfl⟩ := hv2
  refine W.widen (k := 0) (n := 0) (Nat.le_of_ble_eq_true rfl) (Nat.le_of_ble_eq_true rfl) ?_
  exact W.iret (v := i3) hx hb hr (fun t ht hW => ⟨⟨_, (L, κ, (zup g p0 12 (.int 0))), rfl, ⟨_, rfl⟩, z_end hK hI ht hW⟩, z_F hI ht⟩) (z_locs hI) dX11_fan_9

set_option maxHeartbeats 4000000 in
set_option maxRecDepth 100000 in
theorem c_X11_battery (l : Launch) (D : va_G) (tc : Nat → ClassId) (z0 : Nat) (L : List Nat) (κ : Nat → Nat) (g : Nat → Nat → Value) (sz : Nat) (p0 : Nat) (hk0 : κ p0 = 13) : Met l yX11_battery wsX11_battery ({ frames := 0, cells := 0, slots := 0, locals := 0 }) (zPc D tc z0 [.ref p0] [] (L, κ, g) sz) (va_Qi (fun (r : Int32) (u : zS) => ∃ v : Int32, u = (L, κ, zup g p0 12 (.int v))) (fun (u : zS) (t : State) => zB D tc (zA [] L sz) [] u t) (zA [] L sz)) 0 0 (zA [] L sz) := by
  refine Met.ofW (cc := cX11_battery) (maxL := 1) (ret := (some .int)) (by decide) rfl ?_
  intro p e9 s m args below meth c s₁ B hml hv
  obtain ⟨rfl, rfl, hK, hE, hI⟩ := hv.opn
  have hx := B.exec
  have hb := B.bytes
  have hr := B.returns
  have hts := atoms_spec (ws := wsX11_battery) B.pre
  have hown : s.vm.findClass RX11 = some m.cls := findClass_of_methodNamed B.named
  have hlocks := B.notSynchronized
  have hM : zM p s m c cX11_battery _ wsX11_battery RX11 D tc := ⟨hx, hb, hts, hown, hK⟩
  have hinX11 : ∀ w ∈ wsX110, w ∈ wsX11_battery := by decide +kernel
  have hl := lv_entry ([.ref p0]) (n := 1) (Nat.le_of_ble_eq_true rfl)
  rw [lg_entry_eq]
  generalize (lg_sl ([.ref p0]) ++ List.replicate (1 - (lg_sl ([.ref p0])).length) Slot.unset).toArray = ls at hl ⊢
  have hl : lv_has ls 1 [(0, .ref p0)] := hl
  refine lv_aload_n hx hb dX11_battery_0 rfl (lv_at hl 0 rfl) ?_
  refine lv_iconst (v := 0) hx hb dX11_battery_1 (by decide) ?_
  refine z_put (g' := (zup g p0 12 (.int 0))) (k := 13) (j := 12) hM hI hk0 rfl rfl hinX11 tyX11 tyX11_ok nmX11 rfl (by decide) (by decide +kernel) (fun _ h9 => h9) rfl rfl rfl rfl ⟨(zup_self _ _ _ _).symm, _, rfl⟩ (fun b i h => zup_ne h) dX11_battery_2 (fun H locs hI => ?_)
  refine lv_aload_n hx hb dX11_battery_5 rfl (lv_at hl 0 rfl) ?_
  refine z_get (k := 13) (j := 8) hM hI hk0 rfl rfl hinX11 rfl (by decide) (by decide +kernel) (fun _ h9 => h9) dX11_battery_6 (fun v1 hv2 => ?_)
  obtain ⟨i3, rfl⟩ := hv2
  refine W.widen (k := 0) (n := 0) (Nat.le_of_ble_eq_true rfl) (Nat.le_of_ble_eq_true rfl) ?_
  exact W.iret (v := i3) hx hb hr (fun t ht hW => ⟨⟨_, (L, κ, (zup g p0 12 (.int 0))), rfl, ⟨_, rfl⟩, z_end hK hI ht hW⟩, z_F hI ht⟩) (z_locs hI) dX11_battery_9

set_option maxHeartbeats 4000000 in
set_option maxRecDepth 100000 in
theorem c_X11_purse (l : Launch) (D : va_G) (tc : Nat → ClassId) (z0 : Nat) (L : List Nat) (κ : Nat → Nat) (g : Nat → Nat → Value) (sz : Nat) (p0 : Nat) (hk0 : κ p0 = 13) : Met l yX11_purse wsX11_purse ({ frames := 0, cells := 0, slots := 0, locals := 0 }) (zPc D tc z0 [.ref p0] [] (L, κ, g) sz) (va_Qi (fun (r : Int32) (u : zS) => ∃ v : Int32, u = (L, κ, zup g p0 12 (.int v))) (fun (u : zS) (t : State) => zB D tc (zA [] L sz) [] u t) (zA [] L sz)) 0 0 (zA [] L sz) := by
  refine Met.ofW (cc := cX11_purse) (maxL := 1) (ret := (some .int)) (by decide) rfl ?_
  intro p e9 s m args below meth c s₁ B hml hv
  obtain ⟨rfl, rfl, hK, hE, hI⟩ := hv.opn
  have hx := B.exec
  have hb := B.bytes
  have hr := B.returns
  have hts := atoms_spec (ws := wsX11_purse) B.pre
  have hown : s.vm.findClass RX11 = some m.cls := findClass_of_methodNamed B.named
  have hlocks := B.notSynchronized
  have hM : zM p s m c cX11_purse _ wsX11_purse RX11 D tc := ⟨hx, hb, hts, hown, hK⟩
  have hinX11 : ∀ w ∈ wsX110, w ∈ wsX11_purse := by decide +kernel
  have hl := lv_entry ([.ref p0]) (n := 1) (Nat.le_of_ble_eq_true rfl)
  rw [lg_entry_eq]
  generalize (lg_sl ([.ref p0]) ++ List.replicate (1 - (lg_sl ([.ref p0])).length) Slot.unset).toArray = ls at hl ⊢
  have hl : lv_has ls 1 [(0, .ref p0)] := hl
  refine lv_aload_n hx hb dX11_purse_0 rfl (lv_at hl 0 rfl) ?_
  refine lv_iconst (v := 0) hx hb dX11_purse_1 (by decide) ?_
  refine z_put (g' := (zup g p0 12 (.int 0))) (k := 13) (j := 12) hM hI hk0 rfl rfl hinX11 tyX11 tyX11_ok nmX11 rfl (by decide) (by decide +kernel) (fun _ h9 => h9) rfl rfl rfl rfl ⟨(zup_self _ _ _ _).symm, _, rfl⟩ (fun b i h => zup_ne h) dX11_purse_2 (fun H locs hI => ?_)
  refine lv_aload_n hx hb dX11_purse_5 rfl (lv_at hl 0 rfl) ?_
  refine z_get (k := 13) (j := 9) hM hI hk0 rfl rfl hinX11 rfl (by decide) (by decide +kernel) (fun _ h9 => h9) dX11_purse_6 (fun v1 hv2 => ?_)
  obtain ⟨i3, rfl⟩ := hv2
  refine W.widen (k := 0) (n := 0) (Nat.le_of_ble_eq_true rfl) (Nat.le_of_ble_eq_true rfl) ?_
  exact W.iret (v := i3) hx hb hr (fun t ht hW => ⟨⟨_, (L, κ, (zup g p0 12 (.int 0))), rfl, ⟨_, rfl⟩, z_end hK hI ht hW⟩, z_F hI ht⟩) (z_locs hI) dX11_purse_9

set_option maxHeartbeats 4000000 in
set_option maxRecDepth 100000 in
theorem c_X11_taken (l : Launch) (D : va_G) (tc : Nat → ClassId) (z0 : Nat) (L : List Nat) (κ : Nat → Nat) (g : Nat → Nat → Value) (sz : Nat) (p0 : Nat) (hk0 : κ p0 = 13) : Met l yX11_taken wsX11_taken ({ frames := 0, cells := 0, slots := 0, locals := 0 }) (zPc D tc z0 [.ref p0] [] (L, κ, g) sz) (va_Qi (fun (r : Int32) (u : zS) => ∃ v : Int32, u = (L, κ, zup g p0 12 (.int v))) (fun (u : zS) (t : State) => zB D tc (zA [] L sz) [] u t) (zA [] L sz)) 0 0 (zA [] L sz) := by
  refine Met.ofW (cc := cX11_taken) (maxL := 1) (ret := (some .int)) (by decide) rfl ?_
  intro p e9 s m args below meth c s₁ B hml hv
  obtain ⟨rfl, rfl, hK, hE, hI⟩ := hv.opn
  have hx := B.exec
  have hb := B.bytes
  have hr := B.returns
  have hts := atoms_spec (ws := wsX11_taken) B.pre
  have hown : s.vm.findClass RX11 = some m.cls := findClass_of_methodNamed B.named
  have hlocks := B.notSynchronized
  have hM : zM p s m c cX11_taken _ wsX11_taken RX11 D tc := ⟨hx, hb, hts, hown, hK⟩
  have hinX11 : ∀ w ∈ wsX110, w ∈ wsX11_taken := by decide +kernel
  have hl := lv_entry ([.ref p0]) (n := 1) (Nat.le_of_ble_eq_true rfl)
  rw [lg_entry_eq]
  generalize (lg_sl ([.ref p0]) ++ List.replicate (1 - (lg_sl ([.ref p0])).length) Slot.unset).toArray = ls at hl ⊢
  have hl : lv_has ls 1 [(0, .ref p0)] := hl
  refine lv_aload_n hx hb dX11_taken_0 rfl (lv_at hl 0 rfl) ?_
  refine lv_iconst (v := 0) hx hb dX11_taken_1 (by decide) ?_
  refine z_put (g' := (zup g p0 12 (.int 0))) (k := 13) (j := 12) hM hI hk0 rfl rfl hinX11 tyX11 tyX11_ok nmX11 rfl (by decide) (by decide +kernel) (fun _ h9 => h9) rfl rfl rfl rfl ⟨(zup_self _ _ _ _).symm, _, rfl⟩ (fun b i h => zup_ne h) dX11_taken_2 (fun H locs hI => ?_)
  refine lv_aload_n hx hb dX11_taken_5 rfl (lv_at hl 0 rfl) ?_
  refine z_get (k := 13) (j := 10) hM hI hk0 rfl rfl hinX11 rfl (by decide) (by decide +kernel) (fun _ h9 => h9) dX11_taken_6 (fun v1 hv2 => ?_)
  obtain ⟨i3, rfl⟩ := hv2
  refine W.widen (k := 0) (n := 0) (Nat.le_of_ble_eq_true rfl) (Nat.le_of_ble_eq_true rfl) ?_
  exact W.iret (v := i3) hx hb hr (fun t ht hW => ⟨⟨_, (L, κ, (zup g p0 12 (.int 0))), rfl, ⟨_, rfl⟩, z_end hK hI ht hW⟩, z_F hI ht⟩) (z_locs hI) dX11_taken_9

set_option maxHeartbeats 4000000 in
set_option maxRecDepth 100000 in
theorem c_X11_owed (l : Launch) (D : va_G) (tc : Nat → ClassId) (z0 : Nat) (L : List Nat) (κ : Nat → Nat) (g : Nat → Nat → Value) (sz : Nat) (p0 : Nat) (hk0 : κ p0 = 13) : Met l yX11_owed wsX11_owed ({ frames := 0, cells := 0, slots := 0, locals := 0 }) (zPc D tc z0 [.ref p0] [] (L, κ, g) sz) (va_Qi (fun (r : Int32) (u : zS) => ∃ v : Int32, u = (L, κ, zup g p0 12 (.int v))) (fun (u : zS) (t : State) => zB D tc (zA [] L sz) [] u t) (zA [] L sz)) 0 0 (zA [] L sz) := by
  refine Met.ofW (cc := cX11_owed) (maxL := 1) (ret := (some .int)) (by decide) rfl ?_
  intro p e9 s m args below meth c s₁ B hml hv
  obtain ⟨rfl, rfl, hK, hE, hI⟩ := hv.opn
  have hx := B.exec
  have hb := B.bytes
  have hr := B.returns
  have hts := atoms_spec (ws := wsX11_owed) B.pre
  have hown : s.vm.findClass RX11 = some m.cls := findClass_of_methodNamed B.named
  have hlocks := B.notSynchronized
  have hM : zM p s m c cX11_owed _ wsX11_owed RX11 D tc := ⟨hx, hb, hts, hown, hK⟩
  have hinX11 : ∀ w ∈ wsX110, w ∈ wsX11_owed := by decide +kernel
  have hl := lv_entry ([.ref p0]) (n := 1) (Nat.le_of_ble_eq_true rfl)
  rw [lg_entry_eq]
  generalize (lg_sl ([.ref p0]) ++ List.replicate (1 - (lg_sl ([.ref p0])).length) Slot.unset).toArray = ls at hl ⊢
  have hl : lv_has ls 1 [(0, .ref p0)] := hl
  refine lv_aload_n hx hb dX11_owed_0 rfl (lv_at hl 0 rfl) ?_
  refine lv_iconst (v := 0) hx hb dX11_owed_1 (by decide) ?_
  refine z_put (g' := (zup g p0 12 (.int 0))) (k := 13) (j := 12) hM hI hk0 rfl rfl hinX11 tyX11 tyX11_ok nmX11 rfl (by decide) (by decide +kernel) (fun _ h9 => h9) rfl rfl rfl rfl ⟨(zup_self _ _ _ _).symm, _, rfl⟩ (fun b i h => zup_ne h) dX11_owed_2 (fun H locs hI => ?_)
  refine lv_aload_n hx hb dX11_owed_5 rfl (lv_at hl 0 rfl) ?_
  refine z_get (k := 13) (j := 11) hM hI hk0 rfl rfl hinX11 rfl (by decide) (by decide +kernel) (fun _ h9 => h9) dX11_owed_6 (fun v1 hv2 => ?_)
  obtain ⟨i3, rfl⟩ := hv2
  refine W.widen (k := 0) (n := 0) (Nat.le_of_ble_eq_true rfl) (Nat.le_of_ble_eq_true rfl) ?_
  exact W.iret (v := i3) hx hb hr (fun t ht hW => ⟨⟨_, (L, κ, (zup g p0 12 (.int 0))), rfl, ⟨_, rfl⟩, z_end hK hI ht hW⟩, z_F hI ht⟩) (z_locs hI) dX11_owed_9

set_option maxHeartbeats 4000000 in
set_option maxRecDepth 100000 in
theorem c_X11_isSound (l : Launch) (D : va_G) (tc : Nat → ClassId) (z0 : Nat) (L : List Nat) (κ : Nat → Nat) (g : Nat → Nat → Value) (sz : Nat) (p0 : Nat) (hk0 : κ p0 = 13) : Met l yX11_isSound wsX11_isSound ({ frames := 0, cells := 0, slots := 0, locals := 0 }) (zPc D tc z0 [.ref p0] [] (L, κ, g) sz) (va_Qi (fun (r : Int32) (u : zS) => ∃ v : Int32, u = (L, κ, zup g p0 12 (.int v))) (fun (u : zS) (t : State) => zB D tc (zA [] L sz) [] u t) (zA [] L sz)) 0 0 (zA [] L sz) := by
  refine Met.ofW (cc := cX11_isSound) (maxL := 1) (ret := (some .boolean)) (by decide) rfl ?_
  intro p e9 s m args below meth c s₁ B hml hv
  obtain ⟨rfl, rfl, hK, hE, hI⟩ := hv.opn
  have hx := B.exec
  have hb := B.bytes
  have hr := B.returns
  have hts := atoms_spec (ws := wsX11_isSound) B.pre
  have hown : s.vm.findClass RX11 = some m.cls := findClass_of_methodNamed B.named
  have hlocks := B.notSynchronized
  have hM : zM p s m c cX11_isSound _ wsX11_isSound RX11 D tc := ⟨hx, hb, hts, hown, hK⟩
  have hinX11 : ∀ w ∈ wsX110, w ∈ wsX11_isSound := by decide +kernel
  have hl := lv_entry ([.ref p0]) (n := 1) (Nat.le_of_ble_eq_true rfl)
  rw [lg_entry_eq]
  generalize (lg_sl ([.ref p0]) ++ List.replicate (1 - (lg_sl ([.ref p0])).length) Slot.unset).toArray = ls at hl ⊢
  have hl : lv_has ls 1 [(0, .ref p0)] := hl
  refine lv_aload_n hx hb dX11_isSound_0 rfl (lv_at hl 0 rfl) ?_
  refine lv_iconst (v := 0) hx hb dX11_isSound_1 (by decide) ?_
  refine z_put (g' := (zup g p0 12 (.int 0))) (k := 13) (j := 12) hM hI hk0 rfl rfl hinX11 tyX11 tyX11_ok nmX11 rfl (by decide) (by decide +kernel) (fun _ h9 => h9) rfl rfl rfl rfl ⟨(zup_self _ _ _ _).symm, _, rfl⟩ (fun b i h => zup_ne h) dX11_isSound_2 (fun H locs hI => ?_)
  refine lv_iconst (v := 1) hx hb dX11_isSound_5 (by decide) ?_
  refine W.widen (k := 0) (n := 0) (Nat.le_of_ble_eq_true rfl) (Nat.le_of_ble_eq_true rfl) ?_
  exact W.zret (v := 1) hx hb hr (by decide) (fun t ht hW => ⟨⟨_, (L, κ, (zup g p0 12 (.int 0))), rfl, ⟨_, rfl⟩, z_end hK hI ht hW⟩, z_F hI ht⟩) (z_locs hI) dX11_isSound_6

set_option maxHeartbeats 4000000 in
set_option maxRecDepth 100000 in
theorem c_X11_checksum (l : Launch) (D : va_G) (tc : Nat → ClassId) (z0 : Nat) (L : List Nat) (κ : Nat → Nat) (g : Nat → Nat → Value) (sz : Nat) (p0 : Nat) (hk0 : κ p0 = 13) (lc eC nC : Nat) (mC : Int32) (cf : Nat → Nat) (lt eT nT : Nat) (mT : Int32) (tf : Nat → Nat) (hMo : zMo κ g z0 p0 lc eC nC mC cf lt eT nT mT tf) : Met l yX11_checksum wsX11_checksum ({ frames := 3, cells := 2, slots := 8, locals := 61 }) (zPc D tc z0 [.ref p0] [] (L, κ, g) sz) (va_Ql (fun (r : Int64) (u : zS) => ∃ v : Int32, u = (L, κ, zup g p0 12 (.int v))) (fun (u : zS) (t : State) => zB D tc (zA [] L sz) [] u t) (zA [] L sz)) 2 8 (zA [] L sz) := by
  refine Met.ofW (cc := cX11_checksum) (maxL := 5) (ret := (some .long)) (by decide) rfl ?_
  intro p e9 s m args below meth c s₁ B hml hv
  obtain ⟨rfl, rfl, hK, hE, hI⟩ := hv.opn
  have hx := B.exec
  have hb := B.bytes
  have hr := B.returns
  have hts := atoms_spec (ws := wsX11_checksum) B.pre
  have hown : s.vm.findClass RX11 = some m.cls := findClass_of_methodNamed B.named
  have hlocks := B.notSynchronized
  have hM : zM p s m c cX11_checksum _ wsX11_checksum RX11 D tc := ⟨hx, hb, hts, hown, hK⟩
  have hinX11 : ∀ w ∈ wsX110, w ∈ wsX11_checksum := by decide +kernel
  have hinX9 : ∀ w ∈ wsX90, w ∈ wsX11_checksum := by decide +kernel
  have hinX10 : ∀ w ∈ wsX100, w ∈ wsX11_checksum := by decide +kernel
  have hnC := hMo.bC
  have hnT := hMo.bT
  have hl := lv_entry ([.ref p0]) (n := 5) (Nat.le_of_ble_eq_true rfl)
  rw [lg_entry_eq]
  generalize (lg_sl ([.ref p0]) ++ List.replicate (5 - (lg_sl ([.ref p0])).length) Slot.unset).toArray = ls at hl ⊢
  have hl : lv_has ls 5 [(0, .ref p0)] := hl
  refine lv_aload_n hx hb dX11_checksum_0 rfl (lv_at hl 0 rfl) ?_
  refine lv_iconst (v := 0) hx hb dX11_checksum_1 (by decide) ?_
  refine z_put (g' := (zup g p0 12 (.int 0))) (k := 13) (j := 12) hM hI hk0 rfl rfl hinX11 tyX11 tyX11_ok nmX11 rfl (by decide) (by decide +kernel) (fun _ h9 => h9) rfl rfl rfl rfl ⟨(zup_self _ _ _ _).symm, _, rfl⟩ (fun b i h => zup_ne h) dX11_checksum_2 (fun H locs hI => ?_)
  have hMo := hMo.upP (j := 12) (v := .int 0) (by decide)
  refine lv_ldc2 (v := 7) hx hb hown (hts (.constantLong RX11 291 (7)) (by decide +kernel)) dX11_checksum_5 ?_
  refine lv_lstore_n (lv' := [(1, .long 7), (0, .ref p0)]) hx hb dX11_checksum_8 rfl hl (by decide) rfl (fun ls hl => ?_)
  refine lv_aload_n hx hb dX11_checksum_9 rfl (lv_at hl 1 rfl) ?_
  refine z_get (k := 13) (j := 0) hM hI hk0 rfl rfl hinX11 rfl (by decide) (by decide +kernel) (fun _ h9 => h9) dX11_checksum_10 (fun v1 hv2 => ?_)
  obtain ⟨hg4, i3, rfl, hr5⟩ := hv2
  obtain rfl : lc = i3 := Value.ref.inj (hMo.gc.symm.trans hg4.symm)
  refine z_qFX (sel := fun u : Nat × zS => u.2) (rxf := fun u : Nat × zS => [(u.1, .inr (0, [.int (nI 0), .int (-1), .int mC, .ref lc]))]) (Xc := []) (wr := []) [] [] rfl rfl rfl rfl (by decide) hI (va_runF (As := []) (rest := []) (hK.1 1 _ rfl).2 ⟨hx, hb, hml, hown, hts⟩ (c_Jx4a65c_iterator_32c93 l D tc z0 _ κ (zup g p0 12 (.int 0)) _ lc 1 eC 25 11 nC mC cf rfl hMo.LC) (va_cwF 0 hts gX11_checksum_Jx4a65c_iterator_32c93_f56Jx4a65c rfl rfl rfl (hE.2.2.1 (RJx4a65c, ⟨"java/util/List", "iterator", "()Ljava/util/Iterator;"⟩, yJx4a65c_iterator_32c93) (by decide +kernel)) (by decide +kernel) ⟨Nat.le_of_ble_eq_true rfl, Nat.le_of_ble_eq_true rfl⟩) (z_preV (Xc := []) hK hE hI [] rfl rfl (z_recv hK hI hMo.LC.1 rfl rfl)) rfl rfl hl.1 rfl (lv_room (Nat.le_of_ble_eq_true rfl)) dX11_checksum_13 ⟨(Nat.le_of_ble_eq_true rfl), (Nat.le_of_ble_eq_true rfl)⟩) (fun _ u H locs hw7 hI => ?_)
  obtain ⟨q6, u⟩ := u
  obtain ⟨rfl, hw7⟩ := hw7
  dsimp only at hw7 hI
  subst hw7
  have hI : zI D tc _ s.heap [(q6, .inr (0, [.int (nI 0), .int (-1), .int mC, .ref lc]))] L κ (zup g p0 12 (.int 0)) _ _ := hI
  show W p l e9 (headSpec wsX11_checksum ({ frames := 3, cells := 2, slots := 8, locals := 61 })).room s m ([.ref p0] : List Value).toArray below meth c _ _ 1 4 (MQ below (va_Ql (fun (r : Int64) (u : zS) => ∃ v : Int32, u = (L, κ, zup g p0 12 (.int v))) (fun (u : zS) (t : State) => zB D tc (zA [] L s.heap.size) [] u t) (zA [] L s.heap.size)) ([.ref p0] : List Value).toArray s 2 8 (zA [] L s.heap.size)) (F0 m 18 ls (.ref q6 :: []))
  refine lv_astore_n (lv' := [(3, .ref q6), (1, .long 7), (0, .ref p0)]) hx hb dX11_checksum_18 rfl hl (by decide) rfl (fun ls hl => ?_)
  have hL19 : ∀ (n : Nat) (H : Heap) (locs : List Loc) (x8 : Int64)  (i9 : Nat) (hi : i9 ≤ nC) (hn : nC - i9 < n) (lr10 : Int32)  (hI : zI D tc (zA [] L s.heap.size) s.heap [(q6, .inr (0, [.int (nI i9), .int lr10, .int mC, .ref lc]))] L κ (zup g p0 12 (.int 0)) H locs) (ls : Array Slot) (hl : lv_has ls 5 [(0, .ref p0), (1, .long x8), (3, .ref q6)]), W p l e9 (headSpec wsX11_checksum ({ frames := 3, cells := 2, slots := 8, locals := 61 })).room s m ([.ref p0] : List Value).toArray below meth c H locs 1 4 (MQ below (va_Ql (fun (r : Int64) (u : zS) => ∃ v : Int32, u = (L, κ, zup g p0 12 (.int v))) (fun (u : zS) (t : State) => zB D tc (zA [] L s.heap.size) [] u t) (zA [] L s.heap.size)) ([.ref p0] : List Value).toArray s 2 8 (zA [] L s.heap.size)) (F0 m 19 ls []) := by
    intro n
    induction n with
    | zero => intro H locs x8 i9 hi hn lr10 hI ls hl; exact absurd hn (Nat.not_lt_zero _)
    | succ n ih19 =>
      intro H locs x8 i9 hi hn lr10 hI ls hl
      refine lv_aload_n hx hb dX11_checksum_19 rfl (lv_at hl 2 rfl) ?_
      refine va_csFi (va_runF (As := []) (rest := []) (hK.1 0 _ rfl).2 ⟨hx, hb, hml, hown, hts⟩ (c_Jx35411_hasNext_aae02 l D tc z0 _ κ (zup g p0 12 (.int 0)) _ lc 1 eC 25 11 nC mC cf rfl hMo.LC q6 i9 lr10 (by omega)) (va_cwF 0 hts gX11_checksum_Jx35411_hasNext_aae02_f60Jx35411 rfl rfl rfl (hE.2.2.1 (RJx35411, ⟨"java/util/Iterator", "hasNext", "()Z"⟩, yJx35411_hasNext_aae02) (by decide +kernel)) (by decide +kernel) ⟨Nat.le_of_ble_eq_true rfl, Nat.le_of_ble_eq_true rfl⟩) (z_preV (Xc := [(q6, .inr (0, [.int (nI i9), .int lr10, .int mC, .ref lc]))]) hK hE hI [0] rfl rfl (z_recvX hK hI (i := 0) rfl rfl)) rfl rfl hl.1 rfl (lv_room (Nat.le_of_ble_eq_true rfl)) dX11_checksum_20 ⟨(Nat.le_of_ble_eq_true rfl), (Nat.le_of_ble_eq_true rfl)⟩) (fun v12 hw11 => ?_)
      rcases hw11 with ⟨rfl, hlt13⟩ | ⟨rfl, hlt13⟩
      · skip
        refine lv_if_eq (tgt := 66) hx hb dX11_checksum_25 (by decide) (fun h9 => by first | exact absurd h9 (by decide) | exact absurd (by decide) h9) (fun _ => ?_)
        refine lv_aload_n hx hb dX11_checksum_28 rfl (lv_at hl 2 rfl) ?_
        refine z_qFX (sel := fun u : zS => u) (rxf := fun _ => [(q6, .inr (0, [.int (nI ((i9 + 1))), .int ((nI i9)), .int mC, .ref lc]))]) (Xc := [(q6, .inr (0, [.int (nI i9), .int lr10, .int mC, .ref lc]))]) (wr := []) [0] [] rfl rfl rfl rfl (by decide) hI (va_runF (As := []) (rest := []) (hK.1 0 _ rfl).2 ⟨hx, hb, hml, hown, hts⟩ (c_Jx35411_next_0502b l D tc z0 _ κ (zup g p0 12 (.int 0)) _ lc 1 eC 25 11 nC mC cf rfl hMo.LC rfl rfl q6 i9 lr10 (by omega)) (va_cwF 0 hts gX11_checksum_Jx35411_next_0502b_f66Jx35411 rfl rfl rfl (hE.2.2.1 (RJx35411, ⟨"java/util/Iterator", "next", "()Ljava/lang/Object;"⟩, yJx35411_next_0502b) (by decide +kernel)) (by decide +kernel) ⟨Nat.le_of_ble_eq_true rfl, Nat.le_of_ble_eq_true rfl⟩) (z_preV (Xc := [(q6, .inr (0, [.int (nI i9), .int lr10, .int mC, .ref lc]))]) hK hE hI [0] rfl rfl (z_recvX hK hI (i := 0) rfl rfl)) rfl rfl hl.1 rfl (lv_room (Nat.le_of_ble_eq_true rfl)) dX11_checksum_29 ⟨(Nat.le_of_ble_eq_true rfl), (Nat.le_of_ble_eq_true rfl)⟩) (fun v15 u H locs hw14 hI => ?_)
        obtain ⟨rfl, rfl⟩ := hw14
        have hI : zI D tc _ s.heap [(q6, .inr (0, [.int (nI ((i9 + 1))), .int ((nI i9)), .int mC, .ref lc]))] L κ (zup g p0 12 (.int 0)) _ _ := hI
        have hr16 : κ (cf i9) = 11 := hMo.LC.el (i := i9) (by omega)
        show W p l e9 (headSpec wsX11_checksum ({ frames := 3, cells := 2, slots := 8, locals := 61 })).room s m ([.ref p0] : List Value).toArray below meth c _ _ _ _ (MQ below (va_Ql (fun (r : Int64) (u : zS) => ∃ v : Int32, u = (L, κ, zup g p0 12 (.int v))) (fun (u : zS) (t : State) => zB D tc (zA [] L s.heap.size) [] u t) (zA [] L s.heap.size)) ([.ref p0] : List Value).toArray s 2 8 (zA [] L s.heap.size)) (F0 m 34 ls (.ref (cf i9) :: []))
        refine W.widen (k := 1) (n := 4) (Nat.le_refl _) (Nat.le_refl _) ?_
        refine z_castS (k := 11) hM hI hr16 rfl rfl (by decide +kernel) dX11_checksum_34 ?_
        refine lv_astore (lv' := [(4, .ref ((cf i9))), (0, .ref p0), (1, .long x8), (3, .ref q6)]) hx hb dX11_checksum_37 hl (by decide) rfl (fun ls hl => ?_)
        refine lv_ldc2 (v := 31) hx hb hown (hts (.constantLong RX11 293 (31)) (by decide +kernel)) dX11_checksum_39 ?_
        refine lv_ldc2 (v := 31) hx hb hown (hts (.constantLong RX11 293 (31)) (by decide +kernel)) dX11_checksum_42 ?_
        refine lv_lload_n hx hb dX11_checksum_45 rfl (lv_at hl 2 rfl) ?_
        refine lv_lmul hx hb dX11_checksum_46 ?_
        refine lv_topl (fun v17 e18 => ?_)
        refine lv_aload hx hb dX11_checksum_47 (lv_at hl 0 rfl) ?_
        refine z_getN (host := "WattgovernModel") (k := 11) (j := 7) hM hE hI hr16 rfl rfl hinX9 rfl (by decide) (by decide +kernel) (fun _ h9 => h9) dX11_checksum_49 (fun v19 hv20 => ?_)
        obtain ⟨i21, rfl⟩ := hv20
        refine lv_i2l hx hb dX11_checksum_52 rfl ?_
        refine lv_topl (fun v22 e23 => ?_)
        refine lv_ladd hx hb dX11_checksum_53 ?_
        refine lv_topl (fun v24 e25 => ?_)
        refine lv_lmul hx hb dX11_checksum_54 ?_
        refine lv_topl (fun v26 e27 => ?_)
        refine lv_aload hx hb dX11_checksum_55 (lv_at hl 0 rfl) ?_
        refine z_getN (host := "WattgovernModel") (k := 11) (j := 10) hM hE hI hr16 rfl rfl hinX9 rfl (by decide) (by decide +kernel) (fun _ h9 => h9) dX11_checksum_57 (fun v28 hv29 => ?_)
        obtain ⟨i30, rfl⟩ := hv29
        refine lv_i2l hx hb dX11_checksum_60 rfl ?_
        refine lv_topl (fun v31 e32 => ?_)
        refine lv_ladd hx hb dX11_checksum_61 ?_
        refine lv_topl (fun v33 e34 => ?_)
        refine lv_lstore_n (lv' := [(1, .long v33), (4, .ref ((cf i9))), (0, .ref p0), (3, .ref q6)]) hx hb dX11_checksum_62 rfl hl (by decide) rfl (fun ls hl => ?_)
        refine lv_goto (tgt := 19) hx hb dX11_checksum_63 (by decide) ?_
        exact ih19 _ _ v33 ((i9 + 1)) (by first | omega | (simp only [] at *; omega)) (by first | omega | (simp only [] at *; omega)) ((nI i9)) hI ls (lv_sub hl [2, 0, 3] rfl)
      · skip
        have hI := z_part (X' := []) [] rfl rfl hI
        refine lv_if_eq (tgt := 66) hx hb dX11_checksum_25 (by decide) (fun _ => ?_) (fun h9 => by first | exact absurd h9 (by decide) | exact absurd (by decide) h9)
        refine lv_aload_n hx hb dX11_checksum_66 rfl (lv_at hl 0 rfl) ?_
        refine z_get (k := 13) (j := 1) hM hI hk0 rfl rfl hinX11 rfl (by decide) (by decide +kernel) (fun _ h9 => h9) dX11_checksum_67 (fun v35 hv36 => ?_)
        obtain ⟨hg38, i37, rfl, hr39⟩ := hv36
        obtain rfl : lt = i37 := Value.ref.inj (hMo.gt.symm.trans hg38.symm)
        refine z_qFX (sel := fun u : Nat × zS => u.2) (rxf := fun u : Nat × zS => [(u.1, .inr (0, [.int (nI 0), .int (-1), .int mT, .ref lt]))]) (Xc := []) (wr := []) [] [] rfl rfl rfl rfl (by decide) hI (va_runF (As := []) (rest := []) (hK.1 1 _ rfl).2 ⟨hx, hb, hml, hown, hts⟩ (c_Jx4a65c_iterator_32c93 l D tc z0 _ κ (zup g p0 12 (.int 0)) _ lt 14 eT 26 12 nT mT tf rfl hMo.LT) (va_cwF 0 hts gX11_checksum_Jx4a65c_iterator_32c93_f56Jx4a65c rfl rfl rfl (hE.2.2.1 (RJx4a65c, ⟨"java/util/List", "iterator", "()Ljava/util/Iterator;"⟩, yJx4a65c_iterator_32c93) (by decide +kernel)) (by decide +kernel) ⟨Nat.le_of_ble_eq_true rfl, Nat.le_of_ble_eq_true rfl⟩) (z_preV (Xc := []) hK hE hI [] rfl rfl (z_recv hK hI hMo.LT.1 rfl rfl)) rfl rfl hl.1 rfl (lv_room (Nat.le_of_ble_eq_true rfl)) dX11_checksum_70 ⟨(Nat.le_of_ble_eq_true rfl), (Nat.le_of_ble_eq_true rfl)⟩) (fun _ u H locs hw41 hI => ?_)
        obtain ⟨q40, u⟩ := u
        obtain ⟨rfl, hw41⟩ := hw41
        dsimp only at hw41 hI
        subst hw41
        have hI : zI D tc _ s.heap [(q40, .inr (0, [.int (nI 0), .int (-1), .int mT, .ref lt]))] L κ (zup g p0 12 (.int 0)) _ _ := hI
        show W p l e9 (headSpec wsX11_checksum ({ frames := 3, cells := 2, slots := 8, locals := 61 })).room s m ([.ref p0] : List Value).toArray below meth c _ _ 2 8 (MQ below (va_Ql (fun (r : Int64) (u : zS) => ∃ v : Int32, u = (L, κ, zup g p0 12 (.int v))) (fun (u : zS) (t : State) => zB D tc (zA [] L s.heap.size) [] u t) (zA [] L s.heap.size)) ([.ref p0] : List Value).toArray s 2 8 (zA [] L s.heap.size)) (F0 m 75 ls (.ref q40 :: []))
        refine lv_astore_n (lv' := [(3, .ref q40), (0, .ref p0), (1, .long x8)]) hx hb dX11_checksum_75 rfl hl (by decide) rfl (fun ls hl => ?_)
        have hL76 : ∀ (n : Nat) (H : Heap) (locs : List Loc) (x42 : Int64)  (i43 : Nat) (hi : i43 ≤ nT) (hn : nT - i43 < n) (lr44 : Int32)  (hI : zI D tc (zA [] L s.heap.size) s.heap [(q40, .inr (0, [.int (nI i43), .int lr44, .int mT, .ref lt]))] L κ (zup g p0 12 (.int 0)) H locs) (ls : Array Slot) (hl : lv_has ls 5 [(0, .ref p0), (1, .long x42), (3, .ref q40)]), W p l e9 (headSpec wsX11_checksum ({ frames := 3, cells := 2, slots := 8, locals := 61 })).room s m ([.ref p0] : List Value).toArray below meth c H locs 2 8 (MQ below (va_Ql (fun (r : Int64) (u : zS) => ∃ v : Int32, u = (L, κ, zup g p0 12 (.int v))) (fun (u : zS) (t : State) => zB D tc (zA [] L s.heap.size) [] u t) (zA [] L s.heap.size)) ([.ref p0] : List Value).toArray s 2 8 (zA [] L s.heap.size)) (F0 m 76 ls []) := by
          intro n
          induction n with
          | zero => intro H locs x42 i43 hi hn lr44 hI ls hl; exact absurd hn (Nat.not_lt_zero _)
          | succ n ih76 =>
            intro H locs x42 i43 hi hn lr44 hI ls hl
            refine lv_aload_n hx hb dX11_checksum_76 rfl (lv_at hl 2 rfl) ?_
            refine va_csFi (va_runF (As := []) (rest := []) (hK.1 0 _ rfl).2 ⟨hx, hb, hml, hown, hts⟩ (c_Jx35411_hasNext_aae02 l D tc z0 _ κ (zup g p0 12 (.int 0)) _ lt 14 eT 26 12 nT mT tf rfl hMo.LT q40 i43 lr44 (by omega)) (va_cwF 0 hts gX11_checksum_Jx35411_hasNext_aae02_f60Jx35411 rfl rfl rfl (hE.2.2.1 (RJx35411, ⟨"java/util/Iterator", "hasNext", "()Z"⟩, yJx35411_hasNext_aae02) (by decide +kernel)) (by decide +kernel) ⟨Nat.le_of_ble_eq_true rfl, Nat.le_of_ble_eq_true rfl⟩) (z_preV (Xc := [(q40, .inr (0, [.int (nI i43), .int lr44, .int mT, .ref lt]))]) hK hE hI [0] rfl rfl (z_recvX hK hI (i := 0) rfl rfl)) rfl rfl hl.1 rfl (lv_room (Nat.le_of_ble_eq_true rfl)) dX11_checksum_77 ⟨(Nat.le_of_ble_eq_true rfl), (Nat.le_of_ble_eq_true rfl)⟩) (fun v46 hw45 => ?_)
            rcases hw45 with ⟨rfl, hlt47⟩ | ⟨rfl, hlt47⟩
            · skip
              refine lv_if_eq (tgt := 112) hx hb dX11_checksum_82 (by decide) (fun h9 => by first | exact absurd h9 (by decide) | exact absurd (by decide) h9) (fun _ => ?_)
              refine lv_aload_n hx hb dX11_checksum_85 rfl (lv_at hl 2 rfl) ?_
              refine z_qFX (sel := fun u : zS => u) (rxf := fun _ => [(q40, .inr (0, [.int (nI ((i43 + 1))), .int ((nI i43)), .int mT, .ref lt]))]) (Xc := [(q40, .inr (0, [.int (nI i43), .int lr44, .int mT, .ref lt]))]) (wr := []) [0] [] rfl rfl rfl rfl (by decide) hI (va_runF (As := []) (rest := []) (hK.1 0 _ rfl).2 ⟨hx, hb, hml, hown, hts⟩ (c_Jx35411_next_0502b l D tc z0 _ κ (zup g p0 12 (.int 0)) _ lt 14 eT 26 12 nT mT tf rfl hMo.LT rfl rfl q40 i43 lr44 (by omega)) (va_cwF 0 hts gX11_checksum_Jx35411_next_0502b_f66Jx35411 rfl rfl rfl (hE.2.2.1 (RJx35411, ⟨"java/util/Iterator", "next", "()Ljava/lang/Object;"⟩, yJx35411_next_0502b) (by decide +kernel)) (by decide +kernel) ⟨Nat.le_of_ble_eq_true rfl, Nat.le_of_ble_eq_true rfl⟩) (z_preV (Xc := [(q40, .inr (0, [.int (nI i43), .int lr44, .int mT, .ref lt]))]) hK hE hI [0] rfl rfl (z_recvX hK hI (i := 0) rfl rfl)) rfl rfl hl.1 rfl (lv_room (Nat.le_of_ble_eq_true rfl)) dX11_checksum_86 ⟨(Nat.le_of_ble_eq_true rfl), (Nat.le_of_ble_eq_true rfl)⟩) (fun v49 u H locs hw48 hI => ?_)
              obtain ⟨rfl, rfl⟩ := hw48
              have hI : zI D tc _ s.heap [(q40, .inr (0, [.int (nI ((i43 + 1))), .int ((nI i43)), .int mT, .ref lt]))] L κ (zup g p0 12 (.int 0)) _ _ := hI
              have hr50 : κ (tf i43) = 12 := hMo.LT.el (i := i43) (by omega)
              show W p l e9 (headSpec wsX11_checksum ({ frames := 3, cells := 2, slots := 8, locals := 61 })).room s m ([.ref p0] : List Value).toArray below meth c _ _ _ _ (MQ below (va_Ql (fun (r : Int64) (u : zS) => ∃ v : Int32, u = (L, κ, zup g p0 12 (.int v))) (fun (u : zS) (t : State) => zB D tc (zA [] L s.heap.size) [] u t) (zA [] L s.heap.size)) ([.ref p0] : List Value).toArray s 2 8 (zA [] L s.heap.size)) (F0 m 91 ls (.ref (tf i43) :: []))
              refine W.widen (k := 2) (n := 8) (Nat.le_refl _) (Nat.le_refl _) ?_
              refine z_castS (k := 12) hM hI hr50 rfl rfl (by decide +kernel) dX11_checksum_91 ?_
              refine lv_astore (lv' := [(4, .ref ((tf i43))), (0, .ref p0), (1, .long x42), (3, .ref q40)]) hx hb dX11_checksum_94 hl (by decide) rfl (fun ls hl => ?_)
              refine lv_ldc2 (v := 31) hx hb hown (hts (.constantLong RX11 293 (31)) (by decide +kernel)) dX11_checksum_96 ?_
              refine lv_lload_n hx hb dX11_checksum_99 rfl (lv_at hl 2 rfl) ?_
              refine lv_lmul hx hb dX11_checksum_100 ?_
              refine lv_topl (fun v51 e52 => ?_)
              refine lv_aload hx hb dX11_checksum_101 (lv_at hl 0 rfl) ?_
              refine z_getN (host := "WattgovernModel") (k := 12) (j := 2) hM hE hI hr50 rfl rfl hinX10 rfl (by decide) (by decide +kernel) (fun _ h9 => h9) dX11_checksum_103 (fun v53 hv54 => ?_)
              obtain ⟨i55, rfl⟩ := hv54
              refine lv_i2l hx hb dX11_checksum_106 rfl ?_
              refine lv_topl (fun v56 e57 => ?_)
              refine lv_ladd hx hb dX11_checksum_107 ?_
              refine lv_topl (fun v58 e59 => ?_)
              refine lv_lstore_n (lv' := [(1, .long v58), (4, .ref ((tf i43))), (0, .ref p0), (3, .ref q40)]) hx hb dX11_checksum_108 rfl hl (by decide) rfl (fun ls hl => ?_)
              refine lv_goto (tgt := 76) hx hb dX11_checksum_109 (by decide) ?_
              exact ih76 _ _ v58 ((i43 + 1)) (by first | omega | (simp only [] at *; omega)) (by first | omega | (simp only [] at *; omega)) ((nI i43)) hI ls (lv_sub hl [2, 0, 3] rfl)
            · skip
              have hI := z_part (X' := []) [] rfl rfl hI
              refine lv_if_eq (tgt := 112) hx hb dX11_checksum_82 (by decide) (fun _ => ?_) (fun h9 => by first | exact absurd h9 (by decide) | exact absurd (by decide) h9)
              refine lv_ldc2 (v := 31) hx hb hown (hts (.constantLong RX11 293 (31)) (by decide +kernel)) dX11_checksum_112 ?_
              refine lv_ldc2 (v := 31) hx hb hown (hts (.constantLong RX11 293 (31)) (by decide +kernel)) dX11_checksum_115 ?_
              refine lv_lload_n hx hb dX11_checksum_118 rfl (lv_at hl 1 rfl) ?_
              refine lv_lmul hx hb dX11_checksum_119 ?_
              refine lv_topl (fun v60 e61 => ?_)
              refine lv_aload_n hx hb dX11_checksum_120 rfl (lv_at hl 0 rfl) ?_
              refine z_get (k := 13) (j := 5) hM hI hk0 rfl rfl hinX11 rfl (by decide) (by decide +kernel) (fun _ h9 => h9) dX11_checksum_121 (fun v62 hv63 => ?_)
              obtain ⟨i64, rfl⟩ := hv63
              refine lv_i2l hx hb dX11_checksum_124 rfl ?_
              refine lv_topl (fun v65 e66 => ?_)
              refine lv_ladd hx hb dX11_checksum_125 ?_
              refine lv_topl (fun v67 e68 => ?_)
              refine lv_lmul hx hb dX11_checksum_126 ?_
              refine lv_topl (fun v69 e70 => ?_)
              refine lv_aload_n hx hb dX11_checksum_127 rfl (lv_at hl 0 rfl) ?_
              refine z_get (k := 13) (j := 8) hM hI hk0 rfl rfl hinX11 rfl (by decide) (by decide +kernel) (fun _ h9 => h9) dX11_checksum_128 (fun v71 hv72 => ?_)
              obtain ⟨i73, rfl⟩ := hv72
              refine lv_i2l hx hb dX11_checksum_131 rfl ?_
              refine lv_topl (fun v74 e75 => ?_)
              refine lv_ladd hx hb dX11_checksum_132 ?_
              refine lv_topl (fun v76 e77 => ?_)
              refine W.widen (k := 2) (n := 8) (Nat.le_of_ble_eq_true rfl) (Nat.le_of_ble_eq_true rfl) ?_
              exact W.lret (v := v76) hx hb hr (fun t ht hW => ⟨⟨_, (L, κ, (zup g p0 12 (.int 0))), rfl, ⟨_, rfl⟩, z_end hK hI ht hW⟩, z_F hI ht⟩) (z_locs hI) dX11_checksum_133
        exact hL76 (nT + 1) _ _ x8 0 (by first | omega | (simp only [] at *; omega)) (by first | omega | (simp only [] at *; omega)) (-1) hI ls (lv_sub hl [1, 2, 0] rfl)
  exact hL19 (nC + 1) _ _ 7 0 (by first | omega | (simp only [] at *; omega)) (by first | omega | (simp only [] at *; omega)) (-1) hI ls (lv_sub hl [2, 1, 0] rfl)

set_option maxHeartbeats 4000000 in
set_option maxRecDepth 100000 in
theorem c_X11_account (l : Launch) (D : va_G) (tc : Nat → ClassId) (z0 : Nat) (L : List Nat) (κ : Nat → Nat) (g : Nat → Nat → Value) (sz : Nat) (p0 : Nat) (hk0 : κ p0 = 13) (p1 : Int32) : Met l yX11_account wsX11_account ({ frames := 4, cells := 1, slots := 6, locals := 91 }) (zPc D tc z0 [.ref p0, .int p1] [] (L, κ, g) sz) (va_Ql (fun (r : Int64) (u : zS) => ∃ v : Int32, u = (L, κ, zup g p0 12 (.int v))) (fun (u : zS) (t : State) => zB D tc (zA [] L sz) [] u t) (zA [] L sz)) 1 6 (zA [] L sz) := by
  refine Met.ofW (cc := cX11_account) (maxL := 4) (ret := (some .long)) (by decide) rfl ?_
  intro p e9 s m args below meth c s₁ B hml hv
  obtain ⟨rfl, rfl, hK, hE, hI⟩ := hv.opn
  have hx := B.exec
  have hb := B.bytes
  have hr := B.returns
  have hts := atoms_spec (ws := wsX11_account) B.pre
  have hown : s.vm.findClass RX11 = some m.cls := findClass_of_methodNamed B.named
  have hlocks := B.notSynchronized
  have hM : zM p s m c cX11_account _ wsX11_account RX11 D tc := ⟨hx, hb, hts, hown, hK⟩
  have hinX11 : ∀ w ∈ wsX110, w ∈ wsX11_account := by decide +kernel
  have hl := lv_entry ([.ref p0, .int p1]) (n := 4) (Nat.le_of_ble_eq_true rfl)
  rw [lg_entry_eq]
  generalize (lg_sl ([.ref p0, .int p1]) ++ List.replicate (4 - (lg_sl ([.ref p0, .int p1])).length) Slot.unset).toArray = ls at hl ⊢
  have hl : lv_has ls 4 [(0, .ref p0), (1, .int p1)] := hl
  obtain ⟨adK, adV, hst9, hR0, hR1⟩ := hE.st
  refine z_ldcwS hx hb hown hR1 dX11_account_0 ?_
  refine lv_iload_n hx hb dX11_account_3 rfl (lv_at hl 1 rfl) ?_
  refine vp_callSi (W.runV (As := [.int p1]) (rest := []) ⟨hx, hb, hml, hown, hts⟩ (c_J0_indexOf_0f7a4 l adK adV _ 1 (by decide) p1) (cwV 1 hts gX11_account_J0_indexOf_0f7a4 rfl rfl rfl (by decide +kernel) ⟨Nat.le_of_ble_eq_true rfl, Nat.le_of_ble_eq_true rfl⟩) (z_preVS hst9 hI.2.1 (vk_recv hst9.1 (by decide) hI.2.1)) rfl rfl hl.1 rfl (lv_room (Nat.le_of_ble_eq_true rfl)) dX11_account_4 ⟨(Nat.le_of_ble_eq_true rfl), (Nat.le_of_ble_eq_true rfl)⟩) (fun v2 hw3 => ?_)
  refine lv_istore_n (lv' := [(2, .int v2), (0, .ref p0), (1, .int p1)]) hx hb dX11_account_7 rfl hl (by decide) rfl (fun ls hl => ?_)
  refine lv_bipush (v := 6) hx hb dX11_account_8 (by decide) ?_
  refine z_newa (ty := .long) (ti := 1) (n := 6) hM hI (by decide +kernel) rfl rfl (by intro C h; cases h) (6, .inr (.inl (fun _ => 0))) (fun cA => rfl) (by decide) (by decide) (by decide) (Nat.le_of_ble_eq_true rfl) (Nat.le_of_ble_eq_true rfl) dX11_account_10 (fun q4 H hI => ?_)
  have hI : zI D tc _ s.heap [(q4, .inl (tc 1, 6, .inr (.inl ((fun _ => 0)))))] L κ g _ _ := hI
  refine lv_dup hx hb dX11_account_12 rfl ?_
  refine lv_iconst (v := 0) hx hb dX11_account_13 (by decide) ?_
  refine lv_aload_n hx hb dX11_account_14 rfl (lv_at hl 1 rfl) ?_
  refine z_get (k := 13) (j := 19) hM hI hk0 rfl rfl hinX11 rfl (by decide) (by decide +kernel) (fun _ h9 => h9) dX11_account_15 (fun v5 hv6 => ?_)
  obtain ⟨i7, rfl⟩ := hv6
  refine z_lastX (i := 0) hM hI rfl (vp_in_c 0 6 (by decide)) dX11_account_18 (fun a8 H locs hI => ?_)
  have hI : zI D tc _ s.heap [(q4, .inl (tc 1, 6, .inr (.inl a8)))] L κ g _ _ := hI
  refine lv_dup hx hb dX11_account_19 rfl ?_
  refine lv_iconst (v := 1) hx hb dX11_account_20 (by decide) ?_
  refine lv_aload_n hx hb dX11_account_21 rfl (lv_at hl 1 rfl) ?_
  refine z_get (k := 13) (j := 20) hM hI hk0 rfl rfl hinX11 rfl (by decide) (by decide +kernel) (fun _ h9 => h9) dX11_account_22 (fun v9 hv10 => ?_)
  obtain ⟨i11, rfl⟩ := hv10
  refine z_lastX (i := 0) hM hI rfl (vp_in_c 1 6 (by decide)) dX11_account_25 (fun a12 H locs hI => ?_)
  have hI : zI D tc _ s.heap [(q4, .inl (tc 1, 6, .inr (.inl a12)))] L κ g _ _ := hI
  refine lv_dup hx hb dX11_account_26 rfl ?_
  refine lv_iconst (v := 2) hx hb dX11_account_27 (by decide) ?_
  refine lv_aload_n hx hb dX11_account_28 rfl (lv_at hl 1 rfl) ?_
  refine z_get (k := 13) (j := 21) hM hI hk0 rfl rfl hinX11 rfl (by decide) (by decide +kernel) (fun _ h9 => h9) dX11_account_29 (fun v13 hv14 => ?_)
  obtain ⟨i15, rfl⟩ := hv14
  refine z_lastX (i := 0) hM hI rfl (vp_in_c 2 6 (by decide)) dX11_account_32 (fun a16 H locs hI => ?_)
  have hI : zI D tc _ s.heap [(q4, .inl (tc 1, 6, .inr (.inl a16)))] L κ g _ _ := hI
  refine lv_dup hx hb dX11_account_33 rfl ?_
  refine lv_iconst (v := 3) hx hb dX11_account_34 (by decide) ?_
  refine lv_aload_n hx hb dX11_account_35 rfl (lv_at hl 1 rfl) ?_
  refine z_get (k := 13) (j := 22) hM hI hk0 rfl rfl hinX11 rfl (by decide) (by decide +kernel) (fun _ h9 => h9) dX11_account_36 (fun v17 hv18 => ?_)
  obtain ⟨i19, rfl⟩ := hv18
  refine z_lastX (i := 0) hM hI rfl (vp_in_c 3 6 (by decide)) dX11_account_39 (fun a20 H locs hI => ?_)
  have hI : zI D tc _ s.heap [(q4, .inl (tc 1, 6, .inr (.inl a20)))] L κ g _ _ := hI
  refine lv_dup hx hb dX11_account_40 rfl ?_
  refine lv_iconst (v := 4) hx hb dX11_account_41 (by decide) ?_
  refine lv_aload_n hx hb dX11_account_42 rfl (lv_at hl 1 rfl) ?_
  refine z_get (k := 13) (j := 23) hM hI hk0 rfl rfl hinX11 rfl (by decide) (by decide +kernel) (fun _ h9 => h9) dX11_account_43 (fun v21 hv22 => ?_)
  obtain ⟨i23, rfl⟩ := hv22
  refine z_lastX (i := 0) hM hI rfl (vp_in_c 4 6 (by decide)) dX11_account_46 (fun a24 H locs hI => ?_)
  have hI : zI D tc _ s.heap [(q4, .inl (tc 1, 6, .inr (.inl a24)))] L κ g _ _ := hI
  refine lv_dup hx hb dX11_account_47 rfl ?_
  refine lv_iconst (v := 5) hx hb dX11_account_48 (by decide) ?_
  refine lv_aload_n hx hb dX11_account_49 rfl (lv_at hl 1 rfl) ?_
  refine z_get (k := 13) (j := 24) hM hI hk0 rfl rfl hinX11 rfl (by decide) (by decide +kernel) (fun _ h9 => h9) dX11_account_50 (fun v25 hv26 => ?_)
  obtain ⟨i27, rfl⟩ := hv26
  refine z_lastX (i := 0) hM hI rfl (vp_in_c 5 6 (by decide)) dX11_account_53 (fun a28 H locs hI => ?_)
  have hI : zI D tc _ s.heap [(q4, .inl (tc 1, 6, .inr (.inl a28)))] L κ g _ _ := hI
  refine lv_astore_n (lv' := [(3, .ref q4), (2, .int v2), (0, .ref p0), (1, .int p1)]) hx hb dX11_account_54 rfl hl (by decide) rfl (fun ls hl => ?_)
  refine lv_aload_n hx hb dX11_account_55 rfl (lv_at hl 2 rfl) ?_
  refine lv_iload_n hx hb dX11_account_56 rfl (lv_at hl 1 rfl) ?_
  refine lv_if_ge (tgt := 64) hx hb dX11_account_57 (by decide) (fun c29 => ?_) (fun c29 => ?_)
  · skip
    refine lv_iconst (v := 0) hx hb dX11_account_64 (by decide) ?_
    refine z_ciX (Xc := []) (wr := [(q4, .inl (tc 1, 6, .inr (.inl a28)))]) (rx := []) [] [0] rfl rfl rfl rfl (by decide) hI (va_runV (As := [.int 0]) (rest := []) ⟨hx, hb, hml, hown, hts⟩ (c_X11_fails l D tc z0 _ κ g _ p0 hk0 0) (cwV 1 hts gX11_account_X11_fails rfl rfl rfl (by decide +kernel) ⟨Nat.le_of_ble_eq_true rfl, Nat.le_of_ble_eq_true rfl⟩) (z_preV (Xc := []) hK hE hI [] rfl rfl (z_recv hK hI hk0 rfl rfl)) rfl rfl hl.1 rfl (lv_room (Nat.le_of_ble_eq_true rfl)) dX11_account_65 ⟨(Nat.le_of_ble_eq_true rfl), (Nat.le_of_ble_eq_true rfl)⟩) (fun v30 u H locs hw31 hI => ?_)
    obtain ⟨hw31, rfl⟩ := hw31
    have hI : zI D tc _ s.heap [(q4, .inl (tc 1, 6, .inr (.inl a28)))] L κ (zup g p0 12 (.int 0)) _ _ := hI
    obtain rfl : v30 = 0 := hw31.trans (by decide)
    refine lv_if_eq (tgt := 75) hx hb dX11_account_68 (by decide) (fun _ => ?_) (fun h9 => by first | exact absurd h9 (by decide) | exact absurd (by decide) h9)
    refine lv_aload_n hx hb dX11_account_75 rfl (lv_at hl 0 rfl) ?_
    refine lv_iload_n hx hb dX11_account_76 rfl (lv_at hl 1 rfl) ?_
    refine z_laldX (i := 0) hM hI rfl (z_ixin hw3 c29) dX11_account_77 (fun v32 => ?_)
    have hI := z_drop hI
    refine W.widen (k := 1) (n := 6) (Nat.le_of_ble_eq_true rfl) (Nat.le_of_ble_eq_true rfl) ?_
    exact W.lret (v := v32) hx hb hr (fun t ht hW => ⟨⟨_, (L, κ, (zup g p0 12 (.int 0))), rfl, ⟨_, rfl⟩, z_end hK hI ht hW⟩, z_F hI ht⟩) (z_locs hI) dX11_account_78
  · skip
    refine lv_iconst (v := 1) hx hb dX11_account_60 (by decide) ?_
    refine lv_goto (tgt := 65) hx hb dX11_account_61 (by decide) ?_
    refine z_ciX (Xc := []) (wr := [(q4, .inl (tc 1, 6, .inr (.inl a28)))]) (rx := []) [] [0] rfl rfl rfl rfl (by decide) hI (va_runV (As := [.int 1]) (rest := []) ⟨hx, hb, hml, hown, hts⟩ (c_X11_fails l D tc z0 _ κ g _ p0 hk0 1) (cwV 1 hts gX11_account_X11_fails rfl rfl rfl (by decide +kernel) ⟨Nat.le_of_ble_eq_true rfl, Nat.le_of_ble_eq_true rfl⟩) (z_preV (Xc := []) hK hE hI [] rfl rfl (z_recv hK hI hk0 rfl rfl)) rfl rfl hl.1 rfl (lv_room (Nat.le_of_ble_eq_true rfl)) dX11_account_65 ⟨(Nat.le_of_ble_eq_true rfl), (Nat.le_of_ble_eq_true rfl)⟩) (fun v33 u H locs hw34 hI => ?_)
    obtain ⟨hw34, rfl⟩ := hw34
    have hI : zI D tc _ s.heap [(q4, .inl (tc 1, 6, .inr (.inl a28)))] L κ (zup g p0 12 (.int 1)) _ _ := hI
    obtain rfl : v33 = 1 := hw34.trans (by decide)
    refine lv_if_eq (tgt := 75) hx hb dX11_account_68 (by decide) (fun h9 => by first | exact absurd h9 (by decide) | exact absurd (by decide) h9) (fun _ => ?_)
    refine lv_lconst (v := 0) hx hb dX11_account_71 (by decide) ?_
    refine lv_goto (tgt := 78) hx hb dX11_account_72 (by decide) ?_
    have hI := z_drop hI
    refine W.widen (k := 1) (n := 6) (Nat.le_of_ble_eq_true rfl) (Nat.le_of_ble_eq_true rfl) ?_
    exact W.lret (v := 0) hx hb hr (fun t ht hW => ⟨⟨_, (L, κ, (zup g p0 12 (.int 1))), rfl, ⟨_, rfl⟩, z_end hK hI ht hW⟩, z_F hI ht⟩) (z_locs hI) dX11_account_78

set_option maxHeartbeats 4000000 in
set_option maxRecDepth 100000 in
theorem c_X11_holds (l : Launch) (D : va_G) (tc : Nat → ClassId) (z0 : Nat) (L : List Nat) (κ : Nat → Nat) (g : Nat → Nat → Value) (sz : Nat) (p0 : Nat) (hk0 : κ p0 = 13) : Met l yX11_holds wsX11_holds ({ frames := 0, cells := 0, slots := 0, locals := 0 }) (zPc D tc z0 [.ref p0] [] (L, κ, g) sz) (va_Qi (fun (r : Int32) (u : zS) => g p0 14 = .int r ∧ u = (L, κ, zup g p0 12 (.int 0))) (fun (u : zS) (t : State) => zB D tc (zA [] L sz) [] u t) (zA [] L sz)) 0 0 (zA [] L sz) := by
  refine Met.ofW (cc := cX11_holds) (maxL := 1) (ret := (some .int)) (by decide) rfl ?_
  intro p e9 s m args below meth c s₁ B hml hv
  obtain ⟨rfl, rfl, hK, hE, hI⟩ := hv.opn
  have hx := B.exec
  have hb := B.bytes
  have hr := B.returns
  have hts := atoms_spec (ws := wsX11_holds) B.pre
  have hown : s.vm.findClass RX11 = some m.cls := findClass_of_methodNamed B.named
  have hlocks := B.notSynchronized
  have hM : zM p s m c cX11_holds _ wsX11_holds RX11 D tc := ⟨hx, hb, hts, hown, hK⟩
  have hinX11 : ∀ w ∈ wsX110, w ∈ wsX11_holds := by decide +kernel
  have hl := lv_entry ([.ref p0]) (n := 1) (Nat.le_of_ble_eq_true rfl)
  rw [lg_entry_eq]
  generalize (lg_sl ([.ref p0]) ++ List.replicate (1 - (lg_sl ([.ref p0])).length) Slot.unset).toArray = ls at hl ⊢
  have hl : lv_has ls 1 [(0, .ref p0)] := hl
  refine lv_aload_n hx hb dX11_holds_0 rfl (lv_at hl 0 rfl) ?_
  refine lv_iconst (v := 0) hx hb dX11_holds_1 (by decide) ?_
  refine z_put (g' := (zup g p0 12 (.int 0))) (k := 13) (j := 12) hM hI hk0 rfl rfl hinX11 tyX11 tyX11_ok nmX11 rfl (by decide) (by decide +kernel) (fun _ h9 => h9) rfl rfl rfl rfl ⟨(zup_self _ _ _ _).symm, _, rfl⟩ (fun b i h => zup_ne h) dX11_holds_2 (fun H locs hI => ?_)
  refine lv_aload_n hx hb dX11_holds_5 rfl (lv_at hl 0 rfl) ?_
  refine z_get (k := 13) (j := 14) hM hI hk0 rfl rfl hinX11 rfl (by decide) (by decide +kernel) (fun _ h9 => h9) dX11_holds_6 (fun v1 hv2 => ?_)
  obtain ⟨hg4, i3, rfl⟩ := hv2
  refine W.widen (k := 0) (n := 0) (Nat.le_of_ble_eq_true rfl) (Nat.le_of_ble_eq_true rfl) ?_
  exact W.iret (v := i3) hx hb hr (fun t ht hW => ⟨⟨_, (L, κ, (zup g p0 12 (.int 0))), rfl, ⟨((zup_ne (Or.inr (by decide))).symm.trans hg4.symm), rfl⟩, z_end hK hI ht hW⟩, z_F hI ht⟩) (z_locs hI) dX11_holds_9

set_option maxHeartbeats 4000000 in
set_option maxRecDepth 100000 in
theorem c_X11_why (l : Launch) (D : va_G) (tc : Nat → ClassId) (z0 : Nat) (L : List Nat) (κ : Nat → Nat) (g : Nat → Nat → Value) (sz : Nat) (p0 : Nat) (hk0 : κ p0 = 13) : Met l yX11_why wsX11_why ({ frames := 0, cells := 0, slots := 0, locals := 0 }) (zPc D tc z0 [.ref p0] [] (L, κ, g) sz) (va_Qi (fun (r : Int32) (u : zS) => g p0 26 = .int r ∧ u = (L, κ, zup g p0 12 (.int 0))) (fun (u : zS) (t : State) => zB D tc (zA [] L sz) [] u t) (zA [] L sz)) 0 0 (zA [] L sz) := by
  refine Met.ofW (cc := cX11_why) (maxL := 1) (ret := (some .char)) (by decide) rfl ?_
  intro p e9 s m args below meth c s₁ B hml hv
  obtain ⟨rfl, rfl, hK, hE, hI⟩ := hv.opn
  have hx := B.exec
  have hb := B.bytes
  have hr := B.returns
  have hts := atoms_spec (ws := wsX11_why) B.pre
  have hown : s.vm.findClass RX11 = some m.cls := findClass_of_methodNamed B.named
  have hlocks := B.notSynchronized
  have hM : zM p s m c cX11_why _ wsX11_why RX11 D tc := ⟨hx, hb, hts, hown, hK⟩
  have hinX11 : ∀ w ∈ wsX110, w ∈ wsX11_why := by decide +kernel
  have hl := lv_entry ([.ref p0]) (n := 1) (Nat.le_of_ble_eq_true rfl)
  rw [lg_entry_eq]
  generalize (lg_sl ([.ref p0]) ++ List.replicate (1 - (lg_sl ([.ref p0])).length) Slot.unset).toArray = ls at hl ⊢
  have hl : lv_has ls 1 [(0, .ref p0)] := hl
  refine lv_aload_n hx hb dX11_why_0 rfl (lv_at hl 0 rfl) ?_
  refine lv_iconst (v := 0) hx hb dX11_why_1 (by decide) ?_
  refine z_put (g' := (zup g p0 12 (.int 0))) (k := 13) (j := 12) hM hI hk0 rfl rfl hinX11 tyX11 tyX11_ok nmX11 rfl (by decide) (by decide +kernel) (fun _ h9 => h9) rfl rfl rfl rfl ⟨(zup_self _ _ _ _).symm, _, rfl⟩ (fun b i h => zup_ne h) dX11_why_2 (fun H locs hI => ?_)
  refine lv_aload_n hx hb dX11_why_5 rfl (lv_at hl 0 rfl) ?_
  refine z_get (k := 13) (j := 26) hM hI hk0 rfl rfl hinX11 rfl (by decide) (by decide +kernel) (fun _ h9 => h9) dX11_why_6 (fun v1 hv2 => ?_)
  obtain ⟨hg4, i3, rfl, hf5⟩ := hv2
  refine W.widen (k := 0) (n := 0) (Nat.le_of_ble_eq_true rfl) (Nat.le_of_ble_eq_true rfl) ?_
  exact W.zret (v := i3) hx hb hr (z_cn (by assumption)) (fun t ht hW => ⟨⟨_, (L, κ, (zup g p0 12 (.int 0))), rfl, ⟨((zup_ne (Or.inr (by decide))).symm.trans hg4.symm), rfl⟩, z_end hK hI ht hW⟩, z_F hI ht⟩) (z_locs hI) dX11_why_9

set_option maxHeartbeats 4000000 in
set_option maxRecDepth 100000 in
theorem c_X11_killFan (l : Launch) (D : va_G) (tc : Nat → ClassId) (z0 : Nat) (L : List Nat) (κ : Nat → Nat) (g : Nat → Nat → Value) (sz : Nat) (p0 : Nat) (hk0 : κ p0 = 13) (p1 : Int32) (hz1 : p1 = 0 ∨ p1 = 1) : Met l yX11_killFan wsX11_killFan ({ frames := 0, cells := 0, slots := 0, locals := 0 }) (zPc D tc z0 [.ref p0, .int p1] [] (L, κ, g) sz) (va_Qi (fun (r : Int32) (u : zS) => g p0 25 = .int r ∧ (r = 0 ∨ r = 1) ∧ u = (L, κ, zup (zup g p0 12 (.int 0)) p0 25 (.int p1))) (fun (u : zS) (t : State) => zB D tc (zA [] L sz) [] u t) (zA [] L sz)) 0 0 (zA [] L sz) := by
  refine Met.ofW (cc := cX11_killFan) (maxL := 3) (ret := (some .boolean)) (by decide) rfl ?_
  intro p e9 s m args below meth c s₁ B hml hv
  obtain ⟨rfl, rfl, hK, hE, hI⟩ := hv.opn
  have hx := B.exec
  have hb := B.bytes
  have hr := B.returns
  have hts := atoms_spec (ws := wsX11_killFan) B.pre
  have hown : s.vm.findClass RX11 = some m.cls := findClass_of_methodNamed B.named
  have hlocks := B.notSynchronized
  have hM : zM p s m c cX11_killFan _ wsX11_killFan RX11 D tc := ⟨hx, hb, hts, hown, hK⟩
  have hinX11 : ∀ w ∈ wsX110, w ∈ wsX11_killFan := by decide +kernel
  have hl := lv_entry ([.ref p0, .int p1]) (n := 3) (Nat.le_of_ble_eq_true rfl)
  rw [lg_entry_eq]
  generalize (lg_sl ([.ref p0, .int p1]) ++ List.replicate (3 - (lg_sl ([.ref p0, .int p1])).length) Slot.unset).toArray = ls at hl ⊢
  have hl : lv_has ls 3 [(0, .ref p0), (1, .int p1)] := hl
  refine lv_aload_n hx hb dX11_killFan_0 rfl (lv_at hl 0 rfl) ?_
  refine lv_iconst (v := 0) hx hb dX11_killFan_1 (by decide) ?_
  refine z_put (g' := (zup g p0 12 (.int 0))) (k := 13) (j := 12) hM hI hk0 rfl rfl hinX11 tyX11 tyX11_ok nmX11 rfl (by decide) (by decide +kernel) (fun _ h9 => h9) rfl rfl rfl rfl ⟨(zup_self _ _ _ _).symm, _, rfl⟩ (fun b i h => zup_ne h) dX11_killFan_2 (fun H locs hI => ?_)
  refine lv_aload_n hx hb dX11_killFan_5 rfl (lv_at hl 0 rfl) ?_
  refine z_get (k := 13) (j := 25) hM hI hk0 rfl rfl hinX11 rfl (by decide) (by decide +kernel) (fun _ h9 => h9) dX11_killFan_6 (fun v1 hv2 => ?_)
  obtain ⟨hg4, i3, rfl, hz5⟩ := zv_tb hv2
  refine lv_istore_n (lv' := [(2, .int i3), (0, .ref p0), (1, .int p1)]) hx hb dX11_killFan_9 rfl hl (by decide) rfl (fun ls hl => ?_)
  refine lv_aload_n hx hb dX11_killFan_10 rfl (lv_at hl 1 rfl) ?_
  refine lv_iload_n hx hb dX11_killFan_11 rfl (lv_at hl 2 rfl) ?_
  refine z_put (g' := (zup (zup g p0 12 (.int 0)) p0 25 (.int p1))) (k := 13) (j := 25) hM hI hk0 rfl rfl hinX11 tyX11 tyX11_ok nmX11 rfl (by decide) (by decide +kernel) (fun _ h9 => h9) rfl rfl (z_bn (by first | assumption | exact Or.inl rfl | exact Or.inr rfl)) (z_bf (by first | assumption | exact Or.inl rfl | exact Or.inr rfl)) ⟨(zup_self _ _ _ _).symm, z_bv (by first | assumption | exact Or.inl rfl | exact Or.inr rfl)⟩ (fun b i h => zup_ne h) dX11_killFan_12 (fun H locs hI => ?_)
  refine lv_aload_n hx hb dX11_killFan_15 rfl (lv_at hl 1 rfl) ?_
  refine lv_iload_n hx hb dX11_killFan_16 rfl (lv_at hl 2 rfl) ?_
  refine lv_if_eq (tgt := 24) hx hb dX11_killFan_17 (by decide) (fun c6 => ?_) (fun c6 => ?_)
  · skip
    refine lv_aload_n hx hb dX11_killFan_24 rfl (lv_at hl 1 rfl) ?_
    refine z_get (k := 13) (j := 6) hM hI hk0 rfl rfl hinX11 rfl (by decide) (by decide +kernel) (fun _ h9 => h9) dX11_killFan_25 (fun v7 hv8 => ?_)
    obtain ⟨i9, rfl⟩ := hv8
    refine z_put (g' := (zup (zup g p0 12 (.int 0)) p0 25 (.int p1))) (k := 13) (j := 6) hM hI hk0 rfl rfl hinX11 tyX11 tyX11_ok nmX11 rfl (by decide) (by decide +kernel) (fun _ h9 => h9) rfl rfl rfl rfl ⟨_, rfl⟩ (fun _ _ _ => rfl) dX11_killFan_28 (fun H locs hI => ?_)
    refine lv_iload_n hx hb dX11_killFan_31 rfl (lv_at hl 0 rfl) ?_
    refine W.widen (k := 0) (n := 0) (Nat.le_of_ble_eq_true rfl) (Nat.le_of_ble_eq_true rfl) ?_
    exact W.zret (v := i3) hx hb hr (z_bn (by assumption)) (fun t ht hW => ⟨⟨_, (L, κ, (zup (zup g p0 12 (.int 0)) p0 25 (.int p1))), rfl, ⟨((zup_ne (Or.inr (by decide))).symm.trans hg4.symm), by assumption, rfl⟩, z_end hK hI ht hW⟩, z_F hI ht⟩) (z_locs hI) dX11_killFan_32
  · skip
    refine lv_iconst (v := 0) hx hb dX11_killFan_20 (by decide) ?_
    refine lv_goto (tgt := 28) hx hb dX11_killFan_21 (by decide) ?_
    refine z_put (g' := (zup (zup g p0 12 (.int 0)) p0 25 (.int p1))) (k := 13) (j := 6) hM hI hk0 rfl rfl hinX11 tyX11 tyX11_ok nmX11 rfl (by decide) (by decide +kernel) (fun _ h9 => h9) rfl rfl rfl rfl ⟨_, rfl⟩ (fun _ _ _ => rfl) dX11_killFan_28 (fun H locs hI => ?_)
    refine lv_iload_n hx hb dX11_killFan_31 rfl (lv_at hl 0 rfl) ?_
    refine W.widen (k := 0) (n := 0) (Nat.le_of_ble_eq_true rfl) (Nat.le_of_ble_eq_true rfl) ?_
    exact W.zret (v := i3) hx hb hr (z_bn (by assumption)) (fun t ht hW => ⟨⟨_, (L, κ, (zup (zup g p0 12 (.int 0)) p0 25 (.int p1))), rfl, ⟨((zup_ne (Or.inr (by decide))).symm.trans hg4.symm), by assumption, rfl⟩, z_end hK hI ht hW⟩, z_F hI ht⟩) (z_locs hI) dX11_killFan_32

set_option maxHeartbeats 4000000 in
set_option maxRecDepth 100000 in
theorem c_X11_wall (l : Launch) (D : va_G) (tc : Nat → ClassId) (z0 : Nat) (L : List Nat) (κ : Nat → Nat) (g : Nat → Nat → Value) (sz : Nat) (p0 : Nat) (hk0 : κ p0 = 13) (p1 : Int32) : Met l yX11_wall wsX11_wall ({ frames := 1, cells := 0, slots := 0, locals := 22 }) (zPc D tc z0 [.ref p0, .int p1] [] (L, κ, g) sz) (va_Qi (fun (r : Int32) (u : zS) => (r = 0 ∧ ¬ (0 ≤ p1 ∧ p1 ≤ 999) ∧ u = (L, κ, zup g p0 12 (.int 1))) ∨ ((0 ≤ p1 ∧ p1 ≤ 999) ∧ g p0 7 = .int r ∧ u = (L, κ, zup (zup g p0 12 (.int 0)) p0 7 (.int p1)))) (fun (u : zS) (t : State) => zB D tc (zA [] L sz) [] u t) (zA [] L sz)) 0 0 (zA [] L sz) := by
  refine Met.ofW (cc := cX11_wall) (maxL := 3) (ret := (some .int)) (by decide) rfl ?_
  intro p e9 s m args below meth c s₁ B hml hv
  obtain ⟨rfl, rfl, hK, hE, hI⟩ := hv.opn
  have hx := B.exec
  have hb := B.bytes
  have hr := B.returns
  have hts := atoms_spec (ws := wsX11_wall) B.pre
  have hown : s.vm.findClass RX11 = some m.cls := findClass_of_methodNamed B.named
  have hlocks := B.notSynchronized
  have hM : zM p s m c cX11_wall _ wsX11_wall RX11 D tc := ⟨hx, hb, hts, hown, hK⟩
  have hinX11 : ∀ w ∈ wsX110, w ∈ wsX11_wall := by decide +kernel
  have hl := lv_entry ([.ref p0, .int p1]) (n := 3) (Nat.le_of_ble_eq_true rfl)
  rw [lg_entry_eq]
  generalize (lg_sl ([.ref p0, .int p1]) ++ List.replicate (3 - (lg_sl ([.ref p0, .int p1])).length) Slot.unset).toArray = ls at hl ⊢
  have hl : lv_has ls 3 [(0, .ref p0), (1, .int p1)] := hl
  refine lv_aload_n hx hb dX11_wall_0 rfl (lv_at hl 0 rfl) ?_
  refine lv_iload_n hx hb dX11_wall_1 rfl (lv_at hl 1 rfl) ?_
  refine lv_iconst (v := 0) hx hb dX11_wall_2 (by decide) ?_
  refine lv_sipush (v := 999) hx hb dX11_wall_3 (by decide) ?_
  refine vp_callSi (W.runS (As := [.int p1, .int 0, .int 999]) (rest := [.ref p0]) ⟨hx, hb, hml, hown, hts⟩ (c_X11_in l D tc z0 _ κ g _ p1 0 999) (va_cwS 3 hts gX11_wall_X11_in rfl rfl rfl (by decide +kernel) ⟨Nat.le_of_ble_eq_true rfl, Nat.le_of_ble_eq_true rfl⟩) (z_pre hK hE hI [] rfl rfl) rfl rfl hl.1 rfl (lv_room (Nat.le_of_ble_eq_true rfl)) dX11_wall_6 ⟨(Nat.le_of_ble_eq_true rfl), (Nat.le_of_ble_eq_true rfl)⟩) (fun v1 hw2 => ?_)
  obtain ⟨hw2, hz3⟩ := hw2
  refine lv_if_eq (tgt := 16) hx hb dX11_wall_9 (by decide) (fun c4 => ?_) (fun c4 => ?_)
  · skip
    refine lv_iconst (v := 1) hx hb dX11_wall_16 (by decide) ?_
    refine z_ciX (Xc := []) (wr := []) (rx := []) [] [] rfl rfl rfl rfl (by decide) hI (va_runV (As := [.int 1]) (rest := []) ⟨hx, hb, hml, hown, hts⟩ (c_X11_fails l D tc z0 _ κ g _ p0 hk0 1) (cwV 1 hts gX11_wall_X11_fails rfl rfl rfl (by decide +kernel) ⟨Nat.le_of_ble_eq_true rfl, Nat.le_of_ble_eq_true rfl⟩) (z_preV (Xc := []) hK hE hI [] rfl rfl (z_recv hK hI hk0 rfl rfl)) rfl rfl hl.1 rfl (lv_room (Nat.le_of_ble_eq_true rfl)) dX11_wall_17 ⟨(Nat.le_of_ble_eq_true rfl), (Nat.le_of_ble_eq_true rfl)⟩) (fun v5 u H locs hw6 hI => ?_)
    obtain ⟨hw6, rfl⟩ := hw6
    have hI : zI D tc _ s.heap [] L κ (zup g p0 12 (.int 1)) _ _ := hI
    obtain rfl : v5 = 1 := hw6.trans (by decide)
    refine lv_if_eq (tgt := 25) hx hb dX11_wall_20 (by decide) (fun h9 => by first | exact absurd h9 (by decide) | exact absurd (by decide) h9) (fun _ => ?_)
    refine lv_iconst (v := 0) hx hb dX11_wall_23 (by decide) ?_
    refine W.widen (k := 0) (n := 0) (Nat.le_of_ble_eq_true rfl) (Nat.le_of_ble_eq_true rfl) ?_
    exact W.iret (v := 0) hx hb hr (fun t ht hW => ⟨⟨_, (L, κ, (zup g p0 12 (.int 1))), rfl, (Or.inl ⟨rfl, hw2.mp c4, rfl⟩), z_end hK hI ht hW⟩, z_F hI ht⟩) (z_locs hI) dX11_wall_24
  · skip
    refine lv_iconst (v := 0) hx hb dX11_wall_12 (by decide) ?_
    refine lv_goto (tgt := 17) hx hb dX11_wall_13 (by decide) ?_
    refine z_ciX (Xc := []) (wr := []) (rx := []) [] [] rfl rfl rfl rfl (by decide) hI (va_runV (As := [.int 0]) (rest := []) ⟨hx, hb, hml, hown, hts⟩ (c_X11_fails l D tc z0 _ κ g _ p0 hk0 0) (cwV 1 hts gX11_wall_X11_fails rfl rfl rfl (by decide +kernel) ⟨Nat.le_of_ble_eq_true rfl, Nat.le_of_ble_eq_true rfl⟩) (z_preV (Xc := []) hK hE hI [] rfl rfl (z_recv hK hI hk0 rfl rfl)) rfl rfl hl.1 rfl (lv_room (Nat.le_of_ble_eq_true rfl)) dX11_wall_17 ⟨(Nat.le_of_ble_eq_true rfl), (Nat.le_of_ble_eq_true rfl)⟩) (fun v7 u H locs hw8 hI => ?_)
    obtain ⟨hw8, rfl⟩ := hw8
    have hI : zI D tc _ s.heap [] L κ (zup g p0 12 (.int 0)) _ _ := hI
    obtain rfl : v7 = 0 := hw8.trans (by decide)
    refine lv_if_eq (tgt := 25) hx hb dX11_wall_20 (by decide) (fun _ => ?_) (fun h9 => by first | exact absurd h9 (by decide) | exact absurd (by decide) h9)
    refine lv_aload_n hx hb dX11_wall_25 rfl (lv_at hl 0 rfl) ?_
    refine z_get (k := 13) (j := 7) hM hI hk0 rfl rfl hinX11 rfl (by decide) (by decide +kernel) (fun _ h9 => h9) dX11_wall_26 (fun v9 hv10 => ?_)
    obtain ⟨hg12, i11, rfl⟩ := hv10
    refine lv_istore_n (lv' := [(2, .int i11), (0, .ref p0), (1, .int p1)]) hx hb dX11_wall_29 rfl hl (by decide) rfl (fun ls hl => ?_)
    refine lv_aload_n hx hb dX11_wall_30 rfl (lv_at hl 1 rfl) ?_
    refine lv_iload_n hx hb dX11_wall_31 rfl (lv_at hl 2 rfl) ?_
    refine z_put (g' := (zup (zup g p0 12 (.int 0)) p0 7 (.int p1))) (k := 13) (j := 7) hM hI hk0 rfl rfl hinX11 tyX11 tyX11_ok nmX11 rfl (by decide) (by decide +kernel) (fun _ h9 => h9) rfl rfl rfl rfl ⟨(zup_self _ _ _ _).symm, _, rfl⟩ (fun b i h => zup_ne h) dX11_wall_32 (fun H locs hI => ?_)
    refine lv_iload_n hx hb dX11_wall_35 rfl (lv_at hl 0 rfl) ?_
    refine W.widen (k := 0) (n := 0) (Nat.le_of_ble_eq_true rfl) (Nat.le_of_ble_eq_true rfl) ?_
    exact W.iret (v := i11) hx hb hr (fun t ht hW => ⟨⟨_, (L, κ, (zup (zup g p0 12 (.int 0)) p0 7 (.int p1))), rfl, (Or.inr ⟨Classical.not_not.mp (fun h => c4 (hw2.mpr h)), ((zup_ne (Or.inr (by decide))).symm.trans hg12.symm), rfl⟩), z_end hK hI ht hW⟩, z_F hI ht⟩) (z_locs hI) dX11_wall_36

set_option maxHeartbeats 4000000 in
set_option maxRecDepth 100000 in
theorem c_X11_drop (l : Launch) (D : va_G) (tc : Nat → ClassId) (z0 : Nat) (L : List Nat) (κ : Nat → Nat) (g : Nat → Nat → Value) (sz : Nat) (p0 : Nat) (hk0 : κ p0 = 13) (h9 w9 : Int32) (hh9 : g p0 14 = .int h9) (hw9 : g p0 16 = .int w9) : Met l yX11_drop wsX11_drop ({ frames := 0, cells := 0, slots := 0, locals := 0 }) (zPc D tc z0 [.ref p0] [] (L, κ, g) sz) (va_Qi (fun (r : Int32) (u : zS) => r = (if 0 < h9 then 1 else if w9 ≤ 0 then 0 else 1) ∧ u = (L, κ, zup (zup (zup g p0 12 (.int 0)) p0 14 (.int 0)) p0 16 (.int 0))) (fun (u : zS) (t : State) => zB D tc (zA [] L sz) [] u t) (zA [] L sz)) 0 0 (zA [] L sz) := by
  refine Met.ofW (cc := cX11_drop) (maxL := 2) (ret := (some .boolean)) (by decide) rfl ?_
  intro p e9 s m args below meth c s₁ B hml hv
  obtain ⟨rfl, rfl, hK, hE, hI⟩ := hv.opn
  have hx := B.exec
  have hb := B.bytes
  have hr := B.returns
  have hts := atoms_spec (ws := wsX11_drop) B.pre
  have hown : s.vm.findClass RX11 = some m.cls := findClass_of_methodNamed B.named
  have hlocks := B.notSynchronized
  have hM : zM p s m c cX11_drop _ wsX11_drop RX11 D tc := ⟨hx, hb, hts, hown, hK⟩
  have hinX11 : ∀ w ∈ wsX110, w ∈ wsX11_drop := by decide +kernel
  have hl := lv_entry ([.ref p0]) (n := 2) (Nat.le_of_ble_eq_true rfl)
  rw [lg_entry_eq]
  generalize (lg_sl ([.ref p0]) ++ List.replicate (2 - (lg_sl ([.ref p0])).length) Slot.unset).toArray = ls at hl ⊢
  have hl : lv_has ls 2 [(0, .ref p0)] := hl
  refine lv_aload_n hx hb dX11_drop_0 rfl (lv_at hl 0 rfl) ?_
  refine lv_iconst (v := 0) hx hb dX11_drop_1 (by decide) ?_
  refine z_put (g' := (zup g p0 12 (.int 0))) (k := 13) (j := 12) hM hI hk0 rfl rfl hinX11 tyX11 tyX11_ok nmX11 rfl (by decide) (by decide +kernel) (fun _ h9 => h9) rfl rfl rfl rfl ⟨(zup_self _ _ _ _).symm, _, rfl⟩ (fun b i h => zup_ne h) dX11_drop_2 (fun H locs hI => ?_)
  refine lv_aload_n hx hb dX11_drop_5 rfl (lv_at hl 0 rfl) ?_
  refine z_get (k := 13) (j := 14) hM hI hk0 rfl rfl hinX11 rfl (by decide) (by decide +kernel) (fun _ h9 => h9) dX11_drop_6 (fun v1 hv2 => ?_)
  obtain ⟨hg4, i3, rfl⟩ := hv2
  obtain rfl : h9 = i3 := Value.int.inj ((((zup_ne (Or.inr (by decide))).trans hh9)).symm.trans hg4.symm)
  refine lv_if_gt (tgt := 19) hx hb dX11_drop_9 (by decide) (fun c5 => ?_) (fun c5 => ?_)
  · skip
    refine lv_iconst (v := 1) hx hb dX11_drop_19 (by decide) ?_
    refine lv_goto (tgt := 24) hx hb dX11_drop_20 (by decide) ?_
    refine lv_istore_n (lv' := [(1, .int 1), (0, .ref p0)]) hx hb dX11_drop_24 rfl hl (by decide) rfl (fun ls hl => ?_)
    refine lv_aload_n hx hb dX11_drop_25 rfl (lv_at hl 1 rfl) ?_
    refine lv_iconst (v := 0) hx hb dX11_drop_26 (by decide) ?_
    refine z_put (g' := (zup (zup g p0 12 (.int 0)) p0 14 (.int 0))) (k := 13) (j := 14) hM hI hk0 rfl rfl hinX11 tyX11 tyX11_ok nmX11 rfl (by decide) (by decide +kernel) (fun _ h9 => h9) rfl rfl rfl rfl ⟨(zup_self _ _ _ _).symm, _, rfl⟩ (fun b i h => zup_ne h) dX11_drop_27 (fun H locs hI => ?_)
    refine lv_aload_n hx hb dX11_drop_30 rfl (lv_at hl 1 rfl) ?_
    refine lv_iconst (v := 0) hx hb dX11_drop_31 (by decide) ?_
    refine z_put (g' := (zup (zup (zup g p0 12 (.int 0)) p0 14 (.int 0)) p0 16 (.int 0))) (k := 13) (j := 16) hM hI hk0 rfl rfl hinX11 tyX11 tyX11_ok nmX11 rfl (by decide) (by decide +kernel) (fun _ h9 => h9) rfl rfl rfl rfl ⟨(zup_self _ _ _ _).symm, _, rfl⟩ (fun b i h => zup_ne h) dX11_drop_32 (fun H locs hI => ?_)
    refine lv_iload_n hx hb dX11_drop_35 rfl (lv_at hl 0 rfl) ?_
    refine W.widen (k := 0) (n := 0) (Nat.le_of_ble_eq_true rfl) (Nat.le_of_ble_eq_true rfl) ?_
    exact W.zret (v := 1) hx hb hr (by decide) (fun t ht hW => ⟨⟨_, (L, κ, (zup (zup (zup g p0 12 (.int 0)) p0 14 (.int 0)) p0 16 (.int 0))), rfl, ⟨by simp [*], rfl⟩, z_end hK hI ht hW⟩, z_F hI ht⟩) (z_locs hI) dX11_drop_36
  · skip
    refine lv_aload_n hx hb dX11_drop_12 rfl (lv_at hl 0 rfl) ?_
    refine z_get (k := 13) (j := 16) hM hI hk0 rfl rfl hinX11 rfl (by decide) (by decide +kernel) (fun _ h9 => h9) dX11_drop_13 (fun v6 hv7 => ?_)
    obtain ⟨hg9, i8, rfl⟩ := hv7
    obtain rfl : w9 = i8 := Value.int.inj ((((zup_ne (Or.inr (by decide))).trans hw9)).symm.trans hg9.symm)
    refine lv_if_le (tgt := 23) hx hb dX11_drop_16 (by decide) (fun c10 => ?_) (fun c10 => ?_)
    · skip
      refine lv_iconst (v := 0) hx hb dX11_drop_23 (by decide) ?_
      refine lv_istore_n (lv' := [(1, .int 0), (0, .ref p0)]) hx hb dX11_drop_24 rfl hl (by decide) rfl (fun ls hl => ?_)
      refine lv_aload_n hx hb dX11_drop_25 rfl (lv_at hl 1 rfl) ?_
      refine lv_iconst (v := 0) hx hb dX11_drop_26 (by decide) ?_
      refine z_put (g' := (zup (zup g p0 12 (.int 0)) p0 14 (.int 0))) (k := 13) (j := 14) hM hI hk0 rfl rfl hinX11 tyX11 tyX11_ok nmX11 rfl (by decide) (by decide +kernel) (fun _ h9 => h9) rfl rfl rfl rfl ⟨(zup_self _ _ _ _).symm, _, rfl⟩ (fun b i h => zup_ne h) dX11_drop_27 (fun H locs hI => ?_)
      refine lv_aload_n hx hb dX11_drop_30 rfl (lv_at hl 1 rfl) ?_
      refine lv_iconst (v := 0) hx hb dX11_drop_31 (by decide) ?_
      refine z_put (g' := (zup (zup (zup g p0 12 (.int 0)) p0 14 (.int 0)) p0 16 (.int 0))) (k := 13) (j := 16) hM hI hk0 rfl rfl hinX11 tyX11 tyX11_ok nmX11 rfl (by decide) (by decide +kernel) (fun _ h9 => h9) rfl rfl rfl rfl ⟨(zup_self _ _ _ _).symm, _, rfl⟩ (fun b i h => zup_ne h) dX11_drop_32 (fun H locs hI => ?_)
      refine lv_iload_n hx hb dX11_drop_35 rfl (lv_at hl 0 rfl) ?_
      refine W.widen (k := 0) (n := 0) (Nat.le_of_ble_eq_true rfl) (Nat.le_of_ble_eq_true rfl) ?_
      exact W.zret (v := 0) hx hb hr (by decide) (fun t ht hW => ⟨⟨_, (L, κ, (zup (zup (zup g p0 12 (.int 0)) p0 14 (.int 0)) p0 16 (.int 0))), rfl, ⟨by simp [*], rfl⟩, z_end hK hI ht hW⟩, z_F hI ht⟩) (z_locs hI) dX11_drop_36
    · skip
      refine lv_iconst (v := 1) hx hb dX11_drop_19 (by decide) ?_
      refine lv_goto (tgt := 24) hx hb dX11_drop_20 (by decide) ?_
      refine lv_istore_n (lv' := [(1, .int 1), (0, .ref p0)]) hx hb dX11_drop_24 rfl hl (by decide) rfl (fun ls hl => ?_)
      refine lv_aload_n hx hb dX11_drop_25 rfl (lv_at hl 1 rfl) ?_
      refine lv_iconst (v := 0) hx hb dX11_drop_26 (by decide) ?_
      refine z_put (g' := (zup (zup g p0 12 (.int 0)) p0 14 (.int 0))) (k := 13) (j := 14) hM hI hk0 rfl rfl hinX11 tyX11 tyX11_ok nmX11 rfl (by decide) (by decide +kernel) (fun _ h9 => h9) rfl rfl rfl rfl ⟨(zup_self _ _ _ _).symm, _, rfl⟩ (fun b i h => zup_ne h) dX11_drop_27 (fun H locs hI => ?_)
      refine lv_aload_n hx hb dX11_drop_30 rfl (lv_at hl 1 rfl) ?_
      refine lv_iconst (v := 0) hx hb dX11_drop_31 (by decide) ?_
      refine z_put (g' := (zup (zup (zup g p0 12 (.int 0)) p0 14 (.int 0)) p0 16 (.int 0))) (k := 13) (j := 16) hM hI hk0 rfl rfl hinX11 tyX11 tyX11_ok nmX11 rfl (by decide) (by decide +kernel) (fun _ h9 => h9) rfl rfl rfl rfl ⟨(zup_self _ _ _ _).symm, _, rfl⟩ (fun b i h => zup_ne h) dX11_drop_32 (fun H locs hI => ?_)
      refine lv_iload_n hx hb dX11_drop_35 rfl (lv_at hl 0 rfl) ?_
      refine W.widen (k := 0) (n := 0) (Nat.le_of_ble_eq_true rfl) (Nat.le_of_ble_eq_true rfl) ?_
      exact W.zret (v := 1) hx hb hr (by decide) (fun t ht hW => ⟨⟨_, (L, κ, (zup (zup (zup g p0 12 (.int 0)) p0 14 (.int 0)) p0 16 (.int 0))), rfl, ⟨by simp [*], rfl⟩, z_end hK hI ht hW⟩, z_F hI ht⟩) (z_locs hI) dX11_drop_36

set_option maxHeartbeats 4000000 in
set_option maxRecDepth 100000 in
theorem c_X11_lose (l : Launch) (D : va_G) (tc : Nat → ClassId) (z0 : Nat) (L : List Nat) (κ : Nat → Nat) (g : Nat → Nat → Value) (sz : Nat) (p0 : Nat) (hk0 : κ p0 = 13) (p1 : Int32) (p2 : Int32) (hz2 : p2 = 0 ∨ p2 = 1) (lc eC nC : Nat) (mC : Int32) (cf : Nat → Nat) (lt eT nT : Nat) (mT : Int32) (tf : Nat → Nat) (hMo : zMo κ g z0 p0 lc eC nC mC cf lt eT nT mT tf) : Met l yX11_lose wsX11_lose ({ frames := 3, cells := 0, slots := 0, locals := 64 }) (zPc D tc z0 [.ref p0, .int p1, .int p2] [] (L, κ, g) sz) (va_Qi (fun (r : Int32) (u : zS) => (r = 0 ∧ (∀ i, i < nC → p1 ≠ nI i) ∧ u = (L, κ, zup g p0 12 (.int 1))) ∨ (∃ i, i < nC ∧ p1 = nI i ∧ g (cf i) 15 = .int r ∧ (r = 0 ∨ r = 1) ∧ u = (L, κ, zup (zup g p0 12 (.int 0)) (cf i) 15 (.int p2)))) (fun (u : zS) (t : State) => zB D tc (zA [] L sz) [] u t) (zA [] L sz)) 0 0 (zA [] L sz) := by
  refine Met.ofW (cc := cX11_lose) (maxL := 4) (ret := (some .boolean)) (by decide) rfl ?_
  intro p e9 s m args below meth c s₁ B hml hv
  obtain ⟨rfl, rfl, hK, hE, hI⟩ := hv.opn
  have hx := B.exec
  have hb := B.bytes
  have hr := B.returns
  have hts := atoms_spec (ws := wsX11_lose) B.pre
  have hown : s.vm.findClass RX11 = some m.cls := findClass_of_methodNamed B.named
  have hlocks := B.notSynchronized
  have hM : zM p s m c cX11_lose _ wsX11_lose RX11 D tc := ⟨hx, hb, hts, hown, hK⟩
  have hinX11 : ∀ w ∈ wsX110, w ∈ wsX11_lose := by decide +kernel
  have hinX9 : ∀ w ∈ wsX90, w ∈ wsX11_lose := by decide +kernel
  have hnC := hMo.bC
  have hnT := hMo.bT
  have hl := lv_entry ([.ref p0, .int p1, .int p2]) (n := 4) (Nat.le_of_ble_eq_true rfl)
  rw [lg_entry_eq]
  generalize (lg_sl ([.ref p0, .int p1, .int p2]) ++ List.replicate (4 - (lg_sl ([.ref p0, .int p1, .int p2])).length) Slot.unset).toArray = ls at hl ⊢
  have hl : lv_has ls 4 [(0, .ref p0), (1, .int p1), (2, .int p2)] := hl
  refine lv_aload_n hx hb dX11_lose_0 rfl (lv_at hl 0 rfl) ?_
  refine lv_aload_n hx hb dX11_lose_1 rfl (lv_at hl 0 rfl) ?_
  refine lv_iload_n hx hb dX11_lose_2 rfl (lv_at hl 1 rfl) ?_
  refine vp_callSi (W.runV (As := [.int p1]) (rest := [.ref p0]) ⟨hx, hb, hml, hown, hts⟩ (c_X11_isCore l D tc z0 _ κ g _ p0 hk0 p1 lc eC nC mC cf lt eT nT mT tf hMo) (cwV 1 hts gX11_lose_X11_isCore rfl rfl rfl (by decide +kernel) ⟨Nat.le_of_ble_eq_true rfl, Nat.le_of_ble_eq_true rfl⟩) (z_preV (Xc := []) hK hE hI [] rfl rfl (z_recv hK hI hk0 rfl rfl)) rfl rfl hl.1 rfl (lv_room (Nat.le_of_ble_eq_true rfl)) dX11_lose_3 ⟨(Nat.le_of_ble_eq_true rfl), (Nat.le_of_ble_eq_true rfl)⟩) (fun v1 hw2 => ?_)
  rcases hw2 with ⟨rfl, i3, hi4, hp5⟩ | ⟨rfl, hno6⟩
  · skip
    rw [hp5] at hl
    refine lv_if_eq (tgt := 13) hx hb dX11_lose_6 (by decide) (fun h9 => by first | exact absurd h9 (by decide) | exact absurd (by decide) h9) (fun _ => ?_)
    refine lv_iconst (v := 0) hx hb dX11_lose_9 (by decide) ?_
    refine lv_goto (tgt := 14) hx hb dX11_lose_10 (by decide) ?_
    refine z_ciX (Xc := []) (wr := []) (rx := []) [] [] rfl rfl rfl rfl (by decide) hI (va_runV (As := [.int 0]) (rest := []) ⟨hx, hb, hml, hown, hts⟩ (c_X11_fails l D tc z0 _ κ g _ p0 hk0 0) (cwV 1 hts gX11_lose_X11_fails rfl rfl rfl (by decide +kernel) ⟨Nat.le_of_ble_eq_true rfl, Nat.le_of_ble_eq_true rfl⟩) (z_preV (Xc := []) hK hE hI [] rfl rfl (z_recv hK hI hk0 rfl rfl)) rfl rfl hl.1 rfl (lv_room (Nat.le_of_ble_eq_true rfl)) dX11_lose_14 ⟨(Nat.le_of_ble_eq_true rfl), (Nat.le_of_ble_eq_true rfl)⟩) (fun v7 u H locs hw8 hI => ?_)
    obtain ⟨hw8, rfl⟩ := hw8
    have hI : zI D tc _ s.heap [] L κ (zup g p0 12 (.int 0)) _ _ := hI
    have hMo := hMo.upP (j := 12) (v := .int 0) (by decide)
    obtain rfl : v7 = 0 := hw8.trans (by decide)
    refine lv_if_eq (tgt := 22) hx hb dX11_lose_17 (by decide) (fun _ => ?_) (fun h9 => by first | exact absurd h9 (by decide) | exact absurd (by decide) h9)
    refine lv_aload_n hx hb dX11_lose_22 rfl (lv_at hl 0 rfl) ?_
    refine z_get (k := 13) (j := 0) hM hI hk0 rfl rfl hinX11 rfl (by decide) (by decide +kernel) (fun _ h9 => h9) dX11_lose_23 (fun v9 hv10 => ?_)
    obtain ⟨hg12, i11, rfl, hr13⟩ := hv10
    obtain rfl : lc = i11 := Value.ref.inj (hMo.gc.symm.trans hg12.symm)
    refine lv_iload_n hx hb dX11_lose_26 rfl (lv_at hl 1 rfl) ?_
    refine va_csFq (va_runF (As := [.int ((nI i3))]) (rest := []) (hK.1 1 _ rfl).2 ⟨hx, hb, hml, hown, hts⟩ (c_Jx4a65c_get_915e3 l D tc z0 _ κ (zup g p0 12 (.int 0)) _ lc 1 eC 25 11 nC mC cf rfl hMo.LC rfl rfl i3 (by omega)) (va_cwF 1 hts gX11_lose_Jx4a65c_get_915e3_f101Jx4a65c rfl rfl rfl (hE.2.2.1 (RJx4a65c, ⟨"java/util/List", "get", "(I)Ljava/lang/Object;"⟩, yJx4a65c_get_915e3) (by decide +kernel)) (by decide +kernel) ⟨Nat.le_of_ble_eq_true rfl, Nat.le_of_ble_eq_true rfl⟩) (z_preV (Xc := []) hK hE hI [] rfl rfl (z_recv hK hI hMo.LC.1 rfl rfl)) rfl rfl hl.1 rfl (lv_room (Nat.le_of_ble_eq_true rfl)) dX11_lose_27 ⟨(Nat.le_of_ble_eq_true rfl), (Nat.le_of_ble_eq_true rfl)⟩) (fun r14 hw15 => ?_)
    obtain rfl := hw15
    have hr16 : κ (cf i3) = 11 := hMo.LC.el (i := i3) (by omega)
    show W p l e9 (headSpec wsX11_lose ({ frames := 3, cells := 0, slots := 0, locals := 64 })).room s m ([.ref p0, .int p1, .int p2] : List Value).toArray below meth c _ _ 0 0 (MQ below (va_Qi (fun (r : Int32) (u : zS) => (r = 0 ∧ (∀ i, i < nC → p1 ≠ nI i) ∧ u = (L, κ, zup g p0 12 (.int 1))) ∨ (∃ i, i < nC ∧ p1 = nI i ∧ g (cf i) 15 = .int r ∧ (r = 0 ∨ r = 1) ∧ u = (L, κ, zup (zup g p0 12 (.int 0)) (cf i) 15 (.int p2)))) (fun (u : zS) (t : State) => zB D tc (zA [] L s.heap.size) [] u t) (zA [] L s.heap.size)) ([.ref p0, .int p1, .int p2] : List Value).toArray s 0 0 (zA [] L s.heap.size)) (F0 m 32 ls (.ref (cf i3) :: []))
    refine z_castS (k := 11) hM hI hr16 rfl rfl (by decide +kernel) dX11_lose_32 ?_
    refine z_getN (host := "WattgovernModel") (k := 11) (j := 15) hM hE hI hr16 rfl rfl hinX9 rfl (by decide) (by decide +kernel) (fun _ h9 => h9) dX11_lose_35 (fun v17 hv18 => ?_)
    obtain ⟨hg20, i19, rfl, hz21⟩ := zv_tb hv18
    refine lv_istore_n (lv' := [(3, .int i19), (0, .ref p0), (1, .int ((nI i3))), (2, .int p2)]) hx hb dX11_lose_38 rfl hl (by decide) rfl (fun ls hl => ?_)
    refine lv_aload_n hx hb dX11_lose_39 rfl (lv_at hl 1 rfl) ?_
    refine z_get (k := 13) (j := 0) hM hI hk0 rfl rfl hinX11 rfl (by decide) (by decide +kernel) (fun _ h9 => h9) dX11_lose_40 (fun v22 hv23 => ?_)
    obtain ⟨hg25, i24, rfl, hr26⟩ := hv23
    obtain rfl : lc = i24 := Value.ref.inj (hMo.gc.symm.trans hg25.symm)
    refine lv_iload_n hx hb dX11_lose_43 rfl (lv_at hl 2 rfl) ?_
    refine va_csFq (va_runF (As := [.int ((nI i3))]) (rest := []) (hK.1 1 _ rfl).2 ⟨hx, hb, hml, hown, hts⟩ (c_Jx4a65c_get_915e3 l D tc z0 _ κ (zup g p0 12 (.int 0)) _ lc 1 eC 25 11 nC mC cf rfl hMo.LC rfl rfl i3 (by omega)) (va_cwF 1 hts gX11_lose_Jx4a65c_get_915e3_f101Jx4a65c rfl rfl rfl (hE.2.2.1 (RJx4a65c, ⟨"java/util/List", "get", "(I)Ljava/lang/Object;"⟩, yJx4a65c_get_915e3) (by decide +kernel)) (by decide +kernel) ⟨Nat.le_of_ble_eq_true rfl, Nat.le_of_ble_eq_true rfl⟩) (z_preV (Xc := []) hK hE hI [] rfl rfl (z_recv hK hI hMo.LC.1 rfl rfl)) rfl rfl hl.1 rfl (lv_room (Nat.le_of_ble_eq_true rfl)) dX11_lose_44 ⟨(Nat.le_of_ble_eq_true rfl), (Nat.le_of_ble_eq_true rfl)⟩) (fun r27 hw28 => ?_)
    obtain rfl := hw28
    have hr29 : κ (cf i3) = 11 := hMo.LC.el (i := i3) (by omega)
    show W p l e9 (headSpec wsX11_lose ({ frames := 3, cells := 0, slots := 0, locals := 64 })).room s m ([.ref p0, .int p1, .int p2] : List Value).toArray below meth c _ _ 0 0 (MQ below (va_Qi (fun (r : Int32) (u : zS) => (r = 0 ∧ (∀ i, i < nC → p1 ≠ nI i) ∧ u = (L, κ, zup g p0 12 (.int 1))) ∨ (∃ i, i < nC ∧ p1 = nI i ∧ g (cf i) 15 = .int r ∧ (r = 0 ∨ r = 1) ∧ u = (L, κ, zup (zup g p0 12 (.int 0)) (cf i) 15 (.int p2)))) (fun (u : zS) (t : State) => zB D tc (zA [] L s.heap.size) [] u t) (zA [] L s.heap.size)) ([.ref p0, .int p1, .int p2] : List Value).toArray s 0 0 (zA [] L s.heap.size)) (F0 m 49 ls (.ref (cf i3) :: []))
    refine z_castS (k := 11) hM hI hr29 rfl rfl (by decide +kernel) dX11_lose_49 ?_
    refine lv_iload_n hx hb dX11_lose_52 rfl (lv_at hl 3 rfl) ?_
    refine z_putN (host := "WattgovernModel") (g' := (zup (zup g p0 12 (.int 0)) ((cf i3)) 15 (.int p2))) (k := 11) (j := 15) hM hE hI hr29 rfl rfl hinX9 tyX9 tyX9_ok nmX9 rfl (by decide) (by decide +kernel) (fun _ h9 => h9) rfl rfl (z_bn (by first | assumption | exact Or.inl rfl | exact Or.inr rfl)) (z_bf (by first | assumption | exact Or.inl rfl | exact Or.inr rfl)) ⟨(zup_self _ _ _ _).symm, z_bv (by first | assumption | exact Or.inl rfl | exact Or.inr rfl)⟩ (fun b i h => zup_ne h) dX11_lose_53 (fun H locs hI => ?_)
    have hMo := hMo.upO (j := 15) (v := .int p2) hr29 (by decide)
    refine lv_iload_n hx hb dX11_lose_56 rfl (lv_at hl 0 rfl) ?_
    refine W.widen (k := 0) (n := 0) (Nat.le_of_ble_eq_true rfl) (Nat.le_of_ble_eq_true rfl) ?_
    exact W.zret (v := i19) hx hb hr (z_bn (by assumption)) (fun t ht hW => ⟨⟨_, (L, κ, (zup (zup g p0 12 (.int 0)) ((cf i3)) 15 (.int p2))), rfl, (Or.inr ⟨_, hi4, hp5, ((zup_ne (Or.inr (by decide))).symm.trans hg20.symm), by assumption, rfl⟩), z_end hK hI ht hW⟩, z_F hI ht⟩) (z_locs hI) dX11_lose_57
  · skip
    refine lv_if_eq (tgt := 13) hx hb dX11_lose_6 (by decide) (fun _ => ?_) (fun h9 => by first | exact absurd h9 (by decide) | exact absurd (by decide) h9)
    refine lv_iconst (v := 1) hx hb dX11_lose_13 (by decide) ?_
    refine z_ciX (Xc := []) (wr := []) (rx := []) [] [] rfl rfl rfl rfl (by decide) hI (va_runV (As := [.int 1]) (rest := []) ⟨hx, hb, hml, hown, hts⟩ (c_X11_fails l D tc z0 _ κ g _ p0 hk0 1) (cwV 1 hts gX11_lose_X11_fails rfl rfl rfl (by decide +kernel) ⟨Nat.le_of_ble_eq_true rfl, Nat.le_of_ble_eq_true rfl⟩) (z_preV (Xc := []) hK hE hI [] rfl rfl (z_recv hK hI hk0 rfl rfl)) rfl rfl hl.1 rfl (lv_room (Nat.le_of_ble_eq_true rfl)) dX11_lose_14 ⟨(Nat.le_of_ble_eq_true rfl), (Nat.le_of_ble_eq_true rfl)⟩) (fun v30 u H locs hw31 hI => ?_)
    obtain ⟨hw31, rfl⟩ := hw31
    have hI : zI D tc _ s.heap [] L κ (zup g p0 12 (.int 1)) _ _ := hI
    have hMo := hMo.upP (j := 12) (v := .int 1) (by decide)
    obtain rfl : v30 = 1 := hw31.trans (by decide)
    refine lv_if_eq (tgt := 22) hx hb dX11_lose_17 (by decide) (fun h9 => by first | exact absurd h9 (by decide) | exact absurd (by decide) h9) (fun _ => ?_)
    refine lv_iconst (v := 0) hx hb dX11_lose_20 (by decide) ?_
    refine W.widen (k := 0) (n := 0) (Nat.le_of_ble_eq_true rfl) (Nat.le_of_ble_eq_true rfl) ?_
    exact W.zret (v := 0) hx hb hr (by decide) (fun t ht hW => ⟨⟨_, (L, κ, (zup g p0 12 (.int 1))), rfl, (Or.inl ⟨rfl, hno6, rfl⟩), z_end hK hI ht hW⟩, z_F hI ht⟩) (z_locs hI) dX11_lose_21

set_option maxHeartbeats 4000000 in
set_option maxRecDepth 100000 in
theorem c_X11_governor (l : Launch) (D : va_G) (tc : Nat → ClassId) (z0 : Nat) (L : List Nat) (κ : Nat → Nat) (g : Nat → Nat → Value) (sz : Nat) (p0 : Nat) (hk0 : κ p0 = 13) (p1 : Int32) (p2 : Int32) (hc2 : fits .char (.int p2) = true) (p3 : Int32) (lc eC nC : Nat) (mC : Int32) (cf : Nat → Nat) (lt eT nT : Nat) (mT : Int32) (tf : Nat → Nat) (hMo : zMo κ g z0 p0 lc eC nC mC cf lt eT nT mT tf) : Met l yX11_governor wsX11_governor ({ frames := 3, cells := 0, slots := 0, locals := 64 }) (zPc D tc z0 [.ref p0, .int p1, .int p2, .int p3] [] (L, κ, g) sz) (va_Qi (fun (r : Int32) (u : zS) => (∃ v : Int32, ((v = 1 ∧ ∀ i, i < nC → p1 ≠ nI i) ∨ (v = 2 ∧ (∃ i, i < nC ∧ p1 = nI i) ∧ ¬ (p2 = 108 ∨ p2 = 119 ∨ (p2 = 102 ∧ 0 ≤ p3 ∧ p3 ≤ 7)))) ∧ u = (L, κ, zup g p0 12 (.int v))) ∨ (∃ i, i < nC ∧ p1 = nI i ∧ g (cf i) 3 = .int r ∧ (p2 = 108 ∨ p2 = 119 ∨ (p2 = 102 ∧ 0 ≤ p3 ∧ p3 ≤ 7)) ∧ u = (L, κ, zup (zup g p0 12 (.int 0)) (cf i) 3 (.int p2)))) (fun (u : zS) (t : State) => zB D tc (zA [] L sz) [] u t) (zA [] L sz)) 0 0 (zA [] L sz) := by
  refine Met.ofW (cc := cX11_governor) (maxL := 6) (ret := (some .char)) (by decide) rfl ?_
  intro p e9 s m args below meth c s₁ B hml hv
  obtain ⟨rfl, rfl, hK, hE, hI⟩ := hv.opn
  have hx := B.exec
  have hb := B.bytes
  have hr := B.returns
  have hts := atoms_spec (ws := wsX11_governor) B.pre
  have hown : s.vm.findClass RX11 = some m.cls := findClass_of_methodNamed B.named
  have hlocks := B.notSynchronized
  have hM : zM p s m c cX11_governor _ wsX11_governor RX11 D tc := ⟨hx, hb, hts, hown, hK⟩
  have hinX11 : ∀ w ∈ wsX110, w ∈ wsX11_governor := by decide +kernel
  have hinX9 : ∀ w ∈ wsX90, w ∈ wsX11_governor := by decide +kernel
  have hnC := hMo.bC
  have hnT := hMo.bT
  have hl := lv_entry ([.ref p0, .int p1, .int p2, .int p3]) (n := 6) (Nat.le_of_ble_eq_true rfl)
  rw [lg_entry_eq]
  generalize (lg_sl ([.ref p0, .int p1, .int p2, .int p3]) ++ List.replicate (6 - (lg_sl ([.ref p0, .int p1, .int p2, .int p3])).length) Slot.unset).toArray = ls at hl ⊢
  have hl : lv_has ls 6 [(0, .ref p0), (1, .int p1), (2, .int p2), (3, .int p3)] := hl
  refine lv_iload_n hx hb dX11_governor_0 rfl (lv_at hl 2 rfl) ?_
  refine lv_bipush (v := 108) hx hb dX11_governor_1 (by decide) ?_
  refine lv_icmp_eq (tgt := 28) hx hb dX11_governor_3 (by decide) (fun c1 => ?_) (fun c1 => ?_)
  · skip
    refine lv_iconst (v := 1) hx hb dX11_governor_28 (by decide) ?_
    refine lv_goto (tgt := 33) hx hb dX11_governor_29 (by decide) ?_
    refine lv_istore (lv' := [(4, .int 1), (0, .ref p0), (1, .int p1), (2, .int p2), (3, .int p3)]) hx hb dX11_governor_33 hl (by decide) rfl (fun ls hl => ?_)
    refine lv_aload_n hx hb dX11_governor_35 rfl (lv_at hl 1 rfl) ?_
    refine lv_aload_n hx hb dX11_governor_36 rfl (lv_at hl 1 rfl) ?_
    refine lv_iload_n hx hb dX11_governor_37 rfl (lv_at hl 2 rfl) ?_
    refine vp_callSi (W.runV (As := [.int p1]) (rest := [.ref p0]) ⟨hx, hb, hml, hown, hts⟩ (c_X11_isCore l D tc z0 _ κ g _ p0 hk0 p1 lc eC nC mC cf lt eT nT mT tf hMo) (cwV 1 hts gX11_governor_X11_isCore rfl rfl rfl (by decide +kernel) ⟨Nat.le_of_ble_eq_true rfl, Nat.le_of_ble_eq_true rfl⟩) (z_preV (Xc := []) hK hE hI [] rfl rfl (z_recv hK hI hk0 rfl rfl)) rfl rfl hl.1 rfl (lv_room (Nat.le_of_ble_eq_true rfl)) dX11_governor_38 ⟨(Nat.le_of_ble_eq_true rfl), (Nat.le_of_ble_eq_true rfl)⟩) (fun v2 hw3 => ?_)
    rcases hw3 with ⟨rfl, i4, hi5, hp6⟩ | ⟨rfl, hno7⟩
    · skip
      rw [hp6] at hl
      refine lv_if_ne (tgt := 48) hx hb dX11_governor_41 (by decide) (fun _ => ?_) (fun h9 => by first | exact absurd h9 (by decide) | exact absurd (by decide) h9)
      refine lv_iload hx hb dX11_governor_48 (lv_at hl 0 rfl) ?_
      refine lv_if_eq (tgt := 57) hx hb dX11_governor_50 (by decide) (fun h9 => by first | exact absurd h9 (by decide) | exact absurd (by decide) h9) (fun _ => ?_)
      refine lv_iconst (v := 0) hx hb dX11_governor_53 (by decide) ?_
      refine lv_goto (tgt := 58) hx hb dX11_governor_54 (by decide) ?_
      refine z_ciX (Xc := []) (wr := []) (rx := []) [] [] rfl rfl rfl rfl (by decide) hI (va_runV (As := [.int 0]) (rest := []) ⟨hx, hb, hml, hown, hts⟩ (c_X11_fails l D tc z0 _ κ g _ p0 hk0 0) (cwV 1 hts gX11_governor_X11_fails rfl rfl rfl (by decide +kernel) ⟨Nat.le_of_ble_eq_true rfl, Nat.le_of_ble_eq_true rfl⟩) (z_preV (Xc := []) hK hE hI [] rfl rfl (z_recv hK hI hk0 rfl rfl)) rfl rfl hl.1 rfl (lv_room (Nat.le_of_ble_eq_true rfl)) dX11_governor_58 ⟨(Nat.le_of_ble_eq_true rfl), (Nat.le_of_ble_eq_true rfl)⟩) (fun v8 u H locs hw9 hI => ?_)
      obtain ⟨hw9, rfl⟩ := hw9
      have hI : zI D tc _ s.heap [] L κ (zup g p0 12 (.int 0)) _ _ := hI
      have hMo := hMo.upP (j := 12) (v := .int 0) (by decide)
      obtain rfl : v8 = 0 := hw9.trans (by decide)
      refine lv_if_eq (tgt := 67) hx hb dX11_governor_61 (by decide) (fun _ => ?_) (fun h9 => by first | exact absurd h9 (by decide) | exact absurd (by decide) h9)
      refine lv_aload_n hx hb dX11_governor_67 rfl (lv_at hl 1 rfl) ?_
      refine z_get (k := 13) (j := 0) hM hI hk0 rfl rfl hinX11 rfl (by decide) (by decide +kernel) (fun _ h9 => h9) dX11_governor_68 (fun v10 hv11 => ?_)
      obtain ⟨hg13, i12, rfl, hr14⟩ := hv11
      obtain rfl : lc = i12 := Value.ref.inj (hMo.gc.symm.trans hg13.symm)
      refine lv_iload_n hx hb dX11_governor_71 rfl (lv_at hl 2 rfl) ?_
      refine va_csFq (va_runF (As := [.int ((nI i4))]) (rest := []) (hK.1 1 _ rfl).2 ⟨hx, hb, hml, hown, hts⟩ (c_Jx4a65c_get_915e3 l D tc z0 _ κ (zup g p0 12 (.int 0)) _ lc 1 eC 25 11 nC mC cf rfl hMo.LC rfl rfl i4 (by omega)) (va_cwF 1 hts gX11_governor_Jx4a65c_get_915e3_f101Jx4a65c rfl rfl rfl (hE.2.2.1 (RJx4a65c, ⟨"java/util/List", "get", "(I)Ljava/lang/Object;"⟩, yJx4a65c_get_915e3) (by decide +kernel)) (by decide +kernel) ⟨Nat.le_of_ble_eq_true rfl, Nat.le_of_ble_eq_true rfl⟩) (z_preV (Xc := []) hK hE hI [] rfl rfl (z_recv hK hI hMo.LC.1 rfl rfl)) rfl rfl hl.1 rfl (lv_room (Nat.le_of_ble_eq_true rfl)) dX11_governor_72 ⟨(Nat.le_of_ble_eq_true rfl), (Nat.le_of_ble_eq_true rfl)⟩) (fun r15 hw16 => ?_)
      obtain rfl := hw16
      have hr17 : κ (cf i4) = 11 := hMo.LC.el (i := i4) (by omega)
      show W p l e9 (headSpec wsX11_governor ({ frames := 3, cells := 0, slots := 0, locals := 64 })).room s m ([.ref p0, .int p1, .int p2, .int p3] : List Value).toArray below meth c _ _ 0 0 (MQ below (va_Qi (fun (r : Int32) (u : zS) => (∃ v : Int32, ((v = 1 ∧ ∀ i, i < nC → p1 ≠ nI i) ∨ (v = 2 ∧ (∃ i, i < nC ∧ p1 = nI i) ∧ ¬ (p2 = 108 ∨ p2 = 119 ∨ (p2 = 102 ∧ 0 ≤ p3 ∧ p3 ≤ 7)))) ∧ u = (L, κ, zup g p0 12 (.int v))) ∨ (∃ i, i < nC ∧ p1 = nI i ∧ g (cf i) 3 = .int r ∧ (p2 = 108 ∨ p2 = 119 ∨ (p2 = 102 ∧ 0 ≤ p3 ∧ p3 ≤ 7)) ∧ u = (L, κ, zup (zup g p0 12 (.int 0)) (cf i) 3 (.int p2)))) (fun (u : zS) (t : State) => zB D tc (zA [] L s.heap.size) [] u t) (zA [] L s.heap.size)) ([.ref p0, .int p1, .int p2, .int p3] : List Value).toArray s 0 0 (zA [] L s.heap.size)) (F0 m 77 ls (.ref (cf i4) :: []))
      refine z_castS (k := 11) hM hI hr17 rfl rfl (by decide +kernel) dX11_governor_77 ?_
      refine z_getN (host := "WattgovernModel") (k := 11) (j := 3) hM hE hI hr17 rfl rfl hinX9 rfl (by decide) (by decide +kernel) (fun _ h9 => h9) dX11_governor_80 (fun v18 hv19 => ?_)
      obtain ⟨hg21, i20, rfl, hf22⟩ := hv19
      refine lv_istore (lv' := [(5, .int i20), (4, .int 1), (0, .ref p0), (1, .int ((nI i4))), (2, .int p2), (3, .int p3)]) hx hb dX11_governor_83 hl (by decide) rfl (fun ls hl => ?_)
      refine lv_aload_n hx hb dX11_governor_85 rfl (lv_at hl 2 rfl) ?_
      refine z_get (k := 13) (j := 0) hM hI hk0 rfl rfl hinX11 rfl (by decide) (by decide +kernel) (fun _ h9 => h9) dX11_governor_86 (fun v23 hv24 => ?_)
      obtain ⟨hg26, i25, rfl, hr27⟩ := hv24
      obtain rfl : lc = i25 := Value.ref.inj (hMo.gc.symm.trans hg26.symm)
      refine lv_iload_n hx hb dX11_governor_89 rfl (lv_at hl 3 rfl) ?_
      refine va_csFq (va_runF (As := [.int ((nI i4))]) (rest := []) (hK.1 1 _ rfl).2 ⟨hx, hb, hml, hown, hts⟩ (c_Jx4a65c_get_915e3 l D tc z0 _ κ (zup g p0 12 (.int 0)) _ lc 1 eC 25 11 nC mC cf rfl hMo.LC rfl rfl i4 (by omega)) (va_cwF 1 hts gX11_governor_Jx4a65c_get_915e3_f101Jx4a65c rfl rfl rfl (hE.2.2.1 (RJx4a65c, ⟨"java/util/List", "get", "(I)Ljava/lang/Object;"⟩, yJx4a65c_get_915e3) (by decide +kernel)) (by decide +kernel) ⟨Nat.le_of_ble_eq_true rfl, Nat.le_of_ble_eq_true rfl⟩) (z_preV (Xc := []) hK hE hI [] rfl rfl (z_recv hK hI hMo.LC.1 rfl rfl)) rfl rfl hl.1 rfl (lv_room (Nat.le_of_ble_eq_true rfl)) dX11_governor_90 ⟨(Nat.le_of_ble_eq_true rfl), (Nat.le_of_ble_eq_true rfl)⟩) (fun r28 hw29 => ?_)
      obtain rfl := hw29
      have hr30 : κ (cf i4) = 11 := hMo.LC.el (i := i4) (by omega)
      show W p l e9 (headSpec wsX11_governor ({ frames := 3, cells := 0, slots := 0, locals := 64 })).room s m ([.ref p0, .int p1, .int p2, .int p3] : List Value).toArray below meth c _ _ 0 0 (MQ below (va_Qi (fun (r : Int32) (u : zS) => (∃ v : Int32, ((v = 1 ∧ ∀ i, i < nC → p1 ≠ nI i) ∨ (v = 2 ∧ (∃ i, i < nC ∧ p1 = nI i) ∧ ¬ (p2 = 108 ∨ p2 = 119 ∨ (p2 = 102 ∧ 0 ≤ p3 ∧ p3 ≤ 7)))) ∧ u = (L, κ, zup g p0 12 (.int v))) ∨ (∃ i, i < nC ∧ p1 = nI i ∧ g (cf i) 3 = .int r ∧ (p2 = 108 ∨ p2 = 119 ∨ (p2 = 102 ∧ 0 ≤ p3 ∧ p3 ≤ 7)) ∧ u = (L, κ, zup (zup g p0 12 (.int 0)) (cf i) 3 (.int p2)))) (fun (u : zS) (t : State) => zB D tc (zA [] L s.heap.size) [] u t) (zA [] L s.heap.size)) ([.ref p0, .int p1, .int p2, .int p3] : List Value).toArray s 0 0 (zA [] L s.heap.size)) (F0 m 95 ls (.ref (cf i4) :: []))
      refine z_castS (k := 11) hM hI hr30 rfl rfl (by decide +kernel) dX11_governor_95 ?_
      refine lv_iload_n hx hb dX11_governor_98 rfl (lv_at hl 4 rfl) ?_
      refine z_putN (host := "WattgovernModel") (g' := (zup (zup g p0 12 (.int 0)) ((cf i4)) 3 (.int p2))) (k := 11) (j := 3) hM hE hI hr30 rfl rfl hinX9 tyX9 tyX9_ok nmX9 rfl (by decide) (by decide +kernel) (fun _ h9 => h9) rfl rfl (z_cn (by first | assumption | decide)) (by first | assumption | decide) ⟨(zup_self _ _ _ _).symm, _, rfl, (by first | assumption | decide)⟩ (fun b i h => zup_ne h) dX11_governor_99 (fun H locs hI => ?_)
      have hMo := hMo.upO (j := 3) (v := .int p2) hr30 (by decide)
      refine lv_aload_n hx hb dX11_governor_102 rfl (lv_at hl 2 rfl) ?_
      refine z_get (k := 13) (j := 0) hM hI hk0 rfl rfl hinX11 rfl (by decide) (by decide +kernel) (fun _ h9 => h9) dX11_governor_103 (fun v31 hv32 => ?_)
      obtain ⟨hg34, i33, rfl, hr35⟩ := hv32
      obtain rfl : lc = i33 := Value.ref.inj (hMo.gc.symm.trans hg34.symm)
      refine lv_iload_n hx hb dX11_governor_106 rfl (lv_at hl 3 rfl) ?_
      refine va_csFq (va_runF (As := [.int ((nI i4))]) (rest := []) (hK.1 1 _ rfl).2 ⟨hx, hb, hml, hown, hts⟩ (c_Jx4a65c_get_915e3 l D tc z0 _ κ (zup (zup g p0 12 (.int 0)) ((cf i4)) 3 (.int p2)) _ lc 1 eC 25 11 nC mC cf rfl hMo.LC rfl rfl i4 (by omega)) (va_cwF 1 hts gX11_governor_Jx4a65c_get_915e3_f101Jx4a65c rfl rfl rfl (hE.2.2.1 (RJx4a65c, ⟨"java/util/List", "get", "(I)Ljava/lang/Object;"⟩, yJx4a65c_get_915e3) (by decide +kernel)) (by decide +kernel) ⟨Nat.le_of_ble_eq_true rfl, Nat.le_of_ble_eq_true rfl⟩) (z_preV (Xc := []) hK hE hI [] rfl rfl (z_recv hK hI hMo.LC.1 rfl rfl)) rfl rfl hl.1 rfl (lv_room (Nat.le_of_ble_eq_true rfl)) dX11_governor_107 ⟨(Nat.le_of_ble_eq_true rfl), (Nat.le_of_ble_eq_true rfl)⟩) (fun r36 hw37 => ?_)
      obtain rfl := hw37
      have hr38 : κ (cf i4) = 11 := hMo.LC.el (i := i4) (by omega)
      show W p l e9 (headSpec wsX11_governor ({ frames := 3, cells := 0, slots := 0, locals := 64 })).room s m ([.ref p0, .int p1, .int p2, .int p3] : List Value).toArray below meth c _ _ 0 0 (MQ below (va_Qi (fun (r : Int32) (u : zS) => (∃ v : Int32, ((v = 1 ∧ ∀ i, i < nC → p1 ≠ nI i) ∨ (v = 2 ∧ (∃ i, i < nC ∧ p1 = nI i) ∧ ¬ (p2 = 108 ∨ p2 = 119 ∨ (p2 = 102 ∧ 0 ≤ p3 ∧ p3 ≤ 7)))) ∧ u = (L, κ, zup g p0 12 (.int v))) ∨ (∃ i, i < nC ∧ p1 = nI i ∧ g (cf i) 3 = .int r ∧ (p2 = 108 ∨ p2 = 119 ∨ (p2 = 102 ∧ 0 ≤ p3 ∧ p3 ≤ 7)) ∧ u = (L, κ, zup (zup g p0 12 (.int 0)) (cf i) 3 (.int p2)))) (fun (u : zS) (t : State) => zB D tc (zA [] L s.heap.size) [] u t) (zA [] L s.heap.size)) ([.ref p0, .int p1, .int p2, .int p3] : List Value).toArray s 0 0 (zA [] L s.heap.size)) (F0 m 112 ls (.ref (cf i4) :: []))
      refine z_castS (k := 11) hM hI hr38 rfl rfl (by decide +kernel) dX11_governor_112 ?_
      refine lv_iload_n hx hb dX11_governor_115 rfl (lv_at hl 4 rfl) ?_
      refine lv_bipush (v := 102) hx hb dX11_governor_116 (by decide) ?_
      refine lv_icmp_ne (tgt := 125) hx hb dX11_governor_118 (by decide) (fun c39 => ?_) (fun c39 => ?_)
      · skip
        refine lv_iconst (v := 0) hx hb dX11_governor_125 (by decide) ?_
        refine z_putN (host := "WattgovernModel") (g' := (zup (zup g p0 12 (.int 0)) ((cf i4)) 3 (.int p2))) (k := 11) (j := 6) hM hE hI hr38 rfl rfl hinX9 tyX9 tyX9_ok nmX9 rfl (by decide) (by decide +kernel) (fun _ h9 => h9) rfl rfl rfl rfl ⟨_, rfl⟩ (fun _ _ _ => rfl) dX11_governor_126 (fun H locs hI => ?_)
        refine lv_iload hx hb dX11_governor_129 (lv_at hl 0 rfl) ?_
        refine W.widen (k := 0) (n := 0) (Nat.le_of_ble_eq_true rfl) (Nat.le_of_ble_eq_true rfl) ?_
        exact W.zret (v := i20) hx hb hr (z_cn (by assumption)) (fun t ht hW => ⟨⟨_, (L, κ, (zup (zup g p0 12 (.int 0)) ((cf i4)) 3 (.int p2))), rfl, (Or.inr ⟨_, hi5, hp6, ((zup_ne (Or.inr (by decide))).symm.trans hg21.symm), (by first | exact Or.inl (by assumption) | exact Or.inr (Or.inl (by assumption)) | exact Or.inr (Or.inr ⟨by assumption, Classical.not_not.mp (fun h => absurd (h9.mpr h) c9)⟩)), rfl⟩), z_end hK hI ht hW⟩, z_F hI ht⟩) (z_locs hI) dX11_governor_131
      · skip
        refine lv_iload_n hx hb dX11_governor_121 rfl (lv_at hl 5 rfl) ?_
        refine lv_goto (tgt := 126) hx hb dX11_governor_122 (by decide) ?_
        refine z_putN (host := "WattgovernModel") (g' := (zup (zup g p0 12 (.int 0)) ((cf i4)) 3 (.int p2))) (k := 11) (j := 6) hM hE hI hr38 rfl rfl hinX9 tyX9 tyX9_ok nmX9 rfl (by decide) (by decide +kernel) (fun _ h9 => h9) rfl rfl rfl rfl ⟨_, rfl⟩ (fun _ _ _ => rfl) dX11_governor_126 (fun H locs hI => ?_)
        refine lv_iload hx hb dX11_governor_129 (lv_at hl 0 rfl) ?_
        refine W.widen (k := 0) (n := 0) (Nat.le_of_ble_eq_true rfl) (Nat.le_of_ble_eq_true rfl) ?_
        exact W.zret (v := i20) hx hb hr (z_cn (by assumption)) (fun t ht hW => ⟨⟨_, (L, κ, (zup (zup g p0 12 (.int 0)) ((cf i4)) 3 (.int p2))), rfl, (Or.inr ⟨_, hi5, hp6, ((zup_ne (Or.inr (by decide))).symm.trans hg21.symm), (by first | exact Or.inl (by assumption) | exact Or.inr (Or.inl (by assumption)) | exact Or.inr (Or.inr ⟨by assumption, Classical.not_not.mp (fun h => absurd (h9.mpr h) c9)⟩)), rfl⟩), z_end hK hI ht hW⟩, z_F hI ht⟩) (z_locs hI) dX11_governor_131
    · skip
      refine lv_if_ne (tgt := 48) hx hb dX11_governor_41 (by decide) (fun h9 => by first | exact absurd h9 (by decide) | exact absurd (by decide) h9) (fun _ => ?_)
      refine lv_iconst (v := 1) hx hb dX11_governor_44 (by decide) ?_
      refine lv_goto (tgt := 58) hx hb dX11_governor_45 (by decide) ?_
      refine z_ciX (Xc := []) (wr := []) (rx := []) [] [] rfl rfl rfl rfl (by decide) hI (va_runV (As := [.int 1]) (rest := []) ⟨hx, hb, hml, hown, hts⟩ (c_X11_fails l D tc z0 _ κ g _ p0 hk0 1) (cwV 1 hts gX11_governor_X11_fails rfl rfl rfl (by decide +kernel) ⟨Nat.le_of_ble_eq_true rfl, Nat.le_of_ble_eq_true rfl⟩) (z_preV (Xc := []) hK hE hI [] rfl rfl (z_recv hK hI hk0 rfl rfl)) rfl rfl hl.1 rfl (lv_room (Nat.le_of_ble_eq_true rfl)) dX11_governor_58 ⟨(Nat.le_of_ble_eq_true rfl), (Nat.le_of_ble_eq_true rfl)⟩) (fun v40 u H locs hw41 hI => ?_)
      obtain ⟨hw41, rfl⟩ := hw41
      have hI : zI D tc _ s.heap [] L κ (zup g p0 12 (.int 1)) _ _ := hI
      have hMo := hMo.upP (j := 12) (v := .int 1) (by decide)
      obtain rfl : v40 = 1 := hw41.trans (by decide)
      refine lv_if_eq (tgt := 67) hx hb dX11_governor_61 (by decide) (fun h9 => by first | exact absurd h9 (by decide) | exact absurd (by decide) h9) (fun _ => ?_)
      refine lv_bipush (v := 32) hx hb dX11_governor_64 (by decide) ?_
      refine W.widen (k := 0) (n := 0) (Nat.le_of_ble_eq_true rfl) (Nat.le_of_ble_eq_true rfl) ?_
      exact W.zret (v := 32) hx hb hr (by decide) (fun t ht hW => ⟨⟨_, (L, κ, (zup g p0 12 (.int 1))), rfl, (Or.inl ⟨_, Or.inl ⟨rfl, hno7⟩, rfl⟩), z_end hK hI ht hW⟩, z_F hI ht⟩) (z_locs hI) dX11_governor_66
  · skip
    refine lv_iload_n hx hb dX11_governor_6 rfl (lv_at hl 2 rfl) ?_
    refine lv_bipush (v := 119) hx hb dX11_governor_7 (by decide) ?_
    refine lv_icmp_eq (tgt := 28) hx hb dX11_governor_9 (by decide) (fun c42 => ?_) (fun c42 => ?_)
    · skip
      refine lv_iconst (v := 1) hx hb dX11_governor_28 (by decide) ?_
      refine lv_goto (tgt := 33) hx hb dX11_governor_29 (by decide) ?_
      refine lv_istore (lv' := [(4, .int 1), (0, .ref p0), (1, .int p1), (2, .int p2), (3, .int p3)]) hx hb dX11_governor_33 hl (by decide) rfl (fun ls hl => ?_)
      refine lv_aload_n hx hb dX11_governor_35 rfl (lv_at hl 1 rfl) ?_
      refine lv_aload_n hx hb dX11_governor_36 rfl (lv_at hl 1 rfl) ?_
      refine lv_iload_n hx hb dX11_governor_37 rfl (lv_at hl 2 rfl) ?_
      refine vp_callSi (W.runV (As := [.int p1]) (rest := [.ref p0]) ⟨hx, hb, hml, hown, hts⟩ (c_X11_isCore l D tc z0 _ κ g _ p0 hk0 p1 lc eC nC mC cf lt eT nT mT tf hMo) (cwV 1 hts gX11_governor_X11_isCore rfl rfl rfl (by decide +kernel) ⟨Nat.le_of_ble_eq_true rfl, Nat.le_of_ble_eq_true rfl⟩) (z_preV (Xc := []) hK hE hI [] rfl rfl (z_recv hK hI hk0 rfl rfl)) rfl rfl hl.1 rfl (lv_room (Nat.le_of_ble_eq_true rfl)) dX11_governor_38 ⟨(Nat.le_of_ble_eq_true rfl), (Nat.le_of_ble_eq_true rfl)⟩) (fun v43 hw44 => ?_)
      rcases hw44 with ⟨rfl, i45, hi46, hp47⟩ | ⟨rfl, hno48⟩
      · skip
        rw [hp47] at hl
        refine lv_if_ne (tgt := 48) hx hb dX11_governor_41 (by decide) (fun _ => ?_) (fun h9 => by first | exact absurd h9 (by decide) | exact absurd (by decide) h9)
        refine lv_iload hx hb dX11_governor_48 (lv_at hl 0 rfl) ?_
        refine lv_if_eq (tgt := 57) hx hb dX11_governor_50 (by decide) (fun h9 => by first | exact absurd h9 (by decide) | exact absurd (by decide) h9) (fun _ => ?_)
        refine lv_iconst (v := 0) hx hb dX11_governor_53 (by decide) ?_
        refine lv_goto (tgt := 58) hx hb dX11_governor_54 (by decide) ?_
        refine z_ciX (Xc := []) (wr := []) (rx := []) [] [] rfl rfl rfl rfl (by decide) hI (va_runV (As := [.int 0]) (rest := []) ⟨hx, hb, hml, hown, hts⟩ (c_X11_fails l D tc z0 _ κ g _ p0 hk0 0) (cwV 1 hts gX11_governor_X11_fails rfl rfl rfl (by decide +kernel) ⟨Nat.le_of_ble_eq_true rfl, Nat.le_of_ble_eq_true rfl⟩) (z_preV (Xc := []) hK hE hI [] rfl rfl (z_recv hK hI hk0 rfl rfl)) rfl rfl hl.1 rfl (lv_room (Nat.le_of_ble_eq_true rfl)) dX11_governor_58 ⟨(Nat.le_of_ble_eq_true rfl), (Nat.le_of_ble_eq_true rfl)⟩) (fun v49 u H locs hw50 hI => ?_)
        obtain ⟨hw50, rfl⟩ := hw50
        have hI : zI D tc _ s.heap [] L κ (zup g p0 12 (.int 0)) _ _ := hI
        have hMo := hMo.upP (j := 12) (v := .int 0) (by decide)
        obtain rfl : v49 = 0 := hw50.trans (by decide)
        refine lv_if_eq (tgt := 67) hx hb dX11_governor_61 (by decide) (fun _ => ?_) (fun h9 => by first | exact absurd h9 (by decide) | exact absurd (by decide) h9)
        refine lv_aload_n hx hb dX11_governor_67 rfl (lv_at hl 1 rfl) ?_
        refine z_get (k := 13) (j := 0) hM hI hk0 rfl rfl hinX11 rfl (by decide) (by decide +kernel) (fun _ h9 => h9) dX11_governor_68 (fun v51 hv52 => ?_)
        obtain ⟨hg54, i53, rfl, hr55⟩ := hv52
        obtain rfl : lc = i53 := Value.ref.inj (hMo.gc.symm.trans hg54.symm)
        refine lv_iload_n hx hb dX11_governor_71 rfl (lv_at hl 2 rfl) ?_
        refine va_csFq (va_runF (As := [.int ((nI i45))]) (rest := []) (hK.1 1 _ rfl).2 ⟨hx, hb, hml, hown, hts⟩ (c_Jx4a65c_get_915e3 l D tc z0 _ κ (zup g p0 12 (.int 0)) _ lc 1 eC 25 11 nC mC cf rfl hMo.LC rfl rfl i45 (by omega)) (va_cwF 1 hts gX11_governor_Jx4a65c_get_915e3_f101Jx4a65c rfl rfl rfl (hE.2.2.1 (RJx4a65c, ⟨"java/util/List", "get", "(I)Ljava/lang/Object;"⟩, yJx4a65c_get_915e3) (by decide +kernel)) (by decide +kernel) ⟨Nat.le_of_ble_eq_true rfl, Nat.le_of_ble_eq_true rfl⟩) (z_preV (Xc := []) hK hE hI [] rfl rfl (z_recv hK hI hMo.LC.1 rfl rfl)) rfl rfl hl.1 rfl (lv_room (Nat.le_of_ble_eq_true rfl)) dX11_governor_72 ⟨(Nat.le_of_ble_eq_true rfl), (Nat.le_of_ble_eq_true rfl)⟩) (fun r56 hw57 => ?_)
        obtain rfl := hw57
        have hr58 : κ (cf i45) = 11 := hMo.LC.el (i := i45) (by omega)
        show W p l e9 (headSpec wsX11_governor ({ frames := 3, cells := 0, slots := 0, locals := 64 })).room s m ([.ref p0, .int p1, .int p2, .int p3] : List Value).toArray below meth c _ _ 0 0 (MQ below (va_Qi (fun (r : Int32) (u : zS) => (∃ v : Int32, ((v = 1 ∧ ∀ i, i < nC → p1 ≠ nI i) ∨ (v = 2 ∧ (∃ i, i < nC ∧ p1 = nI i) ∧ ¬ (p2 = 108 ∨ p2 = 119 ∨ (p2 = 102 ∧ 0 ≤ p3 ∧ p3 ≤ 7)))) ∧ u = (L, κ, zup g p0 12 (.int v))) ∨ (∃ i, i < nC ∧ p1 = nI i ∧ g (cf i) 3 = .int r ∧ (p2 = 108 ∨ p2 = 119 ∨ (p2 = 102 ∧ 0 ≤ p3 ∧ p3 ≤ 7)) ∧ u = (L, κ, zup (zup g p0 12 (.int 0)) (cf i) 3 (.int p2)))) (fun (u : zS) (t : State) => zB D tc (zA [] L s.heap.size) [] u t) (zA [] L s.heap.size)) ([.ref p0, .int p1, .int p2, .int p3] : List Value).toArray s 0 0 (zA [] L s.heap.size)) (F0 m 77 ls (.ref (cf i45) :: []))
        refine z_castS (k := 11) hM hI hr58 rfl rfl (by decide +kernel) dX11_governor_77 ?_
        refine z_getN (host := "WattgovernModel") (k := 11) (j := 3) hM hE hI hr58 rfl rfl hinX9 rfl (by decide) (by decide +kernel) (fun _ h9 => h9) dX11_governor_80 (fun v59 hv60 => ?_)
        obtain ⟨hg62, i61, rfl, hf63⟩ := hv60
        refine lv_istore (lv' := [(5, .int i61), (4, .int 1), (0, .ref p0), (1, .int ((nI i45))), (2, .int p2), (3, .int p3)]) hx hb dX11_governor_83 hl (by decide) rfl (fun ls hl => ?_)
        refine lv_aload_n hx hb dX11_governor_85 rfl (lv_at hl 2 rfl) ?_
        refine z_get (k := 13) (j := 0) hM hI hk0 rfl rfl hinX11 rfl (by decide) (by decide +kernel) (fun _ h9 => h9) dX11_governor_86 (fun v64 hv65 => ?_)
        obtain ⟨hg67, i66, rfl, hr68⟩ := hv65
        obtain rfl : lc = i66 := Value.ref.inj (hMo.gc.symm.trans hg67.symm)
        refine lv_iload_n hx hb dX11_governor_89 rfl (lv_at hl 3 rfl) ?_
        refine va_csFq (va_runF (As := [.int ((nI i45))]) (rest := []) (hK.1 1 _ rfl).2 ⟨hx, hb, hml, hown, hts⟩ (c_Jx4a65c_get_915e3 l D tc z0 _ κ (zup g p0 12 (.int 0)) _ lc 1 eC 25 11 nC mC cf rfl hMo.LC rfl rfl i45 (by omega)) (va_cwF 1 hts gX11_governor_Jx4a65c_get_915e3_f101Jx4a65c rfl rfl rfl (hE.2.2.1 (RJx4a65c, ⟨"java/util/List", "get", "(I)Ljava/lang/Object;"⟩, yJx4a65c_get_915e3) (by decide +kernel)) (by decide +kernel) ⟨Nat.le_of_ble_eq_true rfl, Nat.le_of_ble_eq_true rfl⟩) (z_preV (Xc := []) hK hE hI [] rfl rfl (z_recv hK hI hMo.LC.1 rfl rfl)) rfl rfl hl.1 rfl (lv_room (Nat.le_of_ble_eq_true rfl)) dX11_governor_90 ⟨(Nat.le_of_ble_eq_true rfl), (Nat.le_of_ble_eq_true rfl)⟩) (fun r69 hw70 => ?_)
        obtain rfl := hw70
        have hr71 : κ (cf i45) = 11 := hMo.LC.el (i := i45) (by omega)
        show W p l e9 (headSpec wsX11_governor ({ frames := 3, cells := 0, slots := 0, locals := 64 })).room s m ([.ref p0, .int p1, .int p2, .int p3] : List Value).toArray below meth c _ _ 0 0 (MQ below (va_Qi (fun (r : Int32) (u : zS) => (∃ v : Int32, ((v = 1 ∧ ∀ i, i < nC → p1 ≠ nI i) ∨ (v = 2 ∧ (∃ i, i < nC ∧ p1 = nI i) ∧ ¬ (p2 = 108 ∨ p2 = 119 ∨ (p2 = 102 ∧ 0 ≤ p3 ∧ p3 ≤ 7)))) ∧ u = (L, κ, zup g p0 12 (.int v))) ∨ (∃ i, i < nC ∧ p1 = nI i ∧ g (cf i) 3 = .int r ∧ (p2 = 108 ∨ p2 = 119 ∨ (p2 = 102 ∧ 0 ≤ p3 ∧ p3 ≤ 7)) ∧ u = (L, κ, zup (zup g p0 12 (.int 0)) (cf i) 3 (.int p2)))) (fun (u : zS) (t : State) => zB D tc (zA [] L s.heap.size) [] u t) (zA [] L s.heap.size)) ([.ref p0, .int p1, .int p2, .int p3] : List Value).toArray s 0 0 (zA [] L s.heap.size)) (F0 m 95 ls (.ref (cf i45) :: []))
        refine z_castS (k := 11) hM hI hr71 rfl rfl (by decide +kernel) dX11_governor_95 ?_
        refine lv_iload_n hx hb dX11_governor_98 rfl (lv_at hl 4 rfl) ?_
        refine z_putN (host := "WattgovernModel") (g' := (zup (zup g p0 12 (.int 0)) ((cf i45)) 3 (.int p2))) (k := 11) (j := 3) hM hE hI hr71 rfl rfl hinX9 tyX9 tyX9_ok nmX9 rfl (by decide) (by decide +kernel) (fun _ h9 => h9) rfl rfl (z_cn (by first | assumption | decide)) (by first | assumption | decide) ⟨(zup_self _ _ _ _).symm, _, rfl, (by first | assumption | decide)⟩ (fun b i h => zup_ne h) dX11_governor_99 (fun H locs hI => ?_)
        have hMo := hMo.upO (j := 3) (v := .int p2) hr71 (by decide)
        refine lv_aload_n hx hb dX11_governor_102 rfl (lv_at hl 2 rfl) ?_
        refine z_get (k := 13) (j := 0) hM hI hk0 rfl rfl hinX11 rfl (by decide) (by decide +kernel) (fun _ h9 => h9) dX11_governor_103 (fun v72 hv73 => ?_)
        obtain ⟨hg75, i74, rfl, hr76⟩ := hv73
        obtain rfl : lc = i74 := Value.ref.inj (hMo.gc.symm.trans hg75.symm)
        refine lv_iload_n hx hb dX11_governor_106 rfl (lv_at hl 3 rfl) ?_
        refine va_csFq (va_runF (As := [.int ((nI i45))]) (rest := []) (hK.1 1 _ rfl).2 ⟨hx, hb, hml, hown, hts⟩ (c_Jx4a65c_get_915e3 l D tc z0 _ κ (zup (zup g p0 12 (.int 0)) ((cf i45)) 3 (.int p2)) _ lc 1 eC 25 11 nC mC cf rfl hMo.LC rfl rfl i45 (by omega)) (va_cwF 1 hts gX11_governor_Jx4a65c_get_915e3_f101Jx4a65c rfl rfl rfl (hE.2.2.1 (RJx4a65c, ⟨"java/util/List", "get", "(I)Ljava/lang/Object;"⟩, yJx4a65c_get_915e3) (by decide +kernel)) (by decide +kernel) ⟨Nat.le_of_ble_eq_true rfl, Nat.le_of_ble_eq_true rfl⟩) (z_preV (Xc := []) hK hE hI [] rfl rfl (z_recv hK hI hMo.LC.1 rfl rfl)) rfl rfl hl.1 rfl (lv_room (Nat.le_of_ble_eq_true rfl)) dX11_governor_107 ⟨(Nat.le_of_ble_eq_true rfl), (Nat.le_of_ble_eq_true rfl)⟩) (fun r77 hw78 => ?_)
        obtain rfl := hw78
        have hr79 : κ (cf i45) = 11 := hMo.LC.el (i := i45) (by omega)
        show W p l e9 (headSpec wsX11_governor ({ frames := 3, cells := 0, slots := 0, locals := 64 })).room s m ([.ref p0, .int p1, .int p2, .int p3] : List Value).toArray below meth c _ _ 0 0 (MQ below (va_Qi (fun (r : Int32) (u : zS) => (∃ v : Int32, ((v = 1 ∧ ∀ i, i < nC → p1 ≠ nI i) ∨ (v = 2 ∧ (∃ i, i < nC ∧ p1 = nI i) ∧ ¬ (p2 = 108 ∨ p2 = 119 ∨ (p2 = 102 ∧ 0 ≤ p3 ∧ p3 ≤ 7)))) ∧ u = (L, κ, zup g p0 12 (.int v))) ∨ (∃ i, i < nC ∧ p1 = nI i ∧ g (cf i) 3 = .int r ∧ (p2 = 108 ∨ p2 = 119 ∨ (p2 = 102 ∧ 0 ≤ p3 ∧ p3 ≤ 7)) ∧ u = (L, κ, zup (zup g p0 12 (.int 0)) (cf i) 3 (.int p2)))) (fun (u : zS) (t : State) => zB D tc (zA [] L s.heap.size) [] u t) (zA [] L s.heap.size)) ([.ref p0, .int p1, .int p2, .int p3] : List Value).toArray s 0 0 (zA [] L s.heap.size)) (F0 m 112 ls (.ref (cf i45) :: []))
        refine z_castS (k := 11) hM hI hr79 rfl rfl (by decide +kernel) dX11_governor_112 ?_
        refine lv_iload_n hx hb dX11_governor_115 rfl (lv_at hl 4 rfl) ?_
        refine lv_bipush (v := 102) hx hb dX11_governor_116 (by decide) ?_
        refine lv_icmp_ne (tgt := 125) hx hb dX11_governor_118 (by decide) (fun c80 => ?_) (fun c80 => ?_)
        · skip
          refine lv_iconst (v := 0) hx hb dX11_governor_125 (by decide) ?_
          refine z_putN (host := "WattgovernModel") (g' := (zup (zup g p0 12 (.int 0)) ((cf i45)) 3 (.int p2))) (k := 11) (j := 6) hM hE hI hr79 rfl rfl hinX9 tyX9 tyX9_ok nmX9 rfl (by decide) (by decide +kernel) (fun _ h9 => h9) rfl rfl rfl rfl ⟨_, rfl⟩ (fun _ _ _ => rfl) dX11_governor_126 (fun H locs hI => ?_)
          refine lv_iload hx hb dX11_governor_129 (lv_at hl 0 rfl) ?_
          refine W.widen (k := 0) (n := 0) (Nat.le_of_ble_eq_true rfl) (Nat.le_of_ble_eq_true rfl) ?_
          exact W.zret (v := i61) hx hb hr (z_cn (by assumption)) (fun t ht hW => ⟨⟨_, (L, κ, (zup (zup g p0 12 (.int 0)) ((cf i45)) 3 (.int p2))), rfl, (Or.inr ⟨_, hi46, hp47, ((zup_ne (Or.inr (by decide))).symm.trans hg62.symm), (by first | exact Or.inl (by assumption) | exact Or.inr (Or.inl (by assumption)) | exact Or.inr (Or.inr ⟨by assumption, Classical.not_not.mp (fun h => absurd (h9.mpr h) c9)⟩)), rfl⟩), z_end hK hI ht hW⟩, z_F hI ht⟩) (z_locs hI) dX11_governor_131
        · skip
          refine lv_iload_n hx hb dX11_governor_121 rfl (lv_at hl 5 rfl) ?_
          refine lv_goto (tgt := 126) hx hb dX11_governor_122 (by decide) ?_
          refine z_putN (host := "WattgovernModel") (g' := (zup (zup g p0 12 (.int 0)) ((cf i45)) 3 (.int p2))) (k := 11) (j := 6) hM hE hI hr79 rfl rfl hinX9 tyX9 tyX9_ok nmX9 rfl (by decide) (by decide +kernel) (fun _ h9 => h9) rfl rfl rfl rfl ⟨_, rfl⟩ (fun _ _ _ => rfl) dX11_governor_126 (fun H locs hI => ?_)
          refine lv_iload hx hb dX11_governor_129 (lv_at hl 0 rfl) ?_
          refine W.widen (k := 0) (n := 0) (Nat.le_of_ble_eq_true rfl) (Nat.le_of_ble_eq_true rfl) ?_
          exact W.zret (v := i61) hx hb hr (z_cn (by assumption)) (fun t ht hW => ⟨⟨_, (L, κ, (zup (zup g p0 12 (.int 0)) ((cf i45)) 3 (.int p2))), rfl, (Or.inr ⟨_, hi46, hp47, ((zup_ne (Or.inr (by decide))).symm.trans hg62.symm), (by first | exact Or.inl (by assumption) | exact Or.inr (Or.inl (by assumption)) | exact Or.inr (Or.inr ⟨by assumption, Classical.not_not.mp (fun h => absurd (h9.mpr h) c9)⟩)), rfl⟩), z_end hK hI ht hW⟩, z_F hI ht⟩) (z_locs hI) dX11_governor_131
      · skip
        refine lv_if_ne (tgt := 48) hx hb dX11_governor_41 (by decide) (fun h9 => by first | exact absurd h9 (by decide) | exact absurd (by decide) h9) (fun _ => ?_)
        refine lv_iconst (v := 1) hx hb dX11_governor_44 (by decide) ?_
        refine lv_goto (tgt := 58) hx hb dX11_governor_45 (by decide) ?_
        refine z_ciX (Xc := []) (wr := []) (rx := []) [] [] rfl rfl rfl rfl (by decide) hI (va_runV (As := [.int 1]) (rest := []) ⟨hx, hb, hml, hown, hts⟩ (c_X11_fails l D tc z0 _ κ g _ p0 hk0 1) (cwV 1 hts gX11_governor_X11_fails rfl rfl rfl (by decide +kernel) ⟨Nat.le_of_ble_eq_true rfl, Nat.le_of_ble_eq_true rfl⟩) (z_preV (Xc := []) hK hE hI [] rfl rfl (z_recv hK hI hk0 rfl rfl)) rfl rfl hl.1 rfl (lv_room (Nat.le_of_ble_eq_true rfl)) dX11_governor_58 ⟨(Nat.le_of_ble_eq_true rfl), (Nat.le_of_ble_eq_true rfl)⟩) (fun v81 u H locs hw82 hI => ?_)
        obtain ⟨hw82, rfl⟩ := hw82
        have hI : zI D tc _ s.heap [] L κ (zup g p0 12 (.int 1)) _ _ := hI
        have hMo := hMo.upP (j := 12) (v := .int 1) (by decide)
        obtain rfl : v81 = 1 := hw82.trans (by decide)
        refine lv_if_eq (tgt := 67) hx hb dX11_governor_61 (by decide) (fun h9 => by first | exact absurd h9 (by decide) | exact absurd (by decide) h9) (fun _ => ?_)
        refine lv_bipush (v := 32) hx hb dX11_governor_64 (by decide) ?_
        refine W.widen (k := 0) (n := 0) (Nat.le_of_ble_eq_true rfl) (Nat.le_of_ble_eq_true rfl) ?_
        exact W.zret (v := 32) hx hb hr (by decide) (fun t ht hW => ⟨⟨_, (L, κ, (zup g p0 12 (.int 1))), rfl, (Or.inl ⟨_, Or.inl ⟨rfl, hno48⟩, rfl⟩), z_end hK hI ht hW⟩, z_F hI ht⟩) (z_locs hI) dX11_governor_66
    · skip
      refine lv_iload_n hx hb dX11_governor_12 rfl (lv_at hl 2 rfl) ?_
      refine lv_bipush (v := 102) hx hb dX11_governor_13 (by decide) ?_
      refine lv_icmp_ne (tgt := 32) hx hb dX11_governor_15 (by decide) (fun c83 => ?_) (fun c83 => ?_)
      · skip
        refine lv_iconst (v := 0) hx hb dX11_governor_32 (by decide) ?_
        refine lv_istore (lv' := [(4, .int 0), (0, .ref p0), (1, .int p1), (2, .int p2), (3, .int p3)]) hx hb dX11_governor_33 hl (by decide) rfl (fun ls hl => ?_)
        refine lv_aload_n hx hb dX11_governor_35 rfl (lv_at hl 1 rfl) ?_
        refine lv_aload_n hx hb dX11_governor_36 rfl (lv_at hl 1 rfl) ?_
        refine lv_iload_n hx hb dX11_governor_37 rfl (lv_at hl 2 rfl) ?_
        refine vp_callSi (W.runV (As := [.int p1]) (rest := [.ref p0]) ⟨hx, hb, hml, hown, hts⟩ (c_X11_isCore l D tc z0 _ κ g _ p0 hk0 p1 lc eC nC mC cf lt eT nT mT tf hMo) (cwV 1 hts gX11_governor_X11_isCore rfl rfl rfl (by decide +kernel) ⟨Nat.le_of_ble_eq_true rfl, Nat.le_of_ble_eq_true rfl⟩) (z_preV (Xc := []) hK hE hI [] rfl rfl (z_recv hK hI hk0 rfl rfl)) rfl rfl hl.1 rfl (lv_room (Nat.le_of_ble_eq_true rfl)) dX11_governor_38 ⟨(Nat.le_of_ble_eq_true rfl), (Nat.le_of_ble_eq_true rfl)⟩) (fun v84 hw85 => ?_)
        rcases hw85 with ⟨rfl, i86, hi87, hp88⟩ | ⟨rfl, hno89⟩
        · skip
          rw [hp88] at hl
          refine lv_if_ne (tgt := 48) hx hb dX11_governor_41 (by decide) (fun _ => ?_) (fun h9 => by first | exact absurd h9 (by decide) | exact absurd (by decide) h9)
          refine lv_iload hx hb dX11_governor_48 (lv_at hl 0 rfl) ?_
          refine lv_if_eq (tgt := 57) hx hb dX11_governor_50 (by decide) (fun _ => ?_) (fun h9 => by first | exact absurd h9 (by decide) | exact absurd (by decide) h9)
          refine lv_iconst (v := 2) hx hb dX11_governor_57 (by decide) ?_
          refine z_ciX (Xc := []) (wr := []) (rx := []) [] [] rfl rfl rfl rfl (by decide) hI (va_runV (As := [.int 2]) (rest := []) ⟨hx, hb, hml, hown, hts⟩ (c_X11_fails l D tc z0 _ κ g _ p0 hk0 2) (cwV 1 hts gX11_governor_X11_fails rfl rfl rfl (by decide +kernel) ⟨Nat.le_of_ble_eq_true rfl, Nat.le_of_ble_eq_true rfl⟩) (z_preV (Xc := []) hK hE hI [] rfl rfl (z_recv hK hI hk0 rfl rfl)) rfl rfl hl.1 rfl (lv_room (Nat.le_of_ble_eq_true rfl)) dX11_governor_58 ⟨(Nat.le_of_ble_eq_true rfl), (Nat.le_of_ble_eq_true rfl)⟩) (fun v90 u H locs hw91 hI => ?_)
          obtain ⟨hw91, rfl⟩ := hw91
          have hI : zI D tc _ s.heap [] L κ (zup g p0 12 (.int 2)) _ _ := hI
          have hMo := hMo.upP (j := 12) (v := .int 2) (by decide)
          obtain rfl : v90 = 1 := hw91.trans (by decide)
          refine lv_if_eq (tgt := 67) hx hb dX11_governor_61 (by decide) (fun h9 => by first | exact absurd h9 (by decide) | exact absurd (by decide) h9) (fun _ => ?_)
          refine lv_bipush (v := 32) hx hb dX11_governor_64 (by decide) ?_
          refine W.widen (k := 0) (n := 0) (Nat.le_of_ble_eq_true rfl) (Nat.le_of_ble_eq_true rfl) ?_
          exact W.zret (v := 32) hx hb hr (by decide) (fun t ht hW => ⟨⟨_, (L, κ, (zup g p0 12 (.int 2))), rfl, (Or.inl ⟨_, Or.inr ⟨rfl, ⟨_, hi87, hp88⟩, (by first | exact fun h => h.elim (fun h => c1 h) (fun h => h.elim (fun h => c42 h) (fun h => c83 h.1)) | exact fun h => h.elim (fun h => c1 h) (fun h => h.elim (fun h => c42 h) (fun h => h9.mp c9 h.2)))⟩, rfl⟩), z_end hK hI ht hW⟩, z_F hI ht⟩) (z_locs hI) dX11_governor_66
        · skip
          refine lv_if_ne (tgt := 48) hx hb dX11_governor_41 (by decide) (fun h9 => by first | exact absurd h9 (by decide) | exact absurd (by decide) h9) (fun _ => ?_)
          refine lv_iconst (v := 1) hx hb dX11_governor_44 (by decide) ?_
          refine lv_goto (tgt := 58) hx hb dX11_governor_45 (by decide) ?_
          refine z_ciX (Xc := []) (wr := []) (rx := []) [] [] rfl rfl rfl rfl (by decide) hI (va_runV (As := [.int 1]) (rest := []) ⟨hx, hb, hml, hown, hts⟩ (c_X11_fails l D tc z0 _ κ g _ p0 hk0 1) (cwV 1 hts gX11_governor_X11_fails rfl rfl rfl (by decide +kernel) ⟨Nat.le_of_ble_eq_true rfl, Nat.le_of_ble_eq_true rfl⟩) (z_preV (Xc := []) hK hE hI [] rfl rfl (z_recv hK hI hk0 rfl rfl)) rfl rfl hl.1 rfl (lv_room (Nat.le_of_ble_eq_true rfl)) dX11_governor_58 ⟨(Nat.le_of_ble_eq_true rfl), (Nat.le_of_ble_eq_true rfl)⟩) (fun v92 u H locs hw93 hI => ?_)
          obtain ⟨hw93, rfl⟩ := hw93
          have hI : zI D tc _ s.heap [] L κ (zup g p0 12 (.int 1)) _ _ := hI
          have hMo := hMo.upP (j := 12) (v := .int 1) (by decide)
          obtain rfl : v92 = 1 := hw93.trans (by decide)
          refine lv_if_eq (tgt := 67) hx hb dX11_governor_61 (by decide) (fun h9 => by first | exact absurd h9 (by decide) | exact absurd (by decide) h9) (fun _ => ?_)
          refine lv_bipush (v := 32) hx hb dX11_governor_64 (by decide) ?_
          refine W.widen (k := 0) (n := 0) (Nat.le_of_ble_eq_true rfl) (Nat.le_of_ble_eq_true rfl) ?_
          exact W.zret (v := 32) hx hb hr (by decide) (fun t ht hW => ⟨⟨_, (L, κ, (zup g p0 12 (.int 1))), rfl, (Or.inl ⟨_, Or.inl ⟨rfl, hno89⟩, rfl⟩), z_end hK hI ht hW⟩, z_F hI ht⟩) (z_locs hI) dX11_governor_66
      · skip
        refine lv_iload_n hx hb dX11_governor_18 rfl (lv_at hl 3 rfl) ?_
        refine lv_iconst (v := 0) hx hb dX11_governor_19 (by decide) ?_
        refine lv_bipush (v := 7) hx hb dX11_governor_20 (by decide) ?_
        refine vp_callSi (W.runS (As := [.int p3, .int 0, .int 7]) (rest := []) ⟨hx, hb, hml, hown, hts⟩ (c_X11_in l D tc z0 _ κ g _ p3 0 7) (va_cwS 3 hts gX11_governor_X11_in rfl rfl rfl (by decide +kernel) ⟨Nat.le_of_ble_eq_true rfl, Nat.le_of_ble_eq_true rfl⟩) (z_pre hK hE hI [] rfl rfl) rfl rfl hl.1 rfl (lv_room (Nat.le_of_ble_eq_true rfl)) dX11_governor_22 ⟨(Nat.le_of_ble_eq_true rfl), (Nat.le_of_ble_eq_true rfl)⟩) (fun v94 hw95 => ?_)
        obtain ⟨hw95, hz96⟩ := hw95
        refine lv_if_eq (tgt := 32) hx hb dX11_governor_25 (by decide) (fun c97 => ?_) (fun c97 => ?_)
        · skip
          refine lv_iconst (v := 0) hx hb dX11_governor_32 (by decide) ?_
          refine lv_istore (lv' := [(4, .int 0), (0, .ref p0), (1, .int p1), (2, .int p2), (3, .int p3)]) hx hb dX11_governor_33 hl (by decide) rfl (fun ls hl => ?_)
          refine lv_aload_n hx hb dX11_governor_35 rfl (lv_at hl 1 rfl) ?_
          refine lv_aload_n hx hb dX11_governor_36 rfl (lv_at hl 1 rfl) ?_
          refine lv_iload_n hx hb dX11_governor_37 rfl (lv_at hl 2 rfl) ?_
          refine vp_callSi (W.runV (As := [.int p1]) (rest := [.ref p0]) ⟨hx, hb, hml, hown, hts⟩ (c_X11_isCore l D tc z0 _ κ g _ p0 hk0 p1 lc eC nC mC cf lt eT nT mT tf hMo) (cwV 1 hts gX11_governor_X11_isCore rfl rfl rfl (by decide +kernel) ⟨Nat.le_of_ble_eq_true rfl, Nat.le_of_ble_eq_true rfl⟩) (z_preV (Xc := []) hK hE hI [] rfl rfl (z_recv hK hI hk0 rfl rfl)) rfl rfl hl.1 rfl (lv_room (Nat.le_of_ble_eq_true rfl)) dX11_governor_38 ⟨(Nat.le_of_ble_eq_true rfl), (Nat.le_of_ble_eq_true rfl)⟩) (fun v98 hw99 => ?_)
          rcases hw99 with ⟨rfl, i100, hi101, hp102⟩ | ⟨rfl, hno103⟩
          · skip
            rw [hp102] at hl
            refine lv_if_ne (tgt := 48) hx hb dX11_governor_41 (by decide) (fun _ => ?_) (fun h9 => by first | exact absurd h9 (by decide) | exact absurd (by decide) h9)
            refine lv_iload hx hb dX11_governor_48 (lv_at hl 0 rfl) ?_
            refine lv_if_eq (tgt := 57) hx hb dX11_governor_50 (by decide) (fun _ => ?_) (fun h9 => by first | exact absurd h9 (by decide) | exact absurd (by decide) h9)
            refine lv_iconst (v := 2) hx hb dX11_governor_57 (by decide) ?_
            refine z_ciX (Xc := []) (wr := []) (rx := []) [] [] rfl rfl rfl rfl (by decide) hI (va_runV (As := [.int 2]) (rest := []) ⟨hx, hb, hml, hown, hts⟩ (c_X11_fails l D tc z0 _ κ g _ p0 hk0 2) (cwV 1 hts gX11_governor_X11_fails rfl rfl rfl (by decide +kernel) ⟨Nat.le_of_ble_eq_true rfl, Nat.le_of_ble_eq_true rfl⟩) (z_preV (Xc := []) hK hE hI [] rfl rfl (z_recv hK hI hk0 rfl rfl)) rfl rfl hl.1 rfl (lv_room (Nat.le_of_ble_eq_true rfl)) dX11_governor_58 ⟨(Nat.le_of_ble_eq_true rfl), (Nat.le_of_ble_eq_true rfl)⟩) (fun v104 u H locs hw105 hI => ?_)
            obtain ⟨hw105, rfl⟩ := hw105
            have hI : zI D tc _ s.heap [] L κ (zup g p0 12 (.int 2)) _ _ := hI
            have hMo := hMo.upP (j := 12) (v := .int 2) (by decide)
            obtain rfl : v104 = 1 := hw105.trans (by decide)
            refine lv_if_eq (tgt := 67) hx hb dX11_governor_61 (by decide) (fun h9 => by first | exact absurd h9 (by decide) | exact absurd (by decide) h9) (fun _ => ?_)
            refine lv_bipush (v := 32) hx hb dX11_governor_64 (by decide) ?_
            refine W.widen (k := 0) (n := 0) (Nat.le_of_ble_eq_true rfl) (Nat.le_of_ble_eq_true rfl) ?_
            exact W.zret (v := 32) hx hb hr (by decide) (fun t ht hW => ⟨⟨_, (L, κ, (zup g p0 12 (.int 2))), rfl, (Or.inl ⟨_, Or.inr ⟨rfl, ⟨_, hi101, hp102⟩, (by first | exact fun h => h.elim (fun h => c1 h) (fun h => h.elim (fun h => c42 h) (fun h => c83 h.1)) | exact fun h => h.elim (fun h => c1 h) (fun h => h.elim (fun h => c42 h) (fun h => hw95.mp c97 h.2)))⟩, rfl⟩), z_end hK hI ht hW⟩, z_F hI ht⟩) (z_locs hI) dX11_governor_66
          · skip
            refine lv_if_ne (tgt := 48) hx hb dX11_governor_41 (by decide) (fun h9 => by first | exact absurd h9 (by decide) | exact absurd (by decide) h9) (fun _ => ?_)
            refine lv_iconst (v := 1) hx hb dX11_governor_44 (by decide) ?_
            refine lv_goto (tgt := 58) hx hb dX11_governor_45 (by decide) ?_
            refine z_ciX (Xc := []) (wr := []) (rx := []) [] [] rfl rfl rfl rfl (by decide) hI (va_runV (As := [.int 1]) (rest := []) ⟨hx, hb, hml, hown, hts⟩ (c_X11_fails l D tc z0 _ κ g _ p0 hk0 1) (cwV 1 hts gX11_governor_X11_fails rfl rfl rfl (by decide +kernel) ⟨Nat.le_of_ble_eq_true rfl, Nat.le_of_ble_eq_true rfl⟩) (z_preV (Xc := []) hK hE hI [] rfl rfl (z_recv hK hI hk0 rfl rfl)) rfl rfl hl.1 rfl (lv_room (Nat.le_of_ble_eq_true rfl)) dX11_governor_58 ⟨(Nat.le_of_ble_eq_true rfl), (Nat.le_of_ble_eq_true rfl)⟩) (fun v106 u H locs hw107 hI => ?_)
            obtain ⟨hw107, rfl⟩ := hw107
            have hI : zI D tc _ s.heap [] L κ (zup g p0 12 (.int 1)) _ _ := hI
            have hMo := hMo.upP (j := 12) (v := .int 1) (by decide)
            obtain rfl : v106 = 1 := hw107.trans (by decide)
            refine lv_if_eq (tgt := 67) hx hb dX11_governor_61 (by decide) (fun h9 => by first | exact absurd h9 (by decide) | exact absurd (by decide) h9) (fun _ => ?_)
            refine lv_bipush (v := 32) hx hb dX11_governor_64 (by decide) ?_
            refine W.widen (k := 0) (n := 0) (Nat.le_of_ble_eq_true rfl) (Nat.le_of_ble_eq_true rfl) ?_
            exact W.zret (v := 32) hx hb hr (by decide) (fun t ht hW => ⟨⟨_, (L, κ, (zup g p0 12 (.int 1))), rfl, (Or.inl ⟨_, Or.inl ⟨rfl, hno103⟩, rfl⟩), z_end hK hI ht hW⟩, z_F hI ht⟩) (z_locs hI) dX11_governor_66
        · skip
          refine lv_iconst (v := 1) hx hb dX11_governor_28 (by decide) ?_
          refine lv_goto (tgt := 33) hx hb dX11_governor_29 (by decide) ?_
          refine lv_istore (lv' := [(4, .int 1), (0, .ref p0), (1, .int p1), (2, .int p2), (3, .int p3)]) hx hb dX11_governor_33 hl (by decide) rfl (fun ls hl => ?_)
          refine lv_aload_n hx hb dX11_governor_35 rfl (lv_at hl 1 rfl) ?_
          refine lv_aload_n hx hb dX11_governor_36 rfl (lv_at hl 1 rfl) ?_
          refine lv_iload_n hx hb dX11_governor_37 rfl (lv_at hl 2 rfl) ?_
          refine vp_callSi (W.runV (As := [.int p1]) (rest := [.ref p0]) ⟨hx, hb, hml, hown, hts⟩ (c_X11_isCore l D tc z0 _ κ g _ p0 hk0 p1 lc eC nC mC cf lt eT nT mT tf hMo) (cwV 1 hts gX11_governor_X11_isCore rfl rfl rfl (by decide +kernel) ⟨Nat.le_of_ble_eq_true rfl, Nat.le_of_ble_eq_true rfl⟩) (z_preV (Xc := []) hK hE hI [] rfl rfl (z_recv hK hI hk0 rfl rfl)) rfl rfl hl.1 rfl (lv_room (Nat.le_of_ble_eq_true rfl)) dX11_governor_38 ⟨(Nat.le_of_ble_eq_true rfl), (Nat.le_of_ble_eq_true rfl)⟩) (fun v108 hw109 => ?_)
          rcases hw109 with ⟨rfl, i110, hi111, hp112⟩ | ⟨rfl, hno113⟩
          · skip
            rw [hp112] at hl
            refine lv_if_ne (tgt := 48) hx hb dX11_governor_41 (by decide) (fun _ => ?_) (fun h9 => by first | exact absurd h9 (by decide) | exact absurd (by decide) h9)
            refine lv_iload hx hb dX11_governor_48 (lv_at hl 0 rfl) ?_
            refine lv_if_eq (tgt := 57) hx hb dX11_governor_50 (by decide) (fun h9 => by first | exact absurd h9 (by decide) | exact absurd (by decide) h9) (fun _ => ?_)
            refine lv_iconst (v := 0) hx hb dX11_governor_53 (by decide) ?_
            refine lv_goto (tgt := 58) hx hb dX11_governor_54 (by decide) ?_
            refine z_ciX (Xc := []) (wr := []) (rx := []) [] [] rfl rfl rfl rfl (by decide) hI (va_runV (As := [.int 0]) (rest := []) ⟨hx, hb, hml, hown, hts⟩ (c_X11_fails l D tc z0 _ κ g _ p0 hk0 0) (cwV 1 hts gX11_governor_X11_fails rfl rfl rfl (by decide +kernel) ⟨Nat.le_of_ble_eq_true rfl, Nat.le_of_ble_eq_true rfl⟩) (z_preV (Xc := []) hK hE hI [] rfl rfl (z_recv hK hI hk0 rfl rfl)) rfl rfl hl.1 rfl (lv_room (Nat.le_of_ble_eq_true rfl)) dX11_governor_58 ⟨(Nat.le_of_ble_eq_true rfl), (Nat.le_of_ble_eq_true rfl)⟩) (fun v114 u H locs hw115 hI => ?_)
            obtain ⟨hw115, rfl⟩ := hw115
            have hI : zI D tc _ s.heap [] L κ (zup g p0 12 (.int 0)) _ _ := hI
            have hMo := hMo.upP (j := 12) (v := .int 0) (by decide)
            obtain rfl : v114 = 0 := hw115.trans (by decide)
            refine lv_if_eq (tgt := 67) hx hb dX11_governor_61 (by decide) (fun _ => ?_) (fun h9 => by first | exact absurd h9 (by decide) | exact absurd (by decide) h9)
            refine lv_aload_n hx hb dX11_governor_67 rfl (lv_at hl 1 rfl) ?_
            refine z_get (k := 13) (j := 0) hM hI hk0 rfl rfl hinX11 rfl (by decide) (by decide +kernel) (fun _ h9 => h9) dX11_governor_68 (fun v116 hv117 => ?_)
            obtain ⟨hg119, i118, rfl, hr120⟩ := hv117
            obtain rfl : lc = i118 := Value.ref.inj (hMo.gc.symm.trans hg119.symm)
            refine lv_iload_n hx hb dX11_governor_71 rfl (lv_at hl 2 rfl) ?_
            refine va_csFq (va_runF (As := [.int ((nI i110))]) (rest := []) (hK.1 1 _ rfl).2 ⟨hx, hb, hml, hown, hts⟩ (c_Jx4a65c_get_915e3 l D tc z0 _ κ (zup g p0 12 (.int 0)) _ lc 1 eC 25 11 nC mC cf rfl hMo.LC rfl rfl i110 (by omega)) (va_cwF 1 hts gX11_governor_Jx4a65c_get_915e3_f101Jx4a65c rfl rfl rfl (hE.2.2.1 (RJx4a65c, ⟨"java/util/List", "get", "(I)Ljava/lang/Object;"⟩, yJx4a65c_get_915e3) (by decide +kernel)) (by decide +kernel) ⟨Nat.le_of_ble_eq_true rfl, Nat.le_of_ble_eq_true rfl⟩) (z_preV (Xc := []) hK hE hI [] rfl rfl (z_recv hK hI hMo.LC.1 rfl rfl)) rfl rfl hl.1 rfl (lv_room (Nat.le_of_ble_eq_true rfl)) dX11_governor_72 ⟨(Nat.le_of_ble_eq_true rfl), (Nat.le_of_ble_eq_true rfl)⟩) (fun r121 hw122 => ?_)
            obtain rfl := hw122
            have hr123 : κ (cf i110) = 11 := hMo.LC.el (i := i110) (by omega)
            show W p l e9 (headSpec wsX11_governor ({ frames := 3, cells := 0, slots := 0, locals := 64 })).room s m ([.ref p0, .int p1, .int p2, .int p3] : List Value).toArray below meth c _ _ 0 0 (MQ below (va_Qi (fun (r : Int32) (u : zS) => (∃ v : Int32, ((v = 1 ∧ ∀ i, i < nC → p1 ≠ nI i) ∨ (v = 2 ∧ (∃ i, i < nC ∧ p1 = nI i) ∧ ¬ (p2 = 108 ∨ p2 = 119 ∨ (p2 = 102 ∧ 0 ≤ p3 ∧ p3 ≤ 7)))) ∧ u = (L, κ, zup g p0 12 (.int v))) ∨ (∃ i, i < nC ∧ p1 = nI i ∧ g (cf i) 3 = .int r ∧ (p2 = 108 ∨ p2 = 119 ∨ (p2 = 102 ∧ 0 ≤ p3 ∧ p3 ≤ 7)) ∧ u = (L, κ, zup (zup g p0 12 (.int 0)) (cf i) 3 (.int p2)))) (fun (u : zS) (t : State) => zB D tc (zA [] L s.heap.size) [] u t) (zA [] L s.heap.size)) ([.ref p0, .int p1, .int p2, .int p3] : List Value).toArray s 0 0 (zA [] L s.heap.size)) (F0 m 77 ls (.ref (cf i110) :: []))
            refine z_castS (k := 11) hM hI hr123 rfl rfl (by decide +kernel) dX11_governor_77 ?_
            refine z_getN (host := "WattgovernModel") (k := 11) (j := 3) hM hE hI hr123 rfl rfl hinX9 rfl (by decide) (by decide +kernel) (fun _ h9 => h9) dX11_governor_80 (fun v124 hv125 => ?_)
            obtain ⟨hg127, i126, rfl, hf128⟩ := hv125
            refine lv_istore (lv' := [(5, .int i126), (4, .int 1), (0, .ref p0), (1, .int ((nI i110))), (2, .int p2), (3, .int p3)]) hx hb dX11_governor_83 hl (by decide) rfl (fun ls hl => ?_)
            refine lv_aload_n hx hb dX11_governor_85 rfl (lv_at hl 2 rfl) ?_
            refine z_get (k := 13) (j := 0) hM hI hk0 rfl rfl hinX11 rfl (by decide) (by decide +kernel) (fun _ h9 => h9) dX11_governor_86 (fun v129 hv130 => ?_)
            obtain ⟨hg132, i131, rfl, hr133⟩ := hv130
            obtain rfl : lc = i131 := Value.ref.inj (hMo.gc.symm.trans hg132.symm)
            refine lv_iload_n hx hb dX11_governor_89 rfl (lv_at hl 3 rfl) ?_
            refine va_csFq (va_runF (As := [.int ((nI i110))]) (rest := []) (hK.1 1 _ rfl).2 ⟨hx, hb, hml, hown, hts⟩ (c_Jx4a65c_get_915e3 l D tc z0 _ κ (zup g p0 12 (.int 0)) _ lc 1 eC 25 11 nC mC cf rfl hMo.LC rfl rfl i110 (by omega)) (va_cwF 1 hts gX11_governor_Jx4a65c_get_915e3_f101Jx4a65c rfl rfl rfl (hE.2.2.1 (RJx4a65c, ⟨"java/util/List", "get", "(I)Ljava/lang/Object;"⟩, yJx4a65c_get_915e3) (by decide +kernel)) (by decide +kernel) ⟨Nat.le_of_ble_eq_true rfl, Nat.le_of_ble_eq_true rfl⟩) (z_preV (Xc := []) hK hE hI [] rfl rfl (z_recv hK hI hMo.LC.1 rfl rfl)) rfl rfl hl.1 rfl (lv_room (Nat.le_of_ble_eq_true rfl)) dX11_governor_90 ⟨(Nat.le_of_ble_eq_true rfl), (Nat.le_of_ble_eq_true rfl)⟩) (fun r134 hw135 => ?_)
            obtain rfl := hw135
            have hr136 : κ (cf i110) = 11 := hMo.LC.el (i := i110) (by omega)
            show W p l e9 (headSpec wsX11_governor ({ frames := 3, cells := 0, slots := 0, locals := 64 })).room s m ([.ref p0, .int p1, .int p2, .int p3] : List Value).toArray below meth c _ _ 0 0 (MQ below (va_Qi (fun (r : Int32) (u : zS) => (∃ v : Int32, ((v = 1 ∧ ∀ i, i < nC → p1 ≠ nI i) ∨ (v = 2 ∧ (∃ i, i < nC ∧ p1 = nI i) ∧ ¬ (p2 = 108 ∨ p2 = 119 ∨ (p2 = 102 ∧ 0 ≤ p3 ∧ p3 ≤ 7)))) ∧ u = (L, κ, zup g p0 12 (.int v))) ∨ (∃ i, i < nC ∧ p1 = nI i ∧ g (cf i) 3 = .int r ∧ (p2 = 108 ∨ p2 = 119 ∨ (p2 = 102 ∧ 0 ≤ p3 ∧ p3 ≤ 7)) ∧ u = (L, κ, zup (zup g p0 12 (.int 0)) (cf i) 3 (.int p2)))) (fun (u : zS) (t : State) => zB D tc (zA [] L s.heap.size) [] u t) (zA [] L s.heap.size)) ([.ref p0, .int p1, .int p2, .int p3] : List Value).toArray s 0 0 (zA [] L s.heap.size)) (F0 m 95 ls (.ref (cf i110) :: []))
            refine z_castS (k := 11) hM hI hr136 rfl rfl (by decide +kernel) dX11_governor_95 ?_
            refine lv_iload_n hx hb dX11_governor_98 rfl (lv_at hl 4 rfl) ?_
            refine z_putN (host := "WattgovernModel") (g' := (zup (zup g p0 12 (.int 0)) ((cf i110)) 3 (.int p2))) (k := 11) (j := 3) hM hE hI hr136 rfl rfl hinX9 tyX9 tyX9_ok nmX9 rfl (by decide) (by decide +kernel) (fun _ h9 => h9) rfl rfl (z_cn (by first | assumption | decide)) (by first | assumption | decide) ⟨(zup_self _ _ _ _).symm, _, rfl, (by first | assumption | decide)⟩ (fun b i h => zup_ne h) dX11_governor_99 (fun H locs hI => ?_)
            have hMo := hMo.upO (j := 3) (v := .int p2) hr136 (by decide)
            refine lv_aload_n hx hb dX11_governor_102 rfl (lv_at hl 2 rfl) ?_
            refine z_get (k := 13) (j := 0) hM hI hk0 rfl rfl hinX11 rfl (by decide) (by decide +kernel) (fun _ h9 => h9) dX11_governor_103 (fun v137 hv138 => ?_)
            obtain ⟨hg140, i139, rfl, hr141⟩ := hv138
            obtain rfl : lc = i139 := Value.ref.inj (hMo.gc.symm.trans hg140.symm)
            refine lv_iload_n hx hb dX11_governor_106 rfl (lv_at hl 3 rfl) ?_
            refine va_csFq (va_runF (As := [.int ((nI i110))]) (rest := []) (hK.1 1 _ rfl).2 ⟨hx, hb, hml, hown, hts⟩ (c_Jx4a65c_get_915e3 l D tc z0 _ κ (zup (zup g p0 12 (.int 0)) ((cf i110)) 3 (.int p2)) _ lc 1 eC 25 11 nC mC cf rfl hMo.LC rfl rfl i110 (by omega)) (va_cwF 1 hts gX11_governor_Jx4a65c_get_915e3_f101Jx4a65c rfl rfl rfl (hE.2.2.1 (RJx4a65c, ⟨"java/util/List", "get", "(I)Ljava/lang/Object;"⟩, yJx4a65c_get_915e3) (by decide +kernel)) (by decide +kernel) ⟨Nat.le_of_ble_eq_true rfl, Nat.le_of_ble_eq_true rfl⟩) (z_preV (Xc := []) hK hE hI [] rfl rfl (z_recv hK hI hMo.LC.1 rfl rfl)) rfl rfl hl.1 rfl (lv_room (Nat.le_of_ble_eq_true rfl)) dX11_governor_107 ⟨(Nat.le_of_ble_eq_true rfl), (Nat.le_of_ble_eq_true rfl)⟩) (fun r142 hw143 => ?_)
            obtain rfl := hw143
            have hr144 : κ (cf i110) = 11 := hMo.LC.el (i := i110) (by omega)
            show W p l e9 (headSpec wsX11_governor ({ frames := 3, cells := 0, slots := 0, locals := 64 })).room s m ([.ref p0, .int p1, .int p2, .int p3] : List Value).toArray below meth c _ _ 0 0 (MQ below (va_Qi (fun (r : Int32) (u : zS) => (∃ v : Int32, ((v = 1 ∧ ∀ i, i < nC → p1 ≠ nI i) ∨ (v = 2 ∧ (∃ i, i < nC ∧ p1 = nI i) ∧ ¬ (p2 = 108 ∨ p2 = 119 ∨ (p2 = 102 ∧ 0 ≤ p3 ∧ p3 ≤ 7)))) ∧ u = (L, κ, zup g p0 12 (.int v))) ∨ (∃ i, i < nC ∧ p1 = nI i ∧ g (cf i) 3 = .int r ∧ (p2 = 108 ∨ p2 = 119 ∨ (p2 = 102 ∧ 0 ≤ p3 ∧ p3 ≤ 7)) ∧ u = (L, κ, zup (zup g p0 12 (.int 0)) (cf i) 3 (.int p2)))) (fun (u : zS) (t : State) => zB D tc (zA [] L s.heap.size) [] u t) (zA [] L s.heap.size)) ([.ref p0, .int p1, .int p2, .int p3] : List Value).toArray s 0 0 (zA [] L s.heap.size)) (F0 m 112 ls (.ref (cf i110) :: []))
            refine z_castS (k := 11) hM hI hr144 rfl rfl (by decide +kernel) dX11_governor_112 ?_
            refine lv_iload_n hx hb dX11_governor_115 rfl (lv_at hl 4 rfl) ?_
            refine lv_bipush (v := 102) hx hb dX11_governor_116 (by decide) ?_
            refine lv_icmp_ne (tgt := 125) hx hb dX11_governor_118 (by decide) (fun c145 => ?_) (fun c145 => ?_)
            · skip
              refine lv_iconst (v := 0) hx hb dX11_governor_125 (by decide) ?_
              refine z_putN (host := "WattgovernModel") (g' := (zup (zup g p0 12 (.int 0)) ((cf i110)) 3 (.int p2))) (k := 11) (j := 6) hM hE hI hr144 rfl rfl hinX9 tyX9 tyX9_ok nmX9 rfl (by decide) (by decide +kernel) (fun _ h9 => h9) rfl rfl rfl rfl ⟨_, rfl⟩ (fun _ _ _ => rfl) dX11_governor_126 (fun H locs hI => ?_)
              refine lv_iload hx hb dX11_governor_129 (lv_at hl 0 rfl) ?_
              refine W.widen (k := 0) (n := 0) (Nat.le_of_ble_eq_true rfl) (Nat.le_of_ble_eq_true rfl) ?_
              exact W.zret (v := i126) hx hb hr (z_cn (by assumption)) (fun t ht hW => ⟨⟨_, (L, κ, (zup (zup g p0 12 (.int 0)) ((cf i110)) 3 (.int p2))), rfl, (Or.inr ⟨_, hi111, hp112, ((zup_ne (Or.inr (by decide))).symm.trans hg127.symm), (by first | exact Or.inl (by assumption) | exact Or.inr (Or.inl (by assumption)) | exact Or.inr (Or.inr ⟨by assumption, Classical.not_not.mp (fun h => absurd (hw95.mpr h) c97)⟩)), rfl⟩), z_end hK hI ht hW⟩, z_F hI ht⟩) (z_locs hI) dX11_governor_131
            · skip
              refine lv_iload_n hx hb dX11_governor_121 rfl (lv_at hl 5 rfl) ?_
              refine lv_goto (tgt := 126) hx hb dX11_governor_122 (by decide) ?_
              refine z_putN (host := "WattgovernModel") (g' := (zup (zup g p0 12 (.int 0)) ((cf i110)) 3 (.int p2))) (k := 11) (j := 6) hM hE hI hr144 rfl rfl hinX9 tyX9 tyX9_ok nmX9 rfl (by decide) (by decide +kernel) (fun _ h9 => h9) rfl rfl rfl rfl ⟨_, rfl⟩ (fun _ _ _ => rfl) dX11_governor_126 (fun H locs hI => ?_)
              refine lv_iload hx hb dX11_governor_129 (lv_at hl 0 rfl) ?_
              refine W.widen (k := 0) (n := 0) (Nat.le_of_ble_eq_true rfl) (Nat.le_of_ble_eq_true rfl) ?_
              exact W.zret (v := i126) hx hb hr (z_cn (by assumption)) (fun t ht hW => ⟨⟨_, (L, κ, (zup (zup g p0 12 (.int 0)) ((cf i110)) 3 (.int p2))), rfl, (Or.inr ⟨_, hi111, hp112, ((zup_ne (Or.inr (by decide))).symm.trans hg127.symm), (by first | exact Or.inl (by assumption) | exact Or.inr (Or.inl (by assumption)) | exact Or.inr (Or.inr ⟨by assumption, Classical.not_not.mp (fun h => absurd (hw95.mpr h) c97)⟩)), rfl⟩), z_end hK hI ht hW⟩, z_F hI ht⟩) (z_locs hI) dX11_governor_131
          · skip
            refine lv_if_ne (tgt := 48) hx hb dX11_governor_41 (by decide) (fun h9 => by first | exact absurd h9 (by decide) | exact absurd (by decide) h9) (fun _ => ?_)
            refine lv_iconst (v := 1) hx hb dX11_governor_44 (by decide) ?_
            refine lv_goto (tgt := 58) hx hb dX11_governor_45 (by decide) ?_
            refine z_ciX (Xc := []) (wr := []) (rx := []) [] [] rfl rfl rfl rfl (by decide) hI (va_runV (As := [.int 1]) (rest := []) ⟨hx, hb, hml, hown, hts⟩ (c_X11_fails l D tc z0 _ κ g _ p0 hk0 1) (cwV 1 hts gX11_governor_X11_fails rfl rfl rfl (by decide +kernel) ⟨Nat.le_of_ble_eq_true rfl, Nat.le_of_ble_eq_true rfl⟩) (z_preV (Xc := []) hK hE hI [] rfl rfl (z_recv hK hI hk0 rfl rfl)) rfl rfl hl.1 rfl (lv_room (Nat.le_of_ble_eq_true rfl)) dX11_governor_58 ⟨(Nat.le_of_ble_eq_true rfl), (Nat.le_of_ble_eq_true rfl)⟩) (fun v146 u H locs hw147 hI => ?_)
            obtain ⟨hw147, rfl⟩ := hw147
            have hI : zI D tc _ s.heap [] L κ (zup g p0 12 (.int 1)) _ _ := hI
            have hMo := hMo.upP (j := 12) (v := .int 1) (by decide)
            obtain rfl : v146 = 1 := hw147.trans (by decide)
            refine lv_if_eq (tgt := 67) hx hb dX11_governor_61 (by decide) (fun h9 => by first | exact absurd h9 (by decide) | exact absurd (by decide) h9) (fun _ => ?_)
            refine lv_bipush (v := 32) hx hb dX11_governor_64 (by decide) ?_
            refine W.widen (k := 0) (n := 0) (Nat.le_of_ble_eq_true rfl) (Nat.le_of_ble_eq_true rfl) ?_
            exact W.zret (v := 32) hx hb hr (by decide) (fun t ht hW => ⟨⟨_, (L, κ, (zup g p0 12 (.int 1))), rfl, (Or.inl ⟨_, Or.inl ⟨rfl, hno113⟩, rfl⟩), z_end hK hI ht hW⟩, z_F hI ht⟩) (z_locs hI) dX11_governor_66

set_option maxHeartbeats 4000000 in
set_option maxRecDepth 100000 in
theorem c_X11_move (l : Launch) (D : va_G) (tc : Nat → ClassId) (z0 : Nat) (L : List Nat) (κ : Nat → Nat) (g : Nat → Nat → Value) (sz : Nat) (p0 : Nat) (hk0 : κ p0 = 13) (p1 : Int32) (p2 : Int32) (lc eC nC : Nat) (mC : Int32) (cf : Nat → Nat) (lt eT nT : Nat) (mT : Int32) (tf : Nat → Nat) (hMo : zMo κ g z0 p0 lc eC nC mC cf lt eT nT mT tf) : Met l yX11_move wsX11_move ({ frames := 3, cells := 0, slots := 0, locals := 64 }) (zPc D tc z0 [.ref p0, .int p1, .int p2] [] (L, κ, g) sz) (va_Qi (fun (r : Int32) (u : zS) => (∃ v : Int32, ((v = 1 ∧ ((∀ i, i < nT → p1 ≠ nI i) ∨ (∀ j, j < nC → p2 ≠ nI j))) ∨ (v = 2 ∧ ∃ i j, i < nT ∧ p1 = nI i ∧ j < nC ∧ p2 = nI j ∧ g (tf i) 1 = .int (nI j))) ∧ u = (L, κ, zup g p0 12 (.int v))) ∨ (∃ i j, i < nT ∧ p1 = nI i ∧ j < nC ∧ p2 = nI j ∧ g (tf i) 1 = .int r ∧ ¬ r = nI j ∧ u = (L, κ, zup (zup g p0 12 (.int 0)) (tf i) 1 (.int (nI j))))) (fun (u : zS) (t : State) => zB D tc (zA [] L sz) [] u t) (zA [] L sz)) 0 0 (zA [] L sz) := by
  refine Met.ofW (cc := cX11_move) (maxL := 4) (ret := (some .int)) (by decide) rfl ?_
  intro p e9 s m args below meth c s₁ B hml hv
  obtain ⟨rfl, rfl, hK, hE, hI⟩ := hv.opn
  have hx := B.exec
  have hb := B.bytes
  have hr := B.returns
  have hts := atoms_spec (ws := wsX11_move) B.pre
  have hown : s.vm.findClass RX11 = some m.cls := findClass_of_methodNamed B.named
  have hlocks := B.notSynchronized
  have hM : zM p s m c cX11_move _ wsX11_move RX11 D tc := ⟨hx, hb, hts, hown, hK⟩
  have hinX11 : ∀ w ∈ wsX110, w ∈ wsX11_move := by decide +kernel
  have hinX10 : ∀ w ∈ wsX100, w ∈ wsX11_move := by decide +kernel
  have hnC := hMo.bC
  have hnT := hMo.bT
  have hl := lv_entry ([.ref p0, .int p1, .int p2]) (n := 4) (Nat.le_of_ble_eq_true rfl)
  rw [lg_entry_eq]
  generalize (lg_sl ([.ref p0, .int p1, .int p2]) ++ List.replicate (4 - (lg_sl ([.ref p0, .int p1, .int p2])).length) Slot.unset).toArray = ls at hl ⊢
  have hl : lv_has ls 4 [(0, .ref p0), (1, .int p1), (2, .int p2)] := hl
  refine lv_aload_n hx hb dX11_move_0 rfl (lv_at hl 0 rfl) ?_
  refine lv_aload_n hx hb dX11_move_1 rfl (lv_at hl 0 rfl) ?_
  refine lv_iload_n hx hb dX11_move_2 rfl (lv_at hl 1 rfl) ?_
  refine vp_callSi (W.runV (As := [.int p1]) (rest := [.ref p0]) ⟨hx, hb, hml, hown, hts⟩ (c_X11_isThread l D tc z0 _ κ g _ p0 hk0 p1 lc eC nC mC cf lt eT nT mT tf hMo) (cwV 1 hts gX11_move_X11_isThread rfl rfl rfl (by decide +kernel) ⟨Nat.le_of_ble_eq_true rfl, Nat.le_of_ble_eq_true rfl⟩) (z_preV (Xc := []) hK hE hI [] rfl rfl (z_recv hK hI hk0 rfl rfl)) rfl rfl hl.1 rfl (lv_room (Nat.le_of_ble_eq_true rfl)) dX11_move_3 ⟨(Nat.le_of_ble_eq_true rfl), (Nat.le_of_ble_eq_true rfl)⟩) (fun v1 hw2 => ?_)
  rcases hw2 with ⟨rfl, i3, hi4, hp5⟩ | ⟨rfl, hno6⟩
  · skip
    rw [hp5] at hl
    refine lv_if_eq (tgt := 17) hx hb dX11_move_6 (by decide) (fun h9 => by first | exact absurd h9 (by decide) | exact absurd (by decide) h9) (fun _ => ?_)
    refine lv_aload_n hx hb dX11_move_9 rfl (lv_at hl 0 rfl) ?_
    refine lv_iload_n hx hb dX11_move_10 rfl (lv_at hl 2 rfl) ?_
    refine vp_callSi (W.runV (As := [.int p2]) (rest := [.ref p0]) ⟨hx, hb, hml, hown, hts⟩ (c_X11_isCore l D tc z0 _ κ g _ p0 hk0 p2 lc eC nC mC cf lt eT nT mT tf hMo) (cwV 1 hts gX11_move_X11_isCore rfl rfl rfl (by decide +kernel) ⟨Nat.le_of_ble_eq_true rfl, Nat.le_of_ble_eq_true rfl⟩) (z_preV (Xc := []) hK hE hI [] rfl rfl (z_recv hK hI hk0 rfl rfl)) rfl rfl hl.1 rfl (lv_room (Nat.le_of_ble_eq_true rfl)) dX11_move_11 ⟨(Nat.le_of_ble_eq_true rfl), (Nat.le_of_ble_eq_true rfl)⟩) (fun v7 hw8 => ?_)
    rcases hw8 with ⟨rfl, i9, hi10, hp11⟩ | ⟨rfl, hno12⟩
    · skip
      rw [hp11] at hl
      refine lv_if_ne (tgt := 21) hx hb dX11_move_14 (by decide) (fun _ => ?_) (fun h9 => by first | exact absurd h9 (by decide) | exact absurd (by decide) h9)
      refine lv_aload_n hx hb dX11_move_21 rfl (lv_at hl 0 rfl) ?_
      refine z_get (k := 13) (j := 1) hM hI hk0 rfl rfl hinX11 rfl (by decide) (by decide +kernel) (fun _ h9 => h9) dX11_move_22 (fun v13 hv14 => ?_)
      obtain ⟨hg16, i15, rfl, hr17⟩ := hv14
      obtain rfl : lt = i15 := Value.ref.inj (hMo.gt.symm.trans hg16.symm)
      refine lv_iload_n hx hb dX11_move_25 rfl (lv_at hl 1 rfl) ?_
      refine va_csFq (va_runF (As := [.int ((nI i3))]) (rest := [.ref p0]) (hK.1 1 _ rfl).2 ⟨hx, hb, hml, hown, hts⟩ (c_Jx4a65c_get_915e3 l D tc z0 _ κ g _ lt 14 eT 26 12 nT mT tf rfl hMo.LT rfl rfl i3 (by omega)) (va_cwF 1 hts gX11_move_Jx4a65c_get_915e3_f101Jx4a65c rfl rfl rfl (hE.2.2.1 (RJx4a65c, ⟨"java/util/List", "get", "(I)Ljava/lang/Object;"⟩, yJx4a65c_get_915e3) (by decide +kernel)) (by decide +kernel) ⟨Nat.le_of_ble_eq_true rfl, Nat.le_of_ble_eq_true rfl⟩) (z_preV (Xc := []) hK hE hI [] rfl rfl (z_recv hK hI hMo.LT.1 rfl rfl)) rfl rfl hl.1 rfl (lv_room (Nat.le_of_ble_eq_true rfl)) dX11_move_26 ⟨(Nat.le_of_ble_eq_true rfl), (Nat.le_of_ble_eq_true rfl)⟩) (fun r18 hw19 => ?_)
      obtain rfl := hw19
      have hr20 : κ (tf i3) = 12 := hMo.LT.el (i := i3) (by omega)
      show W p l e9 (headSpec wsX11_move ({ frames := 3, cells := 0, slots := 0, locals := 64 })).room s m ([.ref p0, .int p1, .int p2] : List Value).toArray below meth c _ _ 0 0 (MQ below (va_Qi (fun (r : Int32) (u : zS) => (∃ v : Int32, ((v = 1 ∧ ((∀ i, i < nT → p1 ≠ nI i) ∨ (∀ j, j < nC → p2 ≠ nI j))) ∨ (v = 2 ∧ ∃ i j, i < nT ∧ p1 = nI i ∧ j < nC ∧ p2 = nI j ∧ g (tf i) 1 = .int (nI j))) ∧ u = (L, κ, zup g p0 12 (.int v))) ∨ (∃ i j, i < nT ∧ p1 = nI i ∧ j < nC ∧ p2 = nI j ∧ g (tf i) 1 = .int r ∧ ¬ r = nI j ∧ u = (L, κ, zup (zup g p0 12 (.int 0)) (tf i) 1 (.int (nI j))))) (fun (u : zS) (t : State) => zB D tc (zA [] L s.heap.size) [] u t) (zA [] L s.heap.size)) ([.ref p0, .int p1, .int p2] : List Value).toArray s 0 0 (zA [] L s.heap.size)) (F0 m 31 ls (.ref (tf i3) :: [.ref p0]))
      refine z_castS (k := 12) hM hI hr20 rfl rfl (by decide +kernel) dX11_move_31 ?_
      refine z_getN (host := "WattgovernModel") (k := 12) (j := 1) hM hE hI hr20 rfl rfl hinX10 rfl (by decide) (by decide +kernel) (fun _ h9 => h9) dX11_move_34 (fun v21 hv22 => ?_)
      obtain ⟨hg24, i23, rfl⟩ := hv22
      refine lv_iload_n hx hb dX11_move_37 rfl (lv_at hl 2 rfl) ?_
      refine lv_icmp_ne (tgt := 45) hx hb dX11_move_38 (by decide) (fun c25 => ?_) (fun c25 => ?_)
      · skip
        refine lv_iconst (v := 0) hx hb dX11_move_45 (by decide) ?_
        refine z_ciX (Xc := []) (wr := []) (rx := []) [] [] rfl rfl rfl rfl (by decide) hI (va_runV (As := [.int 0]) (rest := []) ⟨hx, hb, hml, hown, hts⟩ (c_X11_fails l D tc z0 _ κ g _ p0 hk0 0) (cwV 1 hts gX11_move_X11_fails rfl rfl rfl (by decide +kernel) ⟨Nat.le_of_ble_eq_true rfl, Nat.le_of_ble_eq_true rfl⟩) (z_preV (Xc := []) hK hE hI [] rfl rfl (z_recv hK hI hk0 rfl rfl)) rfl rfl hl.1 rfl (lv_room (Nat.le_of_ble_eq_true rfl)) dX11_move_46 ⟨(Nat.le_of_ble_eq_true rfl), (Nat.le_of_ble_eq_true rfl)⟩) (fun v26 u H locs hw27 hI => ?_)
        obtain ⟨hw27, rfl⟩ := hw27
        have hI : zI D tc _ s.heap [] L κ (zup g p0 12 (.int 0)) _ _ := hI
        have hMo := hMo.upP (j := 12) (v := .int 0) (by decide)
        obtain rfl : v26 = 0 := hw27.trans (by decide)
        refine lv_if_eq (tgt := 54) hx hb dX11_move_49 (by decide) (fun _ => ?_) (fun h9 => by first | exact absurd h9 (by decide) | exact absurd (by decide) h9)
        refine lv_aload_n hx hb dX11_move_54 rfl (lv_at hl 0 rfl) ?_
        refine z_get (k := 13) (j := 1) hM hI hk0 rfl rfl hinX11 rfl (by decide) (by decide +kernel) (fun _ h9 => h9) dX11_move_55 (fun v28 hv29 => ?_)
        obtain ⟨hg31, i30, rfl, hr32⟩ := hv29
        obtain rfl : lt = i30 := Value.ref.inj (hMo.gt.symm.trans hg31.symm)
        refine lv_iload_n hx hb dX11_move_58 rfl (lv_at hl 1 rfl) ?_
        refine va_csFq (va_runF (As := [.int ((nI i3))]) (rest := []) (hK.1 1 _ rfl).2 ⟨hx, hb, hml, hown, hts⟩ (c_Jx4a65c_get_915e3 l D tc z0 _ κ (zup g p0 12 (.int 0)) _ lt 14 eT 26 12 nT mT tf rfl hMo.LT rfl rfl i3 (by omega)) (va_cwF 1 hts gX11_move_Jx4a65c_get_915e3_f101Jx4a65c rfl rfl rfl (hE.2.2.1 (RJx4a65c, ⟨"java/util/List", "get", "(I)Ljava/lang/Object;"⟩, yJx4a65c_get_915e3) (by decide +kernel)) (by decide +kernel) ⟨Nat.le_of_ble_eq_true rfl, Nat.le_of_ble_eq_true rfl⟩) (z_preV (Xc := []) hK hE hI [] rfl rfl (z_recv hK hI hMo.LT.1 rfl rfl)) rfl rfl hl.1 rfl (lv_room (Nat.le_of_ble_eq_true rfl)) dX11_move_59 ⟨(Nat.le_of_ble_eq_true rfl), (Nat.le_of_ble_eq_true rfl)⟩) (fun r33 hw34 => ?_)
        obtain rfl := hw34
        have hr35 : κ (tf i3) = 12 := hMo.LT.el (i := i3) (by omega)
        show W p l e9 (headSpec wsX11_move ({ frames := 3, cells := 0, slots := 0, locals := 64 })).room s m ([.ref p0, .int p1, .int p2] : List Value).toArray below meth c _ _ 0 0 (MQ below (va_Qi (fun (r : Int32) (u : zS) => (∃ v : Int32, ((v = 1 ∧ ((∀ i, i < nT → p1 ≠ nI i) ∨ (∀ j, j < nC → p2 ≠ nI j))) ∨ (v = 2 ∧ ∃ i j, i < nT ∧ p1 = nI i ∧ j < nC ∧ p2 = nI j ∧ g (tf i) 1 = .int (nI j))) ∧ u = (L, κ, zup g p0 12 (.int v))) ∨ (∃ i j, i < nT ∧ p1 = nI i ∧ j < nC ∧ p2 = nI j ∧ g (tf i) 1 = .int r ∧ ¬ r = nI j ∧ u = (L, κ, zup (zup g p0 12 (.int 0)) (tf i) 1 (.int (nI j))))) (fun (u : zS) (t : State) => zB D tc (zA [] L s.heap.size) [] u t) (zA [] L s.heap.size)) ([.ref p0, .int p1, .int p2] : List Value).toArray s 0 0 (zA [] L s.heap.size)) (F0 m 64 ls (.ref (tf i3) :: []))
        refine z_castS (k := 12) hM hI hr35 rfl rfl (by decide +kernel) dX11_move_64 ?_
        refine z_getN (host := "WattgovernModel") (k := 12) (j := 1) hM hE hI hr35 rfl rfl hinX10 rfl (by decide) (by decide +kernel) (fun _ h9 => h9) dX11_move_67 (fun v36 hv37 => ?_)
        obtain ⟨hg39, i38, rfl⟩ := hv37
        refine lv_istore_n (lv' := [(3, .int i38), (0, .ref p0), (1, .int ((nI i3))), (2, .int ((nI i9)))]) hx hb dX11_move_70 rfl hl (by decide) rfl (fun ls hl => ?_)
        refine lv_aload_n hx hb dX11_move_71 rfl (lv_at hl 1 rfl) ?_
        refine z_get (k := 13) (j := 1) hM hI hk0 rfl rfl hinX11 rfl (by decide) (by decide +kernel) (fun _ h9 => h9) dX11_move_72 (fun v40 hv41 => ?_)
        obtain ⟨hg43, i42, rfl, hr44⟩ := hv41
        obtain rfl : lt = i42 := Value.ref.inj (hMo.gt.symm.trans hg43.symm)
        refine lv_iload_n hx hb dX11_move_75 rfl (lv_at hl 2 rfl) ?_
        refine va_csFq (va_runF (As := [.int ((nI i3))]) (rest := []) (hK.1 1 _ rfl).2 ⟨hx, hb, hml, hown, hts⟩ (c_Jx4a65c_get_915e3 l D tc z0 _ κ (zup g p0 12 (.int 0)) _ lt 14 eT 26 12 nT mT tf rfl hMo.LT rfl rfl i3 (by omega)) (va_cwF 1 hts gX11_move_Jx4a65c_get_915e3_f101Jx4a65c rfl rfl rfl (hE.2.2.1 (RJx4a65c, ⟨"java/util/List", "get", "(I)Ljava/lang/Object;"⟩, yJx4a65c_get_915e3) (by decide +kernel)) (by decide +kernel) ⟨Nat.le_of_ble_eq_true rfl, Nat.le_of_ble_eq_true rfl⟩) (z_preV (Xc := []) hK hE hI [] rfl rfl (z_recv hK hI hMo.LT.1 rfl rfl)) rfl rfl hl.1 rfl (lv_room (Nat.le_of_ble_eq_true rfl)) dX11_move_76 ⟨(Nat.le_of_ble_eq_true rfl), (Nat.le_of_ble_eq_true rfl)⟩) (fun r45 hw46 => ?_)
        obtain rfl := hw46
        have hr47 : κ (tf i3) = 12 := hMo.LT.el (i := i3) (by omega)
        show W p l e9 (headSpec wsX11_move ({ frames := 3, cells := 0, slots := 0, locals := 64 })).room s m ([.ref p0, .int p1, .int p2] : List Value).toArray below meth c _ _ 0 0 (MQ below (va_Qi (fun (r : Int32) (u : zS) => (∃ v : Int32, ((v = 1 ∧ ((∀ i, i < nT → p1 ≠ nI i) ∨ (∀ j, j < nC → p2 ≠ nI j))) ∨ (v = 2 ∧ ∃ i j, i < nT ∧ p1 = nI i ∧ j < nC ∧ p2 = nI j ∧ g (tf i) 1 = .int (nI j))) ∧ u = (L, κ, zup g p0 12 (.int v))) ∨ (∃ i j, i < nT ∧ p1 = nI i ∧ j < nC ∧ p2 = nI j ∧ g (tf i) 1 = .int r ∧ ¬ r = nI j ∧ u = (L, κ, zup (zup g p0 12 (.int 0)) (tf i) 1 (.int (nI j))))) (fun (u : zS) (t : State) => zB D tc (zA [] L s.heap.size) [] u t) (zA [] L s.heap.size)) ([.ref p0, .int p1, .int p2] : List Value).toArray s 0 0 (zA [] L s.heap.size)) (F0 m 81 ls (.ref (tf i3) :: []))
        refine z_castS (k := 12) hM hI hr47 rfl rfl (by decide +kernel) dX11_move_81 ?_
        refine lv_iload_n hx hb dX11_move_84 rfl (lv_at hl 3 rfl) ?_
        refine z_putN (host := "WattgovernModel") (g' := (zup (zup g p0 12 (.int 0)) ((tf i3)) 1 (.int ((nI i9))))) (k := 12) (j := 1) hM hE hI hr47 rfl rfl hinX10 tyX10 tyX10_ok nmX10 rfl (by decide) (by decide +kernel) (fun _ h9 => h9) rfl rfl rfl rfl ⟨(zup_self _ _ _ _).symm, _, rfl⟩ (fun b i h => zup_ne h) dX11_move_85 (fun H locs hI => ?_)
        have hMo := hMo.upO (j := 1) (v := .int ((nI i9))) hr47 (by decide)
        refine lv_aload_n hx hb dX11_move_88 rfl (lv_at hl 1 rfl) ?_
        refine z_get (k := 13) (j := 1) hM hI hk0 rfl rfl hinX11 rfl (by decide) (by decide +kernel) (fun _ h9 => h9) dX11_move_89 (fun v48 hv49 => ?_)
        obtain ⟨hg51, i50, rfl, hr52⟩ := hv49
        obtain rfl : lt = i50 := Value.ref.inj (hMo.gt.symm.trans hg51.symm)
        refine lv_iload_n hx hb dX11_move_92 rfl (lv_at hl 2 rfl) ?_
        refine va_csFq (va_runF (As := [.int ((nI i3))]) (rest := []) (hK.1 1 _ rfl).2 ⟨hx, hb, hml, hown, hts⟩ (c_Jx4a65c_get_915e3 l D tc z0 _ κ (zup (zup g p0 12 (.int 0)) ((tf i3)) 1 (.int ((nI i9)))) _ lt 14 eT 26 12 nT mT tf rfl hMo.LT rfl rfl i3 (by omega)) (va_cwF 1 hts gX11_move_Jx4a65c_get_915e3_f101Jx4a65c rfl rfl rfl (hE.2.2.1 (RJx4a65c, ⟨"java/util/List", "get", "(I)Ljava/lang/Object;"⟩, yJx4a65c_get_915e3) (by decide +kernel)) (by decide +kernel) ⟨Nat.le_of_ble_eq_true rfl, Nat.le_of_ble_eq_true rfl⟩) (z_preV (Xc := []) hK hE hI [] rfl rfl (z_recv hK hI hMo.LT.1 rfl rfl)) rfl rfl hl.1 rfl (lv_room (Nat.le_of_ble_eq_true rfl)) dX11_move_93 ⟨(Nat.le_of_ble_eq_true rfl), (Nat.le_of_ble_eq_true rfl)⟩) (fun r53 hw54 => ?_)
        obtain rfl := hw54
        have hr55 : κ (tf i3) = 12 := hMo.LT.el (i := i3) (by omega)
        show W p l e9 (headSpec wsX11_move ({ frames := 3, cells := 0, slots := 0, locals := 64 })).room s m ([.ref p0, .int p1, .int p2] : List Value).toArray below meth c _ _ 0 0 (MQ below (va_Qi (fun (r : Int32) (u : zS) => (∃ v : Int32, ((v = 1 ∧ ((∀ i, i < nT → p1 ≠ nI i) ∨ (∀ j, j < nC → p2 ≠ nI j))) ∨ (v = 2 ∧ ∃ i j, i < nT ∧ p1 = nI i ∧ j < nC ∧ p2 = nI j ∧ g (tf i) 1 = .int (nI j))) ∧ u = (L, κ, zup g p0 12 (.int v))) ∨ (∃ i j, i < nT ∧ p1 = nI i ∧ j < nC ∧ p2 = nI j ∧ g (tf i) 1 = .int r ∧ ¬ r = nI j ∧ u = (L, κ, zup (zup g p0 12 (.int 0)) (tf i) 1 (.int (nI j))))) (fun (u : zS) (t : State) => zB D tc (zA [] L s.heap.size) [] u t) (zA [] L s.heap.size)) ([.ref p0, .int p1, .int p2] : List Value).toArray s 0 0 (zA [] L s.heap.size)) (F0 m 98 ls (.ref (tf i3) :: []))
        refine z_castS (k := 12) hM hI hr55 rfl rfl (by decide +kernel) dX11_move_98 ?_
        refine lv_iconst (v := 5) hx hb dX11_move_101 (by decide) ?_
        refine z_putN (host := "WattgovernModel") (g' := (zup (zup g p0 12 (.int 0)) ((tf i3)) 1 (.int ((nI i9))))) (k := 12) (j := 3) hM hE hI hr55 rfl rfl hinX10 tyX10 tyX10_ok nmX10 rfl (by decide) (by decide +kernel) (fun _ h9 => h9) rfl rfl rfl rfl ⟨_, rfl⟩ (fun _ _ _ => rfl) dX11_move_102 (fun H locs hI => ?_)
        refine lv_iload_n hx hb dX11_move_105 rfl (lv_at hl 0 rfl) ?_
        refine W.widen (k := 0) (n := 0) (Nat.le_of_ble_eq_true rfl) (Nat.le_of_ble_eq_true rfl) ?_
        exact W.iret (v := i38) hx hb hr (fun t ht hW => ⟨⟨_, (L, κ, (zup (zup g p0 12 (.int 0)) ((tf i3)) 1 (.int ((nI i9))))), rfl, (Or.inr ⟨_, _, hi4, hp5, hi10, hp11, ((zup_ne (Or.inr (by decide))).symm.trans hg39.symm), fun h => c25 ((Value.int.inj (hg24.trans ((zup_ne (Or.inr (by decide))).symm.trans hg39.symm))).trans h), rfl⟩), z_end hK hI ht hW⟩, z_F hI ht⟩) (z_locs hI) dX11_move_106
      · skip
        refine lv_iconst (v := 2) hx hb dX11_move_41 (by decide) ?_
        refine lv_goto (tgt := 46) hx hb dX11_move_42 (by decide) ?_
        refine z_ciX (Xc := []) (wr := []) (rx := []) [] [] rfl rfl rfl rfl (by decide) hI (va_runV (As := [.int 2]) (rest := []) ⟨hx, hb, hml, hown, hts⟩ (c_X11_fails l D tc z0 _ κ g _ p0 hk0 2) (cwV 1 hts gX11_move_X11_fails rfl rfl rfl (by decide +kernel) ⟨Nat.le_of_ble_eq_true rfl, Nat.le_of_ble_eq_true rfl⟩) (z_preV (Xc := []) hK hE hI [] rfl rfl (z_recv hK hI hk0 rfl rfl)) rfl rfl hl.1 rfl (lv_room (Nat.le_of_ble_eq_true rfl)) dX11_move_46 ⟨(Nat.le_of_ble_eq_true rfl), (Nat.le_of_ble_eq_true rfl)⟩) (fun v56 u H locs hw57 hI => ?_)
        obtain ⟨hw57, rfl⟩ := hw57
        have hI : zI D tc _ s.heap [] L κ (zup g p0 12 (.int 2)) _ _ := hI
        have hMo := hMo.upP (j := 12) (v := .int 2) (by decide)
        obtain rfl : v56 = 1 := hw57.trans (by decide)
        refine lv_if_eq (tgt := 54) hx hb dX11_move_49 (by decide) (fun h9 => by first | exact absurd h9 (by decide) | exact absurd (by decide) h9) (fun _ => ?_)
        refine lv_iconst (v := 0) hx hb dX11_move_52 (by decide) ?_
        refine W.widen (k := 0) (n := 0) (Nat.le_of_ble_eq_true rfl) (Nat.le_of_ble_eq_true rfl) ?_
        exact W.iret (v := 0) hx hb hr (fun t ht hW => ⟨⟨_, (L, κ, (zup g p0 12 (.int 2))), rfl, (Or.inl ⟨_, Or.inr ⟨rfl, _, _, hi4, hp5, hi10, hp11, hg24.symm.trans (by rw [c25])⟩, rfl⟩), z_end hK hI ht hW⟩, z_F hI ht⟩) (z_locs hI) dX11_move_53
    · skip
      refine lv_if_ne (tgt := 21) hx hb dX11_move_14 (by decide) (fun h9 => by first | exact absurd h9 (by decide) | exact absurd (by decide) h9) (fun _ => ?_)
      refine lv_iconst (v := 1) hx hb dX11_move_17 (by decide) ?_
      refine lv_goto (tgt := 46) hx hb dX11_move_18 (by decide) ?_
      refine z_ciX (Xc := []) (wr := []) (rx := []) [] [] rfl rfl rfl rfl (by decide) hI (va_runV (As := [.int 1]) (rest := []) ⟨hx, hb, hml, hown, hts⟩ (c_X11_fails l D tc z0 _ κ g _ p0 hk0 1) (cwV 1 hts gX11_move_X11_fails rfl rfl rfl (by decide +kernel) ⟨Nat.le_of_ble_eq_true rfl, Nat.le_of_ble_eq_true rfl⟩) (z_preV (Xc := []) hK hE hI [] rfl rfl (z_recv hK hI hk0 rfl rfl)) rfl rfl hl.1 rfl (lv_room (Nat.le_of_ble_eq_true rfl)) dX11_move_46 ⟨(Nat.le_of_ble_eq_true rfl), (Nat.le_of_ble_eq_true rfl)⟩) (fun v58 u H locs hw59 hI => ?_)
      obtain ⟨hw59, rfl⟩ := hw59
      have hI : zI D tc _ s.heap [] L κ (zup g p0 12 (.int 1)) _ _ := hI
      have hMo := hMo.upP (j := 12) (v := .int 1) (by decide)
      obtain rfl : v58 = 1 := hw59.trans (by decide)
      refine lv_if_eq (tgt := 54) hx hb dX11_move_49 (by decide) (fun h9 => by first | exact absurd h9 (by decide) | exact absurd (by decide) h9) (fun _ => ?_)
      refine lv_iconst (v := 0) hx hb dX11_move_52 (by decide) ?_
      refine W.widen (k := 0) (n := 0) (Nat.le_of_ble_eq_true rfl) (Nat.le_of_ble_eq_true rfl) ?_
      exact W.iret (v := 0) hx hb hr (fun t ht hW => ⟨⟨_, (L, κ, (zup g p0 12 (.int 1))), rfl, (Or.inl ⟨_, Or.inl ⟨rfl, (by first | exact Or.inl hno6 | exact Or.inr hno12)⟩, rfl⟩), z_end hK hI ht hW⟩, z_F hI ht⟩) (z_locs hI) dX11_move_53
  · skip
    refine lv_if_eq (tgt := 17) hx hb dX11_move_6 (by decide) (fun _ => ?_) (fun h9 => by first | exact absurd h9 (by decide) | exact absurd (by decide) h9)
    refine lv_iconst (v := 1) hx hb dX11_move_17 (by decide) ?_
    refine lv_goto (tgt := 46) hx hb dX11_move_18 (by decide) ?_
    refine z_ciX (Xc := []) (wr := []) (rx := []) [] [] rfl rfl rfl rfl (by decide) hI (va_runV (As := [.int 1]) (rest := []) ⟨hx, hb, hml, hown, hts⟩ (c_X11_fails l D tc z0 _ κ g _ p0 hk0 1) (cwV 1 hts gX11_move_X11_fails rfl rfl rfl (by decide +kernel) ⟨Nat.le_of_ble_eq_true rfl, Nat.le_of_ble_eq_true rfl⟩) (z_preV (Xc := []) hK hE hI [] rfl rfl (z_recv hK hI hk0 rfl rfl)) rfl rfl hl.1 rfl (lv_room (Nat.le_of_ble_eq_true rfl)) dX11_move_46 ⟨(Nat.le_of_ble_eq_true rfl), (Nat.le_of_ble_eq_true rfl)⟩) (fun v60 u H locs hw61 hI => ?_)
    obtain ⟨hw61, rfl⟩ := hw61
    have hI : zI D tc _ s.heap [] L κ (zup g p0 12 (.int 1)) _ _ := hI
    have hMo := hMo.upP (j := 12) (v := .int 1) (by decide)
    obtain rfl : v60 = 1 := hw61.trans (by decide)
    refine lv_if_eq (tgt := 54) hx hb dX11_move_49 (by decide) (fun h9 => by first | exact absurd h9 (by decide) | exact absurd (by decide) h9) (fun _ => ?_)
    refine lv_iconst (v := 0) hx hb dX11_move_52 (by decide) ?_
    refine W.widen (k := 0) (n := 0) (Nat.le_of_ble_eq_true rfl) (Nat.le_of_ble_eq_true rfl) ?_
    exact W.iret (v := 0) hx hb hr (fun t ht hW => ⟨⟨_, (L, κ, (zup g p0 12 (.int 1))), rfl, (Or.inl ⟨_, Or.inl ⟨rfl, (by first | exact Or.inl hno6 | exact Or.inr hno12)⟩, rfl⟩), z_end hK hI ht hW⟩, z_F hI ht⟩) (z_locs hI) dX11_move_53

set_option maxHeartbeats 4000000 in
set_option maxRecDepth 100000 in
theorem c_X11_request (l : Launch) (D : va_G) (tc : Nat → ClassId) (z0 : Nat) (L : List Nat) (κ : Nat → Nat) (g : Nat → Nat → Value) (sz : Nat) (p0 : Nat) (hk0 : κ p0 = 13) (p1 : Int32) (p2 : Int32) (n9 k9 : Int32) (hn9 : g p0 18 = .int n9) (hk9 : g p0 13 = .int k9) : Met l yX11_request wsX11_request ({ frames := 1, cells := 0, slots := 0, locals := 22 }) (zPc D tc z0 [.ref p0, .int p1, .int p2] [] (L, κ, g) sz) (va_Qi (fun (r : Int32) (u : zS) => (r = 0 ∧ ¬ (1 ≤ p1 ∧ p1 ≤ 9999) ∧ u = (L, κ, zup (zup g p0 12 (.int 1)) p0 26 (.int 110))) ∨ (r = 0 ∧ (1 ≤ p1 ∧ p1 ≤ 9999) ∧ ¬ (0 ≤ p2 ∧ p2 ≤ 7) ∧ u = (L, κ, zup (zup g p0 12 (.int 1)) p0 26 (.int 118))) ∨ (r = 0 ∧ (1 ≤ p1 ∧ p1 ≤ 9999) ∧ (0 ≤ p2 ∧ p2 ≤ 7) ∧ p1 ≤ k9 ∧ u = (L, κ, zup (zup g p0 12 (.int 2)) p0 26 (.int 115))) ∨ ((1 ≤ p1 ∧ p1 ≤ 9999) ∧ (0 ≤ p2 ∧ p2 ≤ 7) ∧ k9 < p1 ∧ r = n9 + 1 ∧ u = (L, κ, zup (zup (zup (zup g p0 12 (.int 0)) p0 13 (.int p1)) p0 16 (.int p1)) p0 18 (.int (n9 + 1))))) (fun (u : zS) (t : State) => zB D tc (zA [] L sz) [] u t) (zA [] L sz)) 0 0 (zA [] L sz) := by
  refine Met.ofW (cc := cX11_request) (maxL := 4) (ret := (some .int)) (by decide) rfl ?_
  intro p e9 s m args below meth c s₁ B hml hv
  obtain ⟨rfl, rfl, hK, hE, hI⟩ := hv.opn
  have hx := B.exec
  have hb := B.bytes
  have hr := B.returns
  have hts := atoms_spec (ws := wsX11_request) B.pre
  have hown : s.vm.findClass RX11 = some m.cls := findClass_of_methodNamed B.named
  have hlocks := B.notSynchronized
  have hM : zM p s m c cX11_request _ wsX11_request RX11 D tc := ⟨hx, hb, hts, hown, hK⟩
  have hinX11 : ∀ w ∈ wsX110, w ∈ wsX11_request := by decide +kernel
  have hl := lv_entry ([.ref p0, .int p1, .int p2]) (n := 4) (Nat.le_of_ble_eq_true rfl)
  rw [lg_entry_eq]
  generalize (lg_sl ([.ref p0, .int p1, .int p2]) ++ List.replicate (4 - (lg_sl ([.ref p0, .int p1, .int p2])).length) Slot.unset).toArray = ls at hl ⊢
  have hl : lv_has ls 4 [(0, .ref p0), (1, .int p1), (2, .int p2)] := hl
  refine lv_iload_n hx hb dX11_request_0 rfl (lv_at hl 1 rfl) ?_
  refine lv_iconst (v := 1) hx hb dX11_request_1 (by decide) ?_
  refine lv_sipush (v := 9999) hx hb dX11_request_2 (by decide) ?_
  refine vp_callSi (W.runS (As := [.int p1, .int 1, .int 9999]) (rest := []) ⟨hx, hb, hml, hown, hts⟩ (c_X11_in l D tc z0 _ κ g _ p1 1 9999) (va_cwS 3 hts gX11_request_X11_in rfl rfl rfl (by decide +kernel) ⟨Nat.le_of_ble_eq_true rfl, Nat.le_of_ble_eq_true rfl⟩) (z_pre hK hE hI [] rfl rfl) rfl rfl hl.1 rfl (lv_room (Nat.le_of_ble_eq_true rfl)) dX11_request_5 ⟨(Nat.le_of_ble_eq_true rfl), (Nat.le_of_ble_eq_true rfl)⟩) (fun v1 hw2 => ?_)
  obtain ⟨hw2, hz3⟩ := hw2
  refine lv_if_ne (tgt := 16) hx hb dX11_request_8 (by decide) (fun c4 => ?_) (fun c4 => ?_)
  · skip
    refine lv_iload_n hx hb dX11_request_16 rfl (lv_at hl 2 rfl) ?_
    refine lv_iconst (v := 0) hx hb dX11_request_17 (by decide) ?_
    refine lv_bipush (v := 7) hx hb dX11_request_18 (by decide) ?_
    refine vp_callSi (W.runS (As := [.int p2, .int 0, .int 7]) (rest := []) ⟨hx, hb, hml, hown, hts⟩ (c_X11_in l D tc z0 _ κ g _ p2 0 7) (va_cwS 3 hts gX11_request_X11_in rfl rfl rfl (by decide +kernel) ⟨Nat.le_of_ble_eq_true rfl, Nat.le_of_ble_eq_true rfl⟩) (z_pre hK hE hI [] rfl rfl) rfl rfl hl.1 rfl (lv_room (Nat.le_of_ble_eq_true rfl)) dX11_request_20 ⟨(Nat.le_of_ble_eq_true rfl), (Nat.le_of_ble_eq_true rfl)⟩) (fun v5 hw6 => ?_)
    obtain ⟨hw6, hz7⟩ := hw6
    refine lv_if_ne (tgt := 31) hx hb dX11_request_23 (by decide) (fun c8 => ?_) (fun c8 => ?_)
    · skip
      refine lv_iload_n hx hb dX11_request_31 rfl (lv_at hl 1 rfl) ?_
      refine lv_aload_n hx hb dX11_request_32 rfl (lv_at hl 0 rfl) ?_
      refine z_get (k := 13) (j := 13) hM hI hk0 rfl rfl hinX11 rfl (by decide) (by decide +kernel) (fun _ h9 => h9) dX11_request_33 (fun v9 hv10 => ?_)
      obtain ⟨hg12, i11, rfl⟩ := hv10
      obtain rfl : k9 = i11 := Value.int.inj ((hk9).symm.trans hg12.symm)
      refine lv_icmp_gt (tgt := 44) hx hb dX11_request_36 (by decide) (fun c13 => ?_) (fun c13 => ?_)
      · skip
        refine lv_bipush (v := 45) hx hb dX11_request_44 (by decide) ?_
        refine lv_istore_n (lv' := [(3, .int 45), (0, .ref p0), (1, .int p1), (2, .int p2)]) hx hb dX11_request_46 rfl hl (by decide) rfl (fun ls hl => ?_)
        refine lv_aload_n hx hb dX11_request_47 rfl (lv_at hl 1 rfl) ?_
        refine lv_iload_n hx hb dX11_request_48 rfl (lv_at hl 0 rfl) ?_
        refine lv_bipush (v := 45) hx hb dX11_request_49 (by decide) ?_
        refine lv_icmp_ne (tgt := 58) hx hb dX11_request_51 (by decide) (fun h9 => by first | exact absurd h9 (by decide) | exact absurd (by decide) h9) (fun _ => ?_)
        refine lv_iconst (v := 0) hx hb dX11_request_54 (by decide) ?_
        refine lv_goto (tgt := 69) hx hb dX11_request_55 (by decide) ?_
        refine z_ciX (Xc := []) (wr := []) (rx := []) [] [] rfl rfl rfl rfl (by decide) hI (va_runV (As := [.int 0]) (rest := []) ⟨hx, hb, hml, hown, hts⟩ (c_X11_fails l D tc z0 _ κ g _ p0 hk0 0) (cwV 1 hts gX11_request_X11_fails rfl rfl rfl (by decide +kernel) ⟨Nat.le_of_ble_eq_true rfl, Nat.le_of_ble_eq_true rfl⟩) (z_preV (Xc := []) hK hE hI [] rfl rfl (z_recv hK hI hk0 rfl rfl)) rfl rfl hl.1 rfl (lv_room (Nat.le_of_ble_eq_true rfl)) dX11_request_69 ⟨(Nat.le_of_ble_eq_true rfl), (Nat.le_of_ble_eq_true rfl)⟩) (fun v14 u H locs hw15 hI => ?_)
        obtain ⟨hw15, rfl⟩ := hw15
        have hI : zI D tc _ s.heap [] L κ (zup g p0 12 (.int 0)) _ _ := hI
        obtain rfl : v14 = 0 := hw15.trans (by decide)
        refine lv_if_eq (tgt := 82) hx hb dX11_request_72 (by decide) (fun _ => ?_) (fun h9 => by first | exact absurd h9 (by decide) | exact absurd (by decide) h9)
        refine lv_aload_n hx hb dX11_request_82 rfl (lv_at hl 1 rfl) ?_
        refine lv_iload_n hx hb dX11_request_83 rfl (lv_at hl 2 rfl) ?_
        refine z_put (g' := (zup (zup g p0 12 (.int 0)) p0 13 (.int p1))) (k := 13) (j := 13) hM hI hk0 rfl rfl hinX11 tyX11 tyX11_ok nmX11 rfl (by decide) (by decide +kernel) (fun _ h9 => h9) rfl rfl rfl rfl ⟨(zup_self _ _ _ _).symm, _, rfl⟩ (fun b i h => zup_ne h) dX11_request_84 (fun H locs hI => ?_)
        refine lv_aload_n hx hb dX11_request_87 rfl (lv_at hl 1 rfl) ?_
        refine lv_iload_n hx hb dX11_request_88 rfl (lv_at hl 2 rfl) ?_
        refine z_put (g' := (zup (zup (zup g p0 12 (.int 0)) p0 13 (.int p1)) p0 16 (.int p1))) (k := 13) (j := 16) hM hI hk0 rfl rfl hinX11 tyX11 tyX11_ok nmX11 rfl (by decide) (by decide +kernel) (fun _ h9 => h9) rfl rfl rfl rfl ⟨(zup_self _ _ _ _).symm, _, rfl⟩ (fun b i h => zup_ne h) dX11_request_89 (fun H locs hI => ?_)
        refine lv_aload_n hx hb dX11_request_92 rfl (lv_at hl 1 rfl) ?_
        refine lv_iload_n hx hb dX11_request_93 rfl (lv_at hl 3 rfl) ?_
        refine z_put (g' := (zup (zup (zup g p0 12 (.int 0)) p0 13 (.int p1)) p0 16 (.int p1))) (k := 13) (j := 17) hM hI hk0 rfl rfl hinX11 tyX11 tyX11_ok nmX11 rfl (by decide) (by decide +kernel) (fun _ h9 => h9) rfl rfl rfl rfl ⟨_, rfl⟩ (fun _ _ _ => rfl) dX11_request_94 (fun H locs hI => ?_)
        refine lv_aload_n hx hb dX11_request_97 rfl (lv_at hl 1 rfl) ?_
        refine lv_dup hx hb dX11_request_98 rfl ?_
        refine z_get (k := 13) (j := 18) hM hI hk0 rfl rfl hinX11 rfl (by decide) (by decide +kernel) (fun _ h9 => h9) dX11_request_99 (fun v16 hv17 => ?_)
        obtain ⟨hg19, i18, rfl⟩ := hv17
        obtain rfl : n9 = i18 := Value.int.inj ((((zup_ne (Or.inr (by decide))).trans ((zup_ne (Or.inr (by decide))).trans ((zup_ne (Or.inr (by decide))).trans hn9)))).symm.trans hg19.symm)
        refine lv_iconst (v := 1) hx hb dX11_request_102 (by decide) ?_
        refine lv_iadd hx hb dX11_request_103 ?_
        refine lv_topi (fun v20 e21 => ?_)
        refine z_put (g' := (zup (zup (zup (zup g p0 12 (.int 0)) p0 13 (.int p1)) p0 16 (.int p1)) p0 18 (.int v20))) (k := 13) (j := 18) hM hI hk0 rfl rfl hinX11 tyX11 tyX11_ok nmX11 rfl (by decide) (by decide +kernel) (fun _ h9 => h9) rfl rfl rfl rfl ⟨(zup_self _ _ _ _).symm, _, rfl⟩ (fun b i h => zup_ne h) dX11_request_104 (fun H locs hI => ?_)
        refine lv_aload_n hx hb dX11_request_107 rfl (lv_at hl 1 rfl) ?_
        refine z_get (k := 13) (j := 18) hM hI hk0 rfl rfl hinX11 rfl (by decide) (by decide +kernel) (fun _ h9 => h9) dX11_request_108 (fun v22 hv23 => ?_)
        obtain ⟨hg25, i24, rfl⟩ := hv23
        refine W.widen (k := 0) (n := 0) (Nat.le_of_ble_eq_true rfl) (Nat.le_of_ble_eq_true rfl) ?_
        exact W.iret (v := i24) hx hb hr (fun t ht hW => ⟨⟨_, (L, κ, (zup (zup (zup (zup g p0 12 (.int 0)) p0 13 (.int p1)) p0 16 (.int p1)) p0 18 (.int v20))), rfl, (Or.inr (Or.inr (Or.inr ⟨(Classical.not_not.mp (fun h => c4 (hw2.mpr h))), (Classical.not_not.mp (fun h => c8 (hw6.mpr h))), c13, (by have h9 := hg25; simp [zup] at h9; subst_vars; rfl), (by subst_vars; rfl)⟩))), z_end hK hI ht hW⟩, z_F hI ht⟩) (z_locs hI) dX11_request_111
      · skip
        refine lv_bipush (v := 115) hx hb dX11_request_39 (by decide) ?_
        refine lv_goto (tgt := 46) hx hb dX11_request_41 (by decide) ?_
        refine lv_istore_n (lv' := [(3, .int 115), (0, .ref p0), (1, .int p1), (2, .int p2)]) hx hb dX11_request_46 rfl hl (by decide) rfl (fun ls hl => ?_)
        refine lv_aload_n hx hb dX11_request_47 rfl (lv_at hl 1 rfl) ?_
        refine lv_iload_n hx hb dX11_request_48 rfl (lv_at hl 0 rfl) ?_
        refine lv_bipush (v := 45) hx hb dX11_request_49 (by decide) ?_
        refine lv_icmp_ne (tgt := 58) hx hb dX11_request_51 (by decide) (fun _ => ?_) (fun h9 => by first | exact absurd h9 (by decide) | exact absurd (by decide) h9)
        refine lv_iload_n hx hb dX11_request_58 rfl (lv_at hl 0 rfl) ?_
        refine lv_bipush (v := 115) hx hb dX11_request_59 (by decide) ?_
        refine lv_icmp_ne (tgt := 68) hx hb dX11_request_61 (by decide) (fun h9 => by first | exact absurd h9 (by decide) | exact absurd (by decide) h9) (fun _ => ?_)
        refine lv_iconst (v := 2) hx hb dX11_request_64 (by decide) ?_
        refine lv_goto (tgt := 69) hx hb dX11_request_65 (by decide) ?_
        refine z_ciX (Xc := []) (wr := []) (rx := []) [] [] rfl rfl rfl rfl (by decide) hI (va_runV (As := [.int 2]) (rest := []) ⟨hx, hb, hml, hown, hts⟩ (c_X11_fails l D tc z0 _ κ g _ p0 hk0 2) (cwV 1 hts gX11_request_X11_fails rfl rfl rfl (by decide +kernel) ⟨Nat.le_of_ble_eq_true rfl, Nat.le_of_ble_eq_true rfl⟩) (z_preV (Xc := []) hK hE hI [] rfl rfl (z_recv hK hI hk0 rfl rfl)) rfl rfl hl.1 rfl (lv_room (Nat.le_of_ble_eq_true rfl)) dX11_request_69 ⟨(Nat.le_of_ble_eq_true rfl), (Nat.le_of_ble_eq_true rfl)⟩) (fun v26 u H locs hw27 hI => ?_)
        obtain ⟨hw27, rfl⟩ := hw27
        have hI : zI D tc _ s.heap [] L κ (zup g p0 12 (.int 2)) _ _ := hI
        obtain rfl : v26 = 1 := hw27.trans (by decide)
        refine lv_if_eq (tgt := 82) hx hb dX11_request_72 (by decide) (fun h9 => by first | exact absurd h9 (by decide) | exact absurd (by decide) h9) (fun _ => ?_)
        refine lv_aload_n hx hb dX11_request_75 rfl (lv_at hl 1 rfl) ?_
        refine lv_iload_n hx hb dX11_request_76 rfl (lv_at hl 0 rfl) ?_
        refine z_put (g' := (zup (zup g p0 12 (.int 2)) p0 26 (.int 115))) (k := 13) (j := 26) hM hI hk0 rfl rfl hinX11 tyX11 tyX11_ok nmX11 rfl (by decide) (by decide +kernel) (fun _ h9 => h9) rfl rfl (by decide) (by decide) ⟨(zup_self _ _ _ _).symm, _, rfl, by decide⟩ (fun b i h => zup_ne h) dX11_request_77 (fun H locs hI => ?_)
        refine lv_iconst (v := 0) hx hb dX11_request_80 (by decide) ?_
        refine W.widen (k := 0) (n := 0) (Nat.le_of_ble_eq_true rfl) (Nat.le_of_ble_eq_true rfl) ?_
        exact W.iret (v := 0) hx hb hr (fun t ht hW => ⟨⟨_, (L, κ, (zup (zup g p0 12 (.int 2)) p0 26 (.int 115))), rfl, (Or.inr (Or.inr (Or.inl ⟨rfl, (Classical.not_not.mp (fun h => c4 (hw2.mpr h))), (Classical.not_not.mp (fun h => c8 (hw6.mpr h))), Int32.not_lt.mp c13, rfl⟩))), z_end hK hI ht hW⟩, z_F hI ht⟩) (z_locs hI) dX11_request_81
    · skip
      refine lv_bipush (v := 118) hx hb dX11_request_26 (by decide) ?_
      refine lv_goto (tgt := 46) hx hb dX11_request_28 (by decide) ?_
      refine lv_istore_n (lv' := [(3, .int 118), (0, .ref p0), (1, .int p1), (2, .int p2)]) hx hb dX11_request_46 rfl hl (by decide) rfl (fun ls hl => ?_)
      refine lv_aload_n hx hb dX11_request_47 rfl (lv_at hl 1 rfl) ?_
      refine lv_iload_n hx hb dX11_request_48 rfl (lv_at hl 0 rfl) ?_
      refine lv_bipush (v := 45) hx hb dX11_request_49 (by decide) ?_
      refine lv_icmp_ne (tgt := 58) hx hb dX11_request_51 (by decide) (fun _ => ?_) (fun h9 => by first | exact absurd h9 (by decide) | exact absurd (by decide) h9)
      refine lv_iload_n hx hb dX11_request_58 rfl (lv_at hl 0 rfl) ?_
      refine lv_bipush (v := 115) hx hb dX11_request_59 (by decide) ?_
      refine lv_icmp_ne (tgt := 68) hx hb dX11_request_61 (by decide) (fun _ => ?_) (fun h9 => by first | exact absurd h9 (by decide) | exact absurd (by decide) h9)
      refine lv_iconst (v := 1) hx hb dX11_request_68 (by decide) ?_
      refine z_ciX (Xc := []) (wr := []) (rx := []) [] [] rfl rfl rfl rfl (by decide) hI (va_runV (As := [.int 1]) (rest := []) ⟨hx, hb, hml, hown, hts⟩ (c_X11_fails l D tc z0 _ κ g _ p0 hk0 1) (cwV 1 hts gX11_request_X11_fails rfl rfl rfl (by decide +kernel) ⟨Nat.le_of_ble_eq_true rfl, Nat.le_of_ble_eq_true rfl⟩) (z_preV (Xc := []) hK hE hI [] rfl rfl (z_recv hK hI hk0 rfl rfl)) rfl rfl hl.1 rfl (lv_room (Nat.le_of_ble_eq_true rfl)) dX11_request_69 ⟨(Nat.le_of_ble_eq_true rfl), (Nat.le_of_ble_eq_true rfl)⟩) (fun v28 u H locs hw29 hI => ?_)
      obtain ⟨hw29, rfl⟩ := hw29
      have hI : zI D tc _ s.heap [] L κ (zup g p0 12 (.int 1)) _ _ := hI
      obtain rfl : v28 = 1 := hw29.trans (by decide)
      refine lv_if_eq (tgt := 82) hx hb dX11_request_72 (by decide) (fun h9 => by first | exact absurd h9 (by decide) | exact absurd (by decide) h9) (fun _ => ?_)
      refine lv_aload_n hx hb dX11_request_75 rfl (lv_at hl 1 rfl) ?_
      refine lv_iload_n hx hb dX11_request_76 rfl (lv_at hl 0 rfl) ?_
      refine z_put (g' := (zup (zup g p0 12 (.int 1)) p0 26 (.int 118))) (k := 13) (j := 26) hM hI hk0 rfl rfl hinX11 tyX11 tyX11_ok nmX11 rfl (by decide) (by decide +kernel) (fun _ h9 => h9) rfl rfl (by decide) (by decide) ⟨(zup_self _ _ _ _).symm, _, rfl, by decide⟩ (fun b i h => zup_ne h) dX11_request_77 (fun H locs hI => ?_)
      refine lv_iconst (v := 0) hx hb dX11_request_80 (by decide) ?_
      refine W.widen (k := 0) (n := 0) (Nat.le_of_ble_eq_true rfl) (Nat.le_of_ble_eq_true rfl) ?_
      exact W.iret (v := 0) hx hb hr (fun t ht hW => ⟨⟨_, (L, κ, (zup (zup g p0 12 (.int 1)) p0 26 (.int 118))), rfl, (Or.inr (Or.inl ⟨rfl, (Classical.not_not.mp (fun h => c4 (hw2.mpr h))), hw6.mp (by simpa using c8), rfl⟩)), z_end hK hI ht hW⟩, z_F hI ht⟩) (z_locs hI) dX11_request_81
  · skip
    refine lv_bipush (v := 110) hx hb dX11_request_11 (by decide) ?_
    refine lv_goto (tgt := 46) hx hb dX11_request_13 (by decide) ?_
    refine lv_istore_n (lv' := [(3, .int 110), (0, .ref p0), (1, .int p1), (2, .int p2)]) hx hb dX11_request_46 rfl hl (by decide) rfl (fun ls hl => ?_)
    refine lv_aload_n hx hb dX11_request_47 rfl (lv_at hl 1 rfl) ?_
    refine lv_iload_n hx hb dX11_request_48 rfl (lv_at hl 0 rfl) ?_
    refine lv_bipush (v := 45) hx hb dX11_request_49 (by decide) ?_
    refine lv_icmp_ne (tgt := 58) hx hb dX11_request_51 (by decide) (fun _ => ?_) (fun h9 => by first | exact absurd h9 (by decide) | exact absurd (by decide) h9)
    refine lv_iload_n hx hb dX11_request_58 rfl (lv_at hl 0 rfl) ?_
    refine lv_bipush (v := 115) hx hb dX11_request_59 (by decide) ?_
    refine lv_icmp_ne (tgt := 68) hx hb dX11_request_61 (by decide) (fun _ => ?_) (fun h9 => by first | exact absurd h9 (by decide) | exact absurd (by decide) h9)
    refine lv_iconst (v := 1) hx hb dX11_request_68 (by decide) ?_
    refine z_ciX (Xc := []) (wr := []) (rx := []) [] [] rfl rfl rfl rfl (by decide) hI (va_runV (As := [.int 1]) (rest := []) ⟨hx, hb, hml, hown, hts⟩ (c_X11_fails l D tc z0 _ κ g _ p0 hk0 1) (cwV 1 hts gX11_request_X11_fails rfl rfl rfl (by decide +kernel) ⟨Nat.le_of_ble_eq_true rfl, Nat.le_of_ble_eq_true rfl⟩) (z_preV (Xc := []) hK hE hI [] rfl rfl (z_recv hK hI hk0 rfl rfl)) rfl rfl hl.1 rfl (lv_room (Nat.le_of_ble_eq_true rfl)) dX11_request_69 ⟨(Nat.le_of_ble_eq_true rfl), (Nat.le_of_ble_eq_true rfl)⟩) (fun v30 u H locs hw31 hI => ?_)
    obtain ⟨hw31, rfl⟩ := hw31
    have hI : zI D tc _ s.heap [] L κ (zup g p0 12 (.int 1)) _ _ := hI
    obtain rfl : v30 = 1 := hw31.trans (by decide)
    refine lv_if_eq (tgt := 82) hx hb dX11_request_72 (by decide) (fun h9 => by first | exact absurd h9 (by decide) | exact absurd (by decide) h9) (fun _ => ?_)
    refine lv_aload_n hx hb dX11_request_75 rfl (lv_at hl 1 rfl) ?_
    refine lv_iload_n hx hb dX11_request_76 rfl (lv_at hl 0 rfl) ?_
    refine z_put (g' := (zup (zup g p0 12 (.int 1)) p0 26 (.int 110))) (k := 13) (j := 26) hM hI hk0 rfl rfl hinX11 tyX11 tyX11_ok nmX11 rfl (by decide) (by decide +kernel) (fun _ h9 => h9) rfl rfl (by decide) (by decide) ⟨(zup_self _ _ _ _).symm, _, rfl, by decide⟩ (fun b i h => zup_ne h) dX11_request_77 (fun H locs hI => ?_)
    refine lv_iconst (v := 0) hx hb dX11_request_80 (by decide) ?_
    refine W.widen (k := 0) (n := 0) (Nat.le_of_ble_eq_true rfl) (Nat.le_of_ble_eq_true rfl) ?_
    exact W.iret (v := 0) hx hb hr (fun t ht hW => ⟨⟨_, (L, κ, (zup (zup g p0 12 (.int 1)) p0 26 (.int 110))), rfl, (Or.inl ⟨rfl, hw2.mp (by simpa using c4), rfl⟩), z_end hK hI ht hW⟩, z_F hI ht⟩) (z_locs hI) dX11_request_81

set_option maxHeartbeats 4000000 in
set_option maxRecDepth 100000 in
theorem c_X11_pass_bad (l : Launch) (D : va_G) (tc : Nat → ClassId) (z0 : Nat) (L : List Nat) (κ : Nat → Nat) (g : Nat → Nat → Value) (sz : Nat) (p0 : Nat) (hk0 : κ p0 = 13) (p1 : Int32) (t9 : Int32) (ht9 : g p0 4 = .int t9) (hbad : (1 ≤ p1 ∧ p1 ≤ 100) → 9999 < t9 + p1) : Met l yX11_pass wsX11_pass ({ frames := 1, cells := 0, slots := 0, locals := 22 }) (zPc D tc z0 [.ref p0, .int p1] [] (L, κ, g) sz) (va_Qi (fun (r : Int32) (u : zS) => r = 0 ∧ ((¬ (1 ≤ p1 ∧ p1 ≤ 100) ∧ u = (L, κ, zup g p0 12 (.int 1))) ∨ ((1 ≤ p1 ∧ p1 ≤ 100) ∧ u = (L, κ, zup g p0 12 (.int 2))))) (fun (u : zS) (t : State) => zB D tc (zA [] L sz) [] u t) (zA [] L sz)) 0 0 (zA [] L sz) := by
  refine Met.ofW (cc := cX11_pass) (maxL := 3) (ret := (some .int)) (by decide) rfl ?_
  intro p e9 s m args below meth c s₁ B hml hv
  obtain ⟨rfl, rfl, hK, hE, hI⟩ := hv.opn
  have hx := B.exec
  have hb := B.bytes
  have hr := B.returns
  have hts := atoms_spec (ws := wsX11_pass) B.pre
  have hown : s.vm.findClass RX11 = some m.cls := findClass_of_methodNamed B.named
  have hlocks := B.notSynchronized
  have hM : zM p s m c cX11_pass _ wsX11_pass RX11 D tc := ⟨hx, hb, hts, hown, hK⟩
  have hinX11 : ∀ w ∈ wsX110, w ∈ wsX11_pass := by decide +kernel
  have hl := lv_entry ([.ref p0, .int p1]) (n := 3) (Nat.le_of_ble_eq_true rfl)
  rw [lg_entry_eq]
  generalize (lg_sl ([.ref p0, .int p1]) ++ List.replicate (3 - (lg_sl ([.ref p0, .int p1])).length) Slot.unset).toArray = ls at hl ⊢
  have hl : lv_has ls 3 [(0, .ref p0), (1, .int p1)] := hl
  refine lv_aload_n hx hb dX11_pass_0 rfl (lv_at hl 0 rfl) ?_
  refine lv_iload_n hx hb dX11_pass_1 rfl (lv_at hl 1 rfl) ?_
  refine lv_iconst (v := 1) hx hb dX11_pass_2 (by decide) ?_
  refine lv_bipush (v := 100) hx hb dX11_pass_3 (by decide) ?_
  refine vp_callSi (W.runS (As := [.int p1, .int 1, .int 100]) (rest := [.ref p0]) ⟨hx, hb, hml, hown, hts⟩ (c_X11_in l D tc z0 _ κ g _ p1 1 100) (va_cwS 3 hts gX11_pass_X11_in rfl rfl rfl (by decide +kernel) ⟨Nat.le_of_ble_eq_true rfl, Nat.le_of_ble_eq_true rfl⟩) (z_pre hK hE hI [] rfl rfl) rfl rfl hl.1 rfl (lv_room (Nat.le_of_ble_eq_true rfl)) dX11_pass_5 ⟨(Nat.le_of_ble_eq_true rfl), (Nat.le_of_ble_eq_true rfl)⟩) (fun v1 hw2 => ?_)
  obtain ⟨hw2, hz3⟩ := hw2
  refine lv_if_ne (tgt := 15) hx hb dX11_pass_8 (by decide) (fun c4 => ?_) (fun c4 => ?_)
  · skip
    refine lv_aload_n hx hb dX11_pass_15 rfl (lv_at hl 0 rfl) ?_
    refine z_get (k := 13) (j := 4) hM hI hk0 rfl rfl hinX11 rfl (by decide) (by decide +kernel) (fun _ h9 => h9) dX11_pass_16 (fun v5 hv6 => ?_)
    obtain ⟨hg8, i7, rfl⟩ := hv6
    obtain rfl : t9 = i7 := Value.int.inj ((ht9).symm.trans hg8.symm)
    refine lv_iload_n hx hb dX11_pass_19 rfl (lv_at hl 1 rfl) ?_
    refine lv_iadd hx hb dX11_pass_20 ?_
    refine lv_topi (fun v9 e10 => ?_)
    refine lv_sipush (v := 9999) hx hb dX11_pass_21 (by decide) ?_
    refine lv_icmp_le (tgt := 31) hx hb dX11_pass_24 (by decide) (fun c11 => ?_) (fun c11 => ?_)
    · skip
      exact absurd (Int32.lt_of_lt_of_le (hbad (Classical.not_not.mp (fun h => c4 (hw2.mpr h)))) (by subst_vars; exact c11)) Int32.lt_irrefl
    · skip
      refine lv_iconst (v := 2) hx hb dX11_pass_27 (by decide) ?_
      refine lv_goto (tgt := 32) hx hb dX11_pass_28 (by decide) ?_
      refine z_ciX (Xc := []) (wr := []) (rx := []) [] [] rfl rfl rfl rfl (by decide) hI (va_runV (As := [.int 2]) (rest := []) ⟨hx, hb, hml, hown, hts⟩ (c_X11_fails l D tc z0 _ κ g _ p0 hk0 2) (cwV 1 hts gX11_pass_X11_fails rfl rfl rfl (by decide +kernel) ⟨Nat.le_of_ble_eq_true rfl, Nat.le_of_ble_eq_true rfl⟩) (z_preV (Xc := []) hK hE hI [] rfl rfl (z_recv hK hI hk0 rfl rfl)) rfl rfl hl.1 rfl (lv_room (Nat.le_of_ble_eq_true rfl)) dX11_pass_32 ⟨(Nat.le_of_ble_eq_true rfl), (Nat.le_of_ble_eq_true rfl)⟩) (fun v12 u H locs hw13 hI => ?_)
      obtain ⟨hw13, rfl⟩ := hw13
      have hI : zI D tc _ s.heap [] L κ (zup g p0 12 (.int 2)) _ _ := hI
      obtain rfl : v12 = 1 := hw13.trans (by decide)
      refine lv_if_eq (tgt := 40) hx hb dX11_pass_35 (by decide) (fun h9 => by first | exact absurd h9 (by decide) | exact absurd (by decide) h9) (fun _ => ?_)
      refine lv_iconst (v := 0) hx hb dX11_pass_38 (by decide) ?_
      refine W.widen (k := 0) (n := 0) (Nat.le_of_ble_eq_true rfl) (Nat.le_of_ble_eq_true rfl) ?_
      exact W.iret (v := 0) hx hb hr (fun t ht hW => ⟨⟨_, (L, κ, (zup g p0 12 (.int 2))), rfl, ⟨rfl, Or.inr ⟨Classical.not_not.mp (fun h => c4 (hw2.mpr h)), rfl⟩⟩, z_end hK hI ht hW⟩, z_F hI ht⟩) (z_locs hI) dX11_pass_39
  · skip
    refine lv_iconst (v := 1) hx hb dX11_pass_11 (by decide) ?_
    refine lv_goto (tgt := 32) hx hb dX11_pass_12 (by decide) ?_
    refine z_ciX (Xc := []) (wr := []) (rx := []) [] [] rfl rfl rfl rfl (by decide) hI (va_runV (As := [.int 1]) (rest := []) ⟨hx, hb, hml, hown, hts⟩ (c_X11_fails l D tc z0 _ κ g _ p0 hk0 1) (cwV 1 hts gX11_pass_X11_fails rfl rfl rfl (by decide +kernel) ⟨Nat.le_of_ble_eq_true rfl, Nat.le_of_ble_eq_true rfl⟩) (z_preV (Xc := []) hK hE hI [] rfl rfl (z_recv hK hI hk0 rfl rfl)) rfl rfl hl.1 rfl (lv_room (Nat.le_of_ble_eq_true rfl)) dX11_pass_32 ⟨(Nat.le_of_ble_eq_true rfl), (Nat.le_of_ble_eq_true rfl)⟩) (fun v14 u H locs hw15 hI => ?_)
    obtain ⟨hw15, rfl⟩ := hw15
    have hI : zI D tc _ s.heap [] L κ (zup g p0 12 (.int 1)) _ _ := hI
    obtain rfl : v14 = 1 := hw15.trans (by decide)
    refine lv_if_eq (tgt := 40) hx hb dX11_pass_35 (by decide) (fun h9 => by first | exact absurd h9 (by decide) | exact absurd (by decide) h9) (fun _ => ?_)
    refine lv_iconst (v := 0) hx hb dX11_pass_38 (by decide) ?_
    refine W.widen (k := 0) (n := 0) (Nat.le_of_ble_eq_true rfl) (Nat.le_of_ble_eq_true rfl) ?_
    exact W.iret (v := 0) hx hb hr (fun t ht hW => ⟨⟨_, (L, κ, (zup g p0 12 (.int 1))), rfl, ⟨rfl, Or.inl ⟨hw2.mp (by simpa using c4), rfl⟩⟩, z_end hK hI ht hW⟩, z_F hI ht⟩) (z_locs hI) dX11_pass_39

