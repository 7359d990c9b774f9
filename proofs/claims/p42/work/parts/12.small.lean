set_option maxHeartbeats 4000000 in
set_option maxRecDepth 100000 in
theorem c_X3_inAge (l : Launch) (D : va_G) (tc : Nat → ClassId) (z0 : Nat) (L : List Nat) (κ : Nat → Nat) (g : Nat → Nat → Value) (sz : Nat) (p0 : Nat) (hk0 : κ p0 = 5) (hW : zWo g p0 19998) : Met l yX3_inAge wsX3_inAge ({ frames := 0, cells := 0, slots := 0, locals := 0 }) (zPc D tc z0 [.ref p0] [] (L, κ, g) sz) (vp_Si (fun r : Int32 => 0 ≤ r.toInt ∧ r.toInt < 2000)) 0 0 (fun _ => False) := by
  refine Met.ofW (cc := cX3_inAge) (maxL := 1) (ret := (some .int)) (by decide) rfl ?_
  intro p e s m args below meth c s₁ B hml hv
  obtain ⟨rfl, rfl, hK, hE, hI⟩ := hv.opn
  have hx := B.exec
  have hb := B.bytes
  have hr := B.returns
  have hts := atoms_spec (ws := wsX3_inAge) B.pre
  have hown : s.vm.findClass RX3 = some m.cls := findClass_of_methodNamed B.named
  have hlocks := B.notSynchronized
  have hM : zM p s m c cX3_inAge _ wsX3_inAge RX3 D tc := ⟨hx, hb, hts, hown, hK⟩
  have hinX3 : ∀ w ∈ wsX30, w ∈ wsX3_inAge := by decide +kernel
  have hl := lv_entry ([.ref p0]) (n := 1) (Nat.le_of_ble_eq_true rfl)
  rw [lg_entry_eq]
  generalize (lg_sl ([.ref p0]) ++ List.replicate (1 - (lg_sl ([.ref p0])).length) Slot.unset).toArray = ls at hl ⊢
  have hl : lv_has ls 1 [(0, .ref p0)] := hl
  refine lv_aload_n hx hb dX3_inAge_0 rfl (lv_at hl 0 rfl) ?_
  refine z_get (k := 5) (j := 19) hM hI hk0 rfl rfl hinX3 rfl (by decide) (by decide +kernel) (fun _ h9 => h9) dX3_inAge_1 (fun v1 hv2 => ?_)
  obtain ⟨hg4, i3, rfl⟩ := hv2
  obtain ⟨w9, hw9, hb9⟩ := hW
  obtain rfl : nI w9 = i3 := Value.int.inj (hw9.symm.trans hg4.symm)
  refine lv_bipush (v := 10) hx hb dX3_inAge_4 (by decide) ?_
  refine lv_idiv hx hb dX3_inAge_6 (by decide) ?_
  refine lv_topi (fun v5 e6 => ?_)
  exact W.iret (v := v5) hx hb hr (fun t ht hW => ⟨_, rfl, (w_age hb9 e6), ht⟩) (fun q h => by cases h) dX3_inAge_7

set_option maxHeartbeats 4000000 in
set_option maxRecDepth 100000 in
theorem c_X3_isTooOld (l : Launch) (D : va_G) (tc : Nat → ClassId) (z0 : Nat) (L : List Nat) (κ : Nat → Nat) (g : Nat → Nat → Value) (sz : Nat) (p0 : Nat) (hk0 : κ p0 = 5) (hW : zWo g p0 19998) : Met l yX3_isTooOld wsX3_isTooOld ({ frames := 1, cells := 0, slots := 0, locals := 20 }) (zPc D tc z0 [.ref p0] [] (L, κ, g) sz) (vp_Si (fun r : Int32 => r = 0 ∨ r = 1)) 0 0 (fun _ => False) := by
  refine Met.ofW (cc := cX3_isTooOld) (maxL := 1) (ret := (some .boolean)) (by decide) rfl ?_
  intro p e s m args below meth c s₁ B hml hv
  obtain ⟨rfl, rfl, hK, hE, hI⟩ := hv.opn
  have hx := B.exec
  have hb := B.bytes
  have hr := B.returns
  have hts := atoms_spec (ws := wsX3_isTooOld) B.pre
  have hown : s.vm.findClass RX3 = some m.cls := findClass_of_methodNamed B.named
  have hlocks := B.notSynchronized
  have hM : zM p s m c cX3_isTooOld _ wsX3_isTooOld RX3 D tc := ⟨hx, hb, hts, hown, hK⟩
  skip
  have hl := lv_entry ([.ref p0]) (n := 1) (Nat.le_of_ble_eq_true rfl)
  rw [lg_entry_eq]
  generalize (lg_sl ([.ref p0]) ++ List.replicate (1 - (lg_sl ([.ref p0])).length) Slot.unset).toArray = ls at hl ⊢
  have hl : lv_has ls 1 [(0, .ref p0)] := hl
  refine lv_aload_n hx hb dX3_isTooOld_0 rfl (lv_at hl 0 rfl) ?_
  refine vp_callSi (W.runV (As := []) (rest := []) ⟨hx, hb, hml, hown, hts⟩ (c_X3_inAge l _ _ _ _ _ _ _ p0 hk0 hW) (cwV 0 hts gX3_isTooOld_X3_inAge rfl rfl rfl (by decide +kernel) ⟨Nat.le_of_ble_eq_true rfl, Nat.le_of_ble_eq_true rfl⟩) (z_preV hK hE hI [] rfl rfl (z_recv hK hI hk0 rfl rfl)) rfl rfl hl.1 rfl (lv_room (Nat.le_of_ble_eq_true rfl)) dX3_isTooOld_1 ⟨Nat.le_of_ble_eq_true rfl, Nat.le_of_ble_eq_true rfl⟩) (fun v1 hw2 => ?_)
  refine lv_bipush (v := 100) hx hb dX3_isTooOld_4 (by decide) ?_
  refine lv_icmp_le (tgt := 13) hx hb dX3_isTooOld_6 (by decide) (fun c3 => ?_) (fun c3 => ?_)
  · skip
    refine lv_iconst (v := 0) hx hb dX3_isTooOld_13 (by decide) ?_
    exact W.zret (v := 0) hx hb hr (by decide) (fun t ht hW => ⟨_, rfl, (Or.inl rfl), ht⟩) (fun q h => by cases h) dX3_isTooOld_14
  · skip
    refine lv_iconst (v := 1) hx hb dX3_isTooOld_9 (by decide) ?_
    refine lv_goto (tgt := 14) hx hb dX3_isTooOld_10 (by decide) ?_
    exact W.zret (v := 1) hx hb hr (by decide) (fun t ht hW => ⟨_, rfl, (Or.inr rfl), ht⟩) (fun q h => by cases h) dX3_isTooOld_14

set_option maxHeartbeats 4000000 in
set_option maxRecDepth 100000 in
theorem c_X3_greatestSpeed (l : Launch) (D : va_G) (tc : Nat → ClassId) (z0 : Nat) (L : List Nat) (κ : Nat → Nat) (g : Nat → Nat → Value) (sz : Nat) (p0 : Nat) (hk0 : κ p0 = 5) : Met l yX3_greatestSpeed wsX3_greatestSpeed ({ frames := 0, cells := 0, slots := 0, locals := 0 }) (zPc D tc z0 [.ref p0] [] (L, κ, g) sz) (vp_Si (fun r : Int32 => r.toInt = 7 ∨ r.toInt = 4)) 0 0 (fun _ => False) := by
  refine Met.ofW (cc := cX3_greatestSpeed) (maxL := 1) (ret := (some .int)) (by decide) rfl ?_
  intro p e s m args below meth c s₁ B hml hv
  obtain ⟨rfl, rfl, hK, hE, hI⟩ := hv.opn
  have hx := B.exec
  have hb := B.bytes
  have hr := B.returns
  have hts := atoms_spec (ws := wsX3_greatestSpeed) B.pre
  have hown : s.vm.findClass RX3 = some m.cls := findClass_of_methodNamed B.named
  have hlocks := B.notSynchronized
  have hM : zM p s m c cX3_greatestSpeed _ wsX3_greatestSpeed RX3 D tc := ⟨hx, hb, hts, hown, hK⟩
  have hinX3 : ∀ w ∈ wsX30, w ∈ wsX3_greatestSpeed := by decide +kernel
  have hl := lv_entry ([.ref p0]) (n := 1) (Nat.le_of_ble_eq_true rfl)
  rw [lg_entry_eq]
  generalize (lg_sl ([.ref p0]) ++ List.replicate (1 - (lg_sl ([.ref p0])).length) Slot.unset).toArray = ls at hl ⊢
  have hl : lv_has ls 1 [(0, .ref p0)] := hl
  refine lv_aload_n hx hb dX3_greatestSpeed_0 rfl (lv_at hl 0 rfl) ?_
  refine z_get (k := 5) (j := 2) hM hI hk0 rfl rfl hinX3 rfl (by decide) (by decide +kernel) (fun _ h9 => h9) dX3_greatestSpeed_1 (fun v1 hv2 => ?_)
  obtain ⟨i3, rfl, hz4⟩ := zv_b hv2
  refine lv_if_eq (tgt := 12) hx hb dX3_greatestSpeed_4 (by decide) (fun c5 => ?_) (fun c5 => ?_)
  · skip
    refine lv_iconst (v := 4) hx hb dX3_greatestSpeed_12 (by decide) ?_
    exact W.iret (v := 4) hx hb hr (fun t ht hW => ⟨_, rfl, (by decide), ht⟩) (fun q h => by cases h) dX3_greatestSpeed_13
  · skip
    refine lv_bipush (v := 7) hx hb dX3_greatestSpeed_7 (by decide) ?_
    refine lv_goto (tgt := 13) hx hb dX3_greatestSpeed_9 (by decide) ?_
    exact W.iret (v := 7) hx hb hr (fun t ht hW => ⟨_, rfl, (by decide), ht⟩) (fun q h => by cases h) dX3_greatestSpeed_13

set_option maxHeartbeats 4000000 in
set_option maxRecDepth 100000 in
theorem c_X3_workOfOneSpeed (l : Launch) (D : va_G) (tc : Nat → ClassId) (z0 : Nat) (L : List Nat) (κ : Nat → Nat) (g : Nat → Nat → Value) (sz : Nat) (p0 : Nat) (hk0 : κ p0 = 5) : Met l yX3_workOfOneSpeed wsX3_workOfOneSpeed ({ frames := 0, cells := 0, slots := 0, locals := 0 }) (zPc D tc z0 [.ref p0] [] (L, κ, g) sz) (vp_Si (fun r : Int32 => True)) 0 0 (fun _ => False) := by
  refine Met.ofW (cc := cX3_workOfOneSpeed) (maxL := 1) (ret := (some .int)) (by decide) rfl ?_
  intro p e s m args below meth c s₁ B hml hv
  obtain ⟨rfl, rfl, hK, hE, hI⟩ := hv.opn
  have hx := B.exec
  have hb := B.bytes
  have hr := B.returns
  have hts := atoms_spec (ws := wsX3_workOfOneSpeed) B.pre
  have hown : s.vm.findClass RX3 = some m.cls := findClass_of_methodNamed B.named
  have hlocks := B.notSynchronized
  have hM : zM p s m c cX3_workOfOneSpeed _ wsX3_workOfOneSpeed RX3 D tc := ⟨hx, hb, hts, hown, hK⟩
  have hinX3 : ∀ w ∈ wsX30, w ∈ wsX3_workOfOneSpeed := by decide +kernel
  have hl := lv_entry ([.ref p0]) (n := 1) (Nat.le_of_ble_eq_true rfl)
  rw [lg_entry_eq]
  generalize (lg_sl ([.ref p0]) ++ List.replicate (1 - (lg_sl ([.ref p0])).length) Slot.unset).toArray = ls at hl ⊢
  have hl : lv_has ls 1 [(0, .ref p0)] := hl
  refine lv_aload_n hx hb dX3_workOfOneSpeed_0 rfl (lv_at hl 0 rfl) ?_
  refine z_get (k := 5) (j := 2) hM hI hk0 rfl rfl hinX3 rfl (by decide) (by decide +kernel) (fun _ h9 => h9) dX3_workOfOneSpeed_1 (fun v1 hv2 => ?_)
  obtain ⟨i3, rfl, hz4⟩ := zv_b hv2
  refine lv_if_eq (tgt := 11) hx hb dX3_workOfOneSpeed_4 (by decide) (fun c5 => ?_) (fun c5 => ?_)
  · skip
    refine lv_iconst (v := 2) hx hb dX3_workOfOneSpeed_11 (by decide) ?_
    exact W.iret (v := 2) hx hb hr (fun t ht hW => ⟨_, rfl, trivial, ht⟩) (fun q h => by cases h) dX3_workOfOneSpeed_12
  · skip
    refine lv_iconst (v := 3) hx hb dX3_workOfOneSpeed_7 (by decide) ?_
    refine lv_goto (tgt := 12) hx hb dX3_workOfOneSpeed_8 (by decide) ?_
    exact W.iret (v := 3) hx hb hr (fun t ht hW => ⟨_, rfl, trivial, ht⟩) (fun q h => by cases h) dX3_workOfOneSpeed_12

set_option maxHeartbeats 4000000 in
set_option maxRecDepth 100000 in
theorem c_X3_voltsFor (l : Launch) (D : va_G) (tc : Nat → ClassId) (z0 : Nat) (L : List Nat) (κ : Nat → Nat) (g : Nat → Nat → Value) (sz : Nat) (p0 : Nat) (hk0 : κ p0 = 5) (p1 : Int32) (hr1 : 0 ≤ p1.toInt ∧ p1.toInt < 8) (hW : zWo g p0 19998) : Met l yX3_voltsFor wsX3_voltsFor ({ frames := 1, cells := 0, slots := 0, locals := 21 }) (zPc D tc z0 [.ref p0, .int p1] [] (L, κ, g) sz) (vp_Si (fun r : Int32 => 0 ≤ r.toInt ∧ r.toInt < 2945)) 0 0 (fun _ => False) := by
  refine Met.ofW (cc := cX3_voltsFor) (maxL := 3) (ret := (some .int)) (by decide) rfl ?_
  intro p e s m args below meth c s₁ B hml hv
  obtain ⟨rfl, rfl, hK, hE, hI⟩ := hv.opn
  have hx := B.exec
  have hb := B.bytes
  have hr := B.returns
  have hts := atoms_spec (ws := wsX3_voltsFor) B.pre
  have hown : s.vm.findClass RX3 = some m.cls := findClass_of_methodNamed B.named
  have hlocks := B.notSynchronized
  have hM : zM p s m c cX3_voltsFor _ wsX3_voltsFor RX3 D tc := ⟨hx, hb, hts, hown, hK⟩
  have hinX3 : ∀ w ∈ wsX30, w ∈ wsX3_voltsFor := by decide +kernel
  have hinX1 : ∀ w ∈ wsX10, w ∈ wsX3_voltsFor := by decide +kernel
  have hl := lv_entry ([.ref p0, .int p1]) (n := 3) (Nat.le_of_ble_eq_true rfl)
  rw [lg_entry_eq]
  generalize (lg_sl ([.ref p0, .int p1]) ++ List.replicate (3 - (lg_sl ([.ref p0, .int p1])).length) Slot.unset).toArray = ls at hl ⊢
  have hl : lv_has ls 3 [(0, .ref p0), (1, .int p1)] := hl
  refine lv_aload_n hx hb dX3_voltsFor_0 rfl (lv_at hl 0 rfl) ?_
  refine z_get (k := 5) (j := 15) hM hI hk0 rfl rfl hinX3 rfl (by decide) (by decide +kernel) (fun _ h9 => h9) dX3_voltsFor_1 (fun v1 hv2 => ?_)
  obtain ⟨hg4, i3, rfl, hr5⟩ := hv2
  refine z_get (k := 3) (j := 2) hM hI hr5 rfl rfl hinX1 rfl (by decide) (by decide +kernel) (fun _ h9 => h9) dX3_voltsFor_4 (fun v6 hv7 => ?_)
  obtain ⟨hg9, i8, rfl, hr10⟩ := hv7
  refine lv_bipush (v := 80) hx hb dX3_voltsFor_7 (by decide) ?_
  refine vp_callSi (W.runV (As := [.int 80]) (rest := []) ⟨hx, hb, hml, hown, hts⟩ (c_X0_upTo l _ _ _ _ _ _ _ i8 33 53 ⟨rfl, rfl, rfl⟩ hr10 80) (cwV 1 hts gX3_voltsFor_X0_upTo rfl rfl rfl (by decide +kernel) ⟨Nat.le_of_ble_eq_true rfl, Nat.le_of_ble_eq_true rfl⟩) (z_preV hK hE hI [] rfl rfl (z_recv hK hI hr10 rfl rfl)) rfl rfl hl.1 rfl (lv_room (Nat.le_of_ble_eq_true rfl)) dX3_voltsFor_9 ⟨Nat.le_of_ble_eq_true rfl, Nat.le_of_ble_eq_true rfl⟩) (fun v11 hw12 => ?_)
  refine lv_bipush (v := 80) hx hb dX3_voltsFor_12 (by decide) ?_
  refine lv_icmp_lt (tgt := 22) hx hb dX3_voltsFor_14 (by decide) (fun c13 => ?_) (fun c13 => ?_)
  · skip
    refine lv_iconst (v := 0) hx hb dX3_voltsFor_22 (by decide) ?_
    refine lv_istore_n (lv' := [(2, .int 0), (0, .ref p0), (1, .int p1)]) hx hb dX3_voltsFor_23 rfl hl (by decide) rfl (fun ls hl => ?_)
    refine lv_sipush (v := 500) hx hb dX3_voltsFor_24 (by decide) ?_
    refine lv_bipush (v := 60) hx hb dX3_voltsFor_27 (by decide) ?_
    refine lv_iload_n hx hb dX3_voltsFor_29 rfl (lv_at hl 2 rfl) ?_
    refine lv_imul hx hb dX3_voltsFor_30 ?_
    refine lv_topi (fun v14 e15 => ?_)
    refine lv_iadd hx hb dX3_voltsFor_31 ?_
    refine lv_topi (fun v16 e17 => ?_)
    refine lv_aload_n hx hb dX3_voltsFor_32 rfl (lv_at hl 1 rfl) ?_
    refine vp_callSi (W.runV (As := []) (rest := [.int v16]) ⟨hx, hb, hml, hown, hts⟩ (c_X3_inAge l _ _ _ _ _ _ _ p0 hk0 hW) (cwV 0 hts gX3_voltsFor_X3_inAge rfl rfl rfl (by decide +kernel) ⟨Nat.le_of_ble_eq_true rfl, Nat.le_of_ble_eq_true rfl⟩) (z_preV hK hE hI [] rfl rfl (z_recv hK hI hk0 rfl rfl)) rfl rfl hl.1 rfl (lv_room (Nat.le_of_ble_eq_true rfl)) dX3_voltsFor_33 ⟨Nat.le_of_ble_eq_true rfl, Nat.le_of_ble_eq_true rfl⟩) (fun v18 hw19 => ?_)
    refine lv_iadd hx hb dX3_voltsFor_36 ?_
    refine lv_topi (fun v20 e21 => ?_)
    refine lv_iload_n hx hb dX3_voltsFor_37 rfl (lv_at hl 0 rfl) ?_
    refine lv_iadd hx hb dX3_voltsFor_38 ?_
    refine lv_topi (fun v22 e23 => ?_)
    exact W.iret (v := v22) hx hb hr (fun t ht hW => ⟨_, rfl, (w_volts hr1 hw19 (by decide) e15 e17 e21 e23), ht⟩) (fun q h => by cases h) dX3_voltsFor_39
  · skip
    refine lv_bipush (v := 25) hx hb dX3_voltsFor_17 (by decide) ?_
    refine lv_goto (tgt := 23) hx hb dX3_voltsFor_19 (by decide) ?_
    refine lv_istore_n (lv' := [(2, .int 25), (0, .ref p0), (1, .int p1)]) hx hb dX3_voltsFor_23 rfl hl (by decide) rfl (fun ls hl => ?_)
    refine lv_sipush (v := 500) hx hb dX3_voltsFor_24 (by decide) ?_
    refine lv_bipush (v := 60) hx hb dX3_voltsFor_27 (by decide) ?_
    refine lv_iload_n hx hb dX3_voltsFor_29 rfl (lv_at hl 2 rfl) ?_
    refine lv_imul hx hb dX3_voltsFor_30 ?_
    refine lv_topi (fun v24 e25 => ?_)
    refine lv_iadd hx hb dX3_voltsFor_31 ?_
    refine lv_topi (fun v26 e27 => ?_)
    refine lv_aload_n hx hb dX3_voltsFor_32 rfl (lv_at hl 1 rfl) ?_
    refine vp_callSi (W.runV (As := []) (rest := [.int v26]) ⟨hx, hb, hml, hown, hts⟩ (c_X3_inAge l _ _ _ _ _ _ _ p0 hk0 hW) (cwV 0 hts gX3_voltsFor_X3_inAge rfl rfl rfl (by decide +kernel) ⟨Nat.le_of_ble_eq_true rfl, Nat.le_of_ble_eq_true rfl⟩) (z_preV hK hE hI [] rfl rfl (z_recv hK hI hk0 rfl rfl)) rfl rfl hl.1 rfl (lv_room (Nat.le_of_ble_eq_true rfl)) dX3_voltsFor_33 ⟨Nat.le_of_ble_eq_true rfl, Nat.le_of_ble_eq_true rfl⟩) (fun v28 hw29 => ?_)
    refine lv_iadd hx hb dX3_voltsFor_36 ?_
    refine lv_topi (fun v30 e31 => ?_)
    refine lv_iload_n hx hb dX3_voltsFor_37 rfl (lv_at hl 0 rfl) ?_
    refine lv_iadd hx hb dX3_voltsFor_38 ?_
    refine lv_topi (fun v32 e33 => ?_)
    exact W.iret (v := v32) hx hb hr (fun t ht hW => ⟨_, rfl, (w_volts hr1 hw29 (by decide) e25 e27 e31 e33), ht⟩) (fun q h => by cases h) dX3_voltsFor_39

set_option maxHeartbeats 4000000 in
set_option maxRecDepth 100000 in
theorem c_X3_noteBusy (l : Launch) (D : va_G) (tc : Nat → ClassId) (z0 : Nat) (L : List Nat) (κ : Nat → Nat) (g : Nat → Nat → Value) (sz : Nat) (p0 : Nat) (hk0 : κ p0 = 5) (p1 : Int32) (hz1 : p1 = 0 ∨ p1 = 1) : Met l yX3_noteBusy wsX3_noteBusy ({ frames := 0, cells := 0, slots := 0, locals := 0 }) (zPc D tc z0 [.ref p0, .int p1] [] (L, κ, g) sz) (va_Qv (fun (u : zS) => u = (L, κ, g)) (fun (u : zS) (t : State) => zB D tc (zA [] L sz) [] u t) (zA [] L sz)) 0 0 (zA [] L sz) := by
  refine Met.ofW (cc := cX3_noteBusy) (maxL := 2) (ret := none) (by decide) rfl ?_
  intro p e s m args below meth c s₁ B hml hv
  obtain ⟨rfl, rfl, hK, hE, hI⟩ := hv.opn
  have hx := B.exec
  have hb := B.bytes
  have hr := B.returns
  have hts := atoms_spec (ws := wsX3_noteBusy) B.pre
  have hown : s.vm.findClass RX3 = some m.cls := findClass_of_methodNamed B.named
  have hlocks := B.notSynchronized
  have hM : zM p s m c cX3_noteBusy _ wsX3_noteBusy RX3 D tc := ⟨hx, hb, hts, hown, hK⟩
  have hinX3 : ∀ w ∈ wsX30, w ∈ wsX3_noteBusy := by decide +kernel
  have hl := lv_entry ([.ref p0, .int p1]) (n := 2) (Nat.le_of_ble_eq_true rfl)
  rw [lg_entry_eq]
  generalize (lg_sl ([.ref p0, .int p1]) ++ List.replicate (2 - (lg_sl ([.ref p0, .int p1])).length) Slot.unset).toArray = ls at hl ⊢
  have hl : lv_has ls 2 [(0, .ref p0), (1, .int p1)] := hl
  refine lv_aload_n hx hb dX3_noteBusy_0 rfl (lv_at hl 0 rfl) ?_
  refine lv_aload_n hx hb dX3_noteBusy_1 rfl (lv_at hl 0 rfl) ?_
  refine z_get (k := 5) (j := 13) hM hI hk0 rfl rfl hinX3 rfl (by decide) (by decide +kernel) (fun _ h9 => h9) dX3_noteBusy_2 (fun v1 hv2 => ?_)
  obtain ⟨i3, rfl, hz4⟩ := zv_b hv2
  refine z_put (g' := g) (k := 5) (j := 14) hM hI hk0 rfl rfl hinX3 tyX3 tyX3_ok nmX3 rfl (by decide) (by decide +kernel) (fun _ h9 => h9) rfl rfl (z_bn (by assumption)) (z_bf (by assumption)) (z_bv (by assumption)) (fun _ _ _ => rfl) dX3_noteBusy_5 (fun H locs hI => ?_)
  refine lv_aload_n hx hb dX3_noteBusy_8 rfl (lv_at hl 0 rfl) ?_
  refine lv_iload_n hx hb dX3_noteBusy_9 rfl (lv_at hl 1 rfl) ?_
  refine z_put (g' := g) (k := 5) (j := 13) hM hI hk0 rfl rfl hinX3 tyX3 tyX3_ok nmX3 rfl (by decide) (by decide +kernel) (fun _ h9 => h9) rfl rfl (z_bn (by assumption)) (z_bf (by assumption)) (z_bv (by assumption)) (fun _ _ _ => rfl) dX3_noteBusy_10 (fun H locs hI => ?_)
  exact W.vret hx hb hr (fun t ht hW => ⟨⟨(L, κ, g), rfl, rfl, z_end hK hI ht hW⟩, z_F hI ht⟩) (z_locs hI) dX3_noteBusy_13

set_option maxHeartbeats 4000000 in
set_option maxRecDepth 100000 in
theorem c_X3_readSensor (l : Launch) (D : va_G) (tc : Nat → ClassId) (z0 : Nat) (L : List Nat) (κ : Nat → Nat) (g : Nat → Nat → Value) (sz : Nat) (p0 : Nat) (hk0 : κ p0 = 5) : Met l yX3_readSensor wsX3_readSensor ({ frames := 1, cells := 0, slots := 0, locals := 20 }) (zPc D tc z0 [.ref p0] [] (L, κ, g) sz) (va_Qv (fun (u : zS) => u = (L, κ, g)) (fun (u : zS) (t : State) => zB D tc (zA [] L sz) [] u t) (zA [] L sz)) 0 0 (zA [] L sz) := by
  refine Met.ofW (cc := cX3_readSensor) (maxL := 2) (ret := none) (by decide) rfl ?_
  intro p e s m args below meth c s₁ B hml hv
  obtain ⟨rfl, rfl, hK, hE, hI⟩ := hv.opn
  have hx := B.exec
  have hb := B.bytes
  have hr := B.returns
  have hts := atoms_spec (ws := wsX3_readSensor) B.pre
  have hown : s.vm.findClass RX3 = some m.cls := findClass_of_methodNamed B.named
  have hlocks := B.notSynchronized
  have hM : zM p s m c cX3_readSensor _ wsX3_readSensor RX3 D tc := ⟨hx, hb, hts, hown, hK⟩
  have hinX3 : ∀ w ∈ wsX30, w ∈ wsX3_readSensor := by decide +kernel
  have hinX1 : ∀ w ∈ wsX10, w ∈ wsX3_readSensor := by decide +kernel
  have hl := lv_entry ([.ref p0]) (n := 2) (Nat.le_of_ble_eq_true rfl)
  rw [lg_entry_eq]
  generalize (lg_sl ([.ref p0]) ++ List.replicate (2 - (lg_sl ([.ref p0])).length) Slot.unset).toArray = ls at hl ⊢
  have hl : lv_has ls 2 [(0, .ref p0)] := hl
  refine lv_aload_n hx hb dX3_readSensor_0 rfl (lv_at hl 0 rfl) ?_
  refine z_get (k := 5) (j := 15) hM hI hk0 rfl rfl hinX3 rfl (by decide) (by decide +kernel) (fun _ h9 => h9) dX3_readSensor_1 (fun v1 hv2 => ?_)
  obtain ⟨hg4, i3, rfl, hr5⟩ := hv2
  refine z_get (k := 3) (j := 2) hM hI hr5 rfl rfl hinX1 rfl (by decide) (by decide +kernel) (fun _ h9 => h9) dX3_readSensor_4 (fun v6 hv7 => ?_)
  obtain ⟨hg9, i8, rfl, hr10⟩ := hv7
  refine vp_callSl (W.runV (As := []) (rest := []) ⟨hx, hb, hml, hown, hts⟩ (c_X0_lowBits l _ _ _ _ _ _ _ i8 33 53 ⟨rfl, rfl, rfl⟩ hr10) (cwV 0 hts gX3_readSensor_X0_lowBits rfl rfl rfl (by decide +kernel) ⟨Nat.le_of_ble_eq_true rfl, Nat.le_of_ble_eq_true rfl⟩) (z_preV hK hE hI [] rfl rfl (z_recv hK hI hr10 rfl rfl)) rfl rfl hl.1 rfl (lv_room (Nat.le_of_ble_eq_true rfl)) dX3_readSensor_7 ⟨Nat.le_of_ble_eq_true rfl, Nat.le_of_ble_eq_true rfl⟩) (fun v11 hw12 => ?_)
  refine lv_l2i hx hb dX3_readSensor_10 rfl ?_
  refine lv_topi (fun v13 e14 => ?_)
  refine lv_istore_n (lv' := [(1, .int v13), (0, .ref p0)]) hx hb dX3_readSensor_11 rfl hl (by decide) rfl (fun ls hl => ?_)
  refine lv_aload_n hx hb dX3_readSensor_12 rfl (lv_at hl 1 rfl) ?_
  refine lv_iload_n hx hb dX3_readSensor_13 rfl (lv_at hl 0 rfl) ?_
  refine lv_iload_n hx hb dX3_readSensor_14 rfl (lv_at hl 0 rfl) ?_
  refine lv_iconst (v := 1) hx hb dX3_readSensor_15 (by decide) ?_
  refine lv_iand hx hb dX3_readSensor_16 ?_
  refine lv_topi (fun v15 e16 => ?_)
  refine lv_isub hx hb dX3_readSensor_17 ?_
  refine lv_topi (fun v17 e18 => ?_)
  refine z_put (g' := g) (k := 5) (j := 16) hM hI hk0 rfl rfl hinX3 tyX3 tyX3_ok nmX3 rfl (by decide) (by decide +kernel) (fun _ h9 => h9) rfl rfl rfl rfl ⟨_, rfl⟩ (fun _ _ _ => rfl) dX3_readSensor_18 (fun H locs hI => ?_)
  exact W.vret hx hb hr (fun t ht hW => ⟨⟨(L, κ, g), rfl, rfl, z_end hK hI ht hW⟩, z_F hI ht⟩) (z_locs hI) dX3_readSensor_21

set_option maxHeartbeats 4000000 in
set_option maxRecDepth 100000 in
theorem c_X3_countIdle (l : Launch) (D : va_G) (tc : Nat → ClassId) (z0 : Nat) (L : List Nat) (κ : Nat → Nat) (g : Nat → Nat → Value) (sz : Nat) (p0 : Nat) (hk0 : κ p0 = 5) : Met l yX3_countIdle wsX3_countIdle ({ frames := 0, cells := 0, slots := 0, locals := 0 }) (zPc D tc z0 [.ref p0] [] (L, κ, g) sz) (va_Qv (fun (u : zS) => u = (L, κ, g)) (fun (u : zS) (t : State) => zB D tc (zA [] L sz) [] u t) (zA [] L sz)) 0 0 (zA [] L sz) := by
  refine Met.ofW (cc := cX3_countIdle) (maxL := 1) (ret := none) (by decide) rfl ?_
  intro p e s m args below meth c s₁ B hml hv
  obtain ⟨rfl, rfl, hK, hE, hI⟩ := hv.opn
  have hx := B.exec
  have hb := B.bytes
  have hr := B.returns
  have hts := atoms_spec (ws := wsX3_countIdle) B.pre
  have hown : s.vm.findClass RX3 = some m.cls := findClass_of_methodNamed B.named
  have hlocks := B.notSynchronized
  have hM : zM p s m c cX3_countIdle _ wsX3_countIdle RX3 D tc := ⟨hx, hb, hts, hown, hK⟩
  have hinX3 : ∀ w ∈ wsX30, w ∈ wsX3_countIdle := by decide +kernel
  have hl := lv_entry ([.ref p0]) (n := 1) (Nat.le_of_ble_eq_true rfl)
  rw [lg_entry_eq]
  generalize (lg_sl ([.ref p0]) ++ List.replicate (1 - (lg_sl ([.ref p0])).length) Slot.unset).toArray = ls at hl ⊢
  have hl : lv_has ls 1 [(0, .ref p0)] := hl
  refine lv_aload_n hx hb dX3_countIdle_0 rfl (lv_at hl 0 rfl) ?_
  refine lv_dup hx hb dX3_countIdle_1 rfl ?_
  refine z_get (k := 5) (j := 10) hM hI hk0 rfl rfl hinX3 rfl (by decide) (by decide +kernel) (fun _ h9 => h9) dX3_countIdle_2 (fun v1 hv2 => ?_)
  obtain ⟨i3, rfl⟩ := hv2
  refine lv_iconst (v := 1) hx hb dX3_countIdle_5 (by decide) ?_
  refine lv_iadd hx hb dX3_countIdle_6 ?_
  refine lv_topi (fun v4 e5 => ?_)
  refine z_put (g' := g) (k := 5) (j := 10) hM hI hk0 rfl rfl hinX3 tyX3 tyX3_ok nmX3 rfl (by decide) (by decide +kernel) (fun _ h9 => h9) rfl rfl rfl rfl ⟨_, rfl⟩ (fun _ _ _ => rfl) dX3_countIdle_7 (fun H locs hI => ?_)
  refine lv_aload_n hx hb dX3_countIdle_10 rfl (lv_at hl 0 rfl) ?_
  refine z_get (k := 5) (j := 10) hM hI hk0 rfl rfl hinX3 rfl (by decide) (by decide +kernel) (fun _ h9 => h9) dX3_countIdle_11 (fun v6 hv7 => ?_)
  obtain ⟨i8, rfl⟩ := hv7
  refine lv_bipush (v := 10) hx hb dX3_countIdle_14 (by decide) ?_
  refine lv_icmp_lt (tgt := 28) hx hb dX3_countIdle_16 (by decide) (fun c9 => ?_) (fun c9 => ?_)
  · skip
    refine lv_aload_n hx hb dX3_countIdle_28 rfl (lv_at hl 0 rfl) ?_
    refine z_get (k := 5) (j := 10) hM hI hk0 rfl rfl hinX3 rfl (by decide) (by decide +kernel) (fun _ h9 => h9) dX3_countIdle_29 (fun v10 hv11 => ?_)
    obtain ⟨i12, rfl⟩ := hv11
    refine lv_iconst (v := 3) hx hb dX3_countIdle_32 (by decide) ?_
    refine lv_icmp_lt (tgt := 51) hx hb dX3_countIdle_33 (by decide) (fun c13 => ?_) (fun c13 => ?_)
    · skip
      exact W.vret hx hb hr (fun t ht hW => ⟨⟨(L, κ, g), rfl, rfl, z_end hK hI ht hW⟩, z_F hI ht⟩) (z_locs hI) dX3_countIdle_51
    · skip
      refine lv_aload_n hx hb dX3_countIdle_36 rfl (lv_at hl 0 rfl) ?_
      refine z_get (k := 5) (j := 9) hM hI hk0 rfl rfl hinX3 rfl (by decide) (by decide +kernel) (fun _ h9 => h9) dX3_countIdle_37 (fun v14 hv15 => ?_)
      obtain ⟨i16, rfl, hf17⟩ := hv15
      refine lv_bipush (v := 97) hx hb dX3_countIdle_40 (by decide) ?_
      refine lv_icmp_ne (tgt := 51) hx hb dX3_countIdle_42 (by decide) (fun c18 => ?_) (fun c18 => ?_)
      · skip
        exact W.vret hx hb hr (fun t ht hW => ⟨⟨(L, κ, g), rfl, rfl, z_end hK hI ht hW⟩, z_F hI ht⟩) (z_locs hI) dX3_countIdle_51
      · skip
        refine lv_aload_n hx hb dX3_countIdle_45 rfl (lv_at hl 0 rfl) ?_
        refine lv_bipush (v := 108) hx hb dX3_countIdle_46 (by decide) ?_
        refine z_put (g' := g) (k := 5) (j := 9) hM hI hk0 rfl rfl hinX3 tyX3 tyX3_ok nmX3 rfl (by decide) (by decide +kernel) (fun _ h9 => h9) rfl rfl (by decide) (by decide) ⟨_, rfl, by decide⟩ (fun _ _ _ => rfl) dX3_countIdle_48 (fun H locs hI => ?_)
        exact W.vret hx hb hr (fun t ht hW => ⟨⟨(L, κ, g), rfl, rfl, z_end hK hI ht hW⟩, z_F hI ht⟩) (z_locs hI) dX3_countIdle_51
  · skip
    refine lv_aload_n hx hb dX3_countIdle_19 rfl (lv_at hl 0 rfl) ?_
    refine lv_bipush (v := 100) hx hb dX3_countIdle_20 (by decide) ?_
    refine z_put (g' := g) (k := 5) (j := 9) hM hI hk0 rfl rfl hinX3 tyX3 tyX3_ok nmX3 rfl (by decide) (by decide +kernel) (fun _ h9 => h9) rfl rfl (by decide) (by decide) ⟨_, rfl, by decide⟩ (fun _ _ _ => rfl) dX3_countIdle_22 (fun H locs hI => ?_)
    refine lv_goto (tgt := 51) hx hb dX3_countIdle_25 (by decide) ?_
    exact W.vret hx hb hr (fun t ht hW => ⟨⟨(L, κ, g), rfl, rfl, z_end hK hI ht hW⟩, z_F hI ht⟩) (z_locs hI) dX3_countIdle_51

set_option maxHeartbeats 4000000 in
set_option maxRecDepth 100000 in
theorem c_X3_beginToWake (l : Launch) (D : va_G) (tc : Nat → ClassId) (z0 : Nat) (L : List Nat) (κ : Nat → Nat) (g : Nat → Nat → Value) (sz : Nat) (p0 : Nat) (hk0 : κ p0 = 5) : Met l yX3_beginToWake wsX3_beginToWake ({ frames := 0, cells := 0, slots := 0, locals := 0 }) (zPc D tc z0 [.ref p0] [] (L, κ, g) sz) (va_Qv (fun (u : zS) => u = (L, κ, g)) (fun (u : zS) (t : State) => zB D tc (zA [] L sz) [] u t) (zA [] L sz)) 0 0 (zA [] L sz) := by
  refine Met.ofW (cc := cX3_beginToWake) (maxL := 1) (ret := none) (by decide) rfl ?_
  intro p e s m args below meth c s₁ B hml hv
  obtain ⟨rfl, rfl, hK, hE, hI⟩ := hv.opn
  have hx := B.exec
  have hb := B.bytes
  have hr := B.returns
  have hts := atoms_spec (ws := wsX3_beginToWake) B.pre
  have hown : s.vm.findClass RX3 = some m.cls := findClass_of_methodNamed B.named
  have hlocks := B.notSynchronized
  have hM : zM p s m c cX3_beginToWake _ wsX3_beginToWake RX3 D tc := ⟨hx, hb, hts, hown, hK⟩
  have hinX3 : ∀ w ∈ wsX30, w ∈ wsX3_beginToWake := by decide +kernel
  have hl := lv_entry ([.ref p0]) (n := 1) (Nat.le_of_ble_eq_true rfl)
  rw [lg_entry_eq]
  generalize (lg_sl ([.ref p0]) ++ List.replicate (1 - (lg_sl ([.ref p0])).length) Slot.unset).toArray = ls at hl ⊢
  have hl : lv_has ls 1 [(0, .ref p0)] := hl
  refine lv_aload_n hx hb dX3_beginToWake_0 rfl (lv_at hl 0 rfl) ?_
  refine lv_aload_n hx hb dX3_beginToWake_1 rfl (lv_at hl 0 rfl) ?_
  refine z_get (k := 5) (j := 9) hM hI hk0 rfl rfl hinX3 rfl (by decide) (by decide +kernel) (fun _ h9 => h9) dX3_beginToWake_2 (fun v1 hv2 => ?_)
  obtain ⟨i3, rfl, hf4⟩ := hv2
  refine lv_bipush (v := 100) hx hb dX3_beginToWake_5 (by decide) ?_
  refine lv_icmp_ne (tgt := 14) hx hb dX3_beginToWake_7 (by decide) (fun c5 => ?_) (fun c5 => ?_)
  · skip
    refine lv_iconst (v := 0) hx hb dX3_beginToWake_14 (by decide) ?_
    refine z_put (g' := g) (k := 5) (j := 12) hM hI hk0 rfl rfl hinX3 tyX3 tyX3_ok nmX3 rfl (by decide) (by decide +kernel) (fun _ h9 => h9) rfl rfl (by decide) (by decide) (Or.inl rfl) (fun _ _ _ => rfl) dX3_beginToWake_15 (fun H locs hI => ?_)
    refine lv_aload_n hx hb dX3_beginToWake_18 rfl (lv_at hl 0 rfl) ?_
    refine lv_aload_n hx hb dX3_beginToWake_19 rfl (lv_at hl 0 rfl) ?_
    refine z_get (k := 5) (j := 12) hM hI hk0 rfl rfl hinX3 rfl (by decide) (by decide +kernel) (fun _ h9 => h9) dX3_beginToWake_20 (fun v6 hv7 => ?_)
    obtain ⟨i8, rfl, hz9⟩ := zv_b hv7
    refine lv_if_eq (tgt := 30) hx hb dX3_beginToWake_23 (by decide) (fun c10 => ?_) (fun c10 => ?_)
    · skip
      refine lv_iconst (v := 1) hx hb dX3_beginToWake_30 (by decide) ?_
      refine z_put (g' := g) (k := 5) (j := 11) hM hI hk0 rfl rfl hinX3 tyX3 tyX3_ok nmX3 rfl (by decide) (by decide +kernel) (fun _ h9 => h9) rfl rfl rfl rfl ⟨_, rfl⟩ (fun _ _ _ => rfl) dX3_beginToWake_31 (fun H locs hI => ?_)
      refine lv_aload_n hx hb dX3_beginToWake_34 rfl (lv_at hl 0 rfl) ?_
      refine lv_bipush (v := 119) hx hb dX3_beginToWake_35 (by decide) ?_
      refine z_put (g' := g) (k := 5) (j := 9) hM hI hk0 rfl rfl hinX3 tyX3 tyX3_ok nmX3 rfl (by decide) (by decide +kernel) (fun _ h9 => h9) rfl rfl (by decide) (by decide) ⟨_, rfl, by decide⟩ (fun _ _ _ => rfl) dX3_beginToWake_37 (fun H locs hI => ?_)
      exact W.vret hx hb hr (fun t ht hW => ⟨⟨(L, κ, g), rfl, rfl, z_end hK hI ht hW⟩, z_F hI ht⟩) (z_locs hI) dX3_beginToWake_40
    · skip
      refine lv_iconst (v := 4) hx hb dX3_beginToWake_26 (by decide) ?_
      refine lv_goto (tgt := 31) hx hb dX3_beginToWake_27 (by decide) ?_
      refine z_put (g' := g) (k := 5) (j := 11) hM hI hk0 rfl rfl hinX3 tyX3 tyX3_ok nmX3 rfl (by decide) (by decide +kernel) (fun _ h9 => h9) rfl rfl rfl rfl ⟨_, rfl⟩ (fun _ _ _ => rfl) dX3_beginToWake_31 (fun H locs hI => ?_)
      refine lv_aload_n hx hb dX3_beginToWake_34 rfl (lv_at hl 0 rfl) ?_
      refine lv_bipush (v := 119) hx hb dX3_beginToWake_35 (by decide) ?_
      refine z_put (g' := g) (k := 5) (j := 9) hM hI hk0 rfl rfl hinX3 tyX3 tyX3_ok nmX3 rfl (by decide) (by decide +kernel) (fun _ h9 => h9) rfl rfl (by decide) (by decide) ⟨_, rfl, by decide⟩ (fun _ _ _ => rfl) dX3_beginToWake_37 (fun H locs hI => ?_)
      exact W.vret hx hb hr (fun t ht hW => ⟨⟨(L, κ, g), rfl, rfl, z_end hK hI ht hW⟩, z_F hI ht⟩) (z_locs hI) dX3_beginToWake_40
  · skip
    refine lv_iconst (v := 1) hx hb dX3_beginToWake_10 (by decide) ?_
    refine lv_goto (tgt := 15) hx hb dX3_beginToWake_11 (by decide) ?_
    refine z_put (g' := g) (k := 5) (j := 12) hM hI hk0 rfl rfl hinX3 tyX3 tyX3_ok nmX3 rfl (by decide) (by decide +kernel) (fun _ h9 => h9) rfl rfl (by decide) (by decide) (Or.inr rfl) (fun _ _ _ => rfl) dX3_beginToWake_15 (fun H locs hI => ?_)
    refine lv_aload_n hx hb dX3_beginToWake_18 rfl (lv_at hl 0 rfl) ?_
    refine lv_aload_n hx hb dX3_beginToWake_19 rfl (lv_at hl 0 rfl) ?_
    refine z_get (k := 5) (j := 12) hM hI hk0 rfl rfl hinX3 rfl (by decide) (by decide +kernel) (fun _ h9 => h9) dX3_beginToWake_20 (fun v11 hv12 => ?_)
    obtain ⟨i13, rfl, hz14⟩ := zv_b hv12
    refine lv_if_eq (tgt := 30) hx hb dX3_beginToWake_23 (by decide) (fun c15 => ?_) (fun c15 => ?_)
    · skip
      refine lv_iconst (v := 1) hx hb dX3_beginToWake_30 (by decide) ?_
      refine z_put (g' := g) (k := 5) (j := 11) hM hI hk0 rfl rfl hinX3 tyX3 tyX3_ok nmX3 rfl (by decide) (by decide +kernel) (fun _ h9 => h9) rfl rfl rfl rfl ⟨_, rfl⟩ (fun _ _ _ => rfl) dX3_beginToWake_31 (fun H locs hI => ?_)
      refine lv_aload_n hx hb dX3_beginToWake_34 rfl (lv_at hl 0 rfl) ?_
      refine lv_bipush (v := 119) hx hb dX3_beginToWake_35 (by decide) ?_
      refine z_put (g' := g) (k := 5) (j := 9) hM hI hk0 rfl rfl hinX3 tyX3 tyX3_ok nmX3 rfl (by decide) (by decide +kernel) (fun _ h9 => h9) rfl rfl (by decide) (by decide) ⟨_, rfl, by decide⟩ (fun _ _ _ => rfl) dX3_beginToWake_37 (fun H locs hI => ?_)
      exact W.vret hx hb hr (fun t ht hW => ⟨⟨(L, κ, g), rfl, rfl, z_end hK hI ht hW⟩, z_F hI ht⟩) (z_locs hI) dX3_beginToWake_40
    · skip
      refine lv_iconst (v := 4) hx hb dX3_beginToWake_26 (by decide) ?_
      refine lv_goto (tgt := 31) hx hb dX3_beginToWake_27 (by decide) ?_
      refine z_put (g' := g) (k := 5) (j := 11) hM hI hk0 rfl rfl hinX3 tyX3 tyX3_ok nmX3 rfl (by decide) (by decide +kernel) (fun _ h9 => h9) rfl rfl rfl rfl ⟨_, rfl⟩ (fun _ _ _ => rfl) dX3_beginToWake_31 (fun H locs hI => ?_)
      refine lv_aload_n hx hb dX3_beginToWake_34 rfl (lv_at hl 0 rfl) ?_
      refine lv_bipush (v := 119) hx hb dX3_beginToWake_35 (by decide) ?_
      refine z_put (g' := g) (k := 5) (j := 9) hM hI hk0 rfl rfl hinX3 tyX3 tyX3_ok nmX3 rfl (by decide) (by decide +kernel) (fun _ h9 => h9) rfl rfl (by decide) (by decide) ⟨_, rfl, by decide⟩ (fun _ _ _ => rfl) dX3_beginToWake_37 (fun H locs hI => ?_)
      exact W.vret hx hb hr (fun t ht hW => ⟨⟨(L, κ, g), rfl, rfl, z_end hK hI ht hW⟩, z_F hI ht⟩) (z_locs hI) dX3_beginToWake_40

set_option maxHeartbeats 4000000 in
set_option maxRecDepth 100000 in
theorem c_X3_wish (l : Launch) (D : va_G) (tc : Nat → ClassId) (z0 : Nat) (L : List Nat) (κ : Nat → Nat) (g : Nat → Nat → Value) (sz : Nat) (p0 : Nat) (hk0 : κ p0 = 5) (p1 : Int32) : Met l yX3_wish wsX3_wish ({ frames := 1, cells := 0, slots := 0, locals := 22 }) (zPc D tc z0 [.ref p0, .int p1] [] (L, κ, g) sz) (va_Qv (fun (u : zS) => u = (L, κ, g)) (fun (u : zS) (t : State) => zB D tc (zA [] L sz) [] u t) (zA [] L sz)) 0 0 (zA [] L sz) := by
  refine Met.ofW (cc := cX3_wish) (maxL := 3) (ret := none) (by decide) rfl ?_
  intro p e s m args below meth c s₁ B hml hv
  obtain ⟨rfl, rfl, hK, hE, hI⟩ := hv.opn
  have hx := B.exec
  have hb := B.bytes
  have hr := B.returns
  have hts := atoms_spec (ws := wsX3_wish) B.pre
  have hown : s.vm.findClass RX3 = some m.cls := findClass_of_methodNamed B.named
  have hlocks := B.notSynchronized
  have hM : zM p s m c cX3_wish _ wsX3_wish RX3 D tc := ⟨hx, hb, hts, hown, hK⟩
  have hinX3 : ∀ w ∈ wsX30, w ∈ wsX3_wish := by decide +kernel
  have hl := lv_entry ([.ref p0, .int p1]) (n := 3) (Nat.le_of_ble_eq_true rfl)
  rw [lg_entry_eq]
  generalize (lg_sl ([.ref p0, .int p1]) ++ List.replicate (3 - (lg_sl ([.ref p0, .int p1])).length) Slot.unset).toArray = ls at hl ⊢
  have hl : lv_has ls 3 [(0, .ref p0), (1, .int p1)] := hl
  refine lv_aload_n hx hb dX3_wish_0 rfl (lv_at hl 0 rfl) ?_
  refine z_get (k := 5) (j := 4) hM hI hk0 rfl rfl hinX3 rfl (by decide) (by decide +kernel) (fun _ h9 => h9) dX3_wish_1 (fun v1 hv2 => ?_)
  obtain ⟨i3, rfl⟩ := hv2
  refine lv_istore_n (lv' := [(2, .int i3), (0, .ref p0), (1, .int p1)]) hx hb dX3_wish_4 rfl hl (by decide) rfl (fun ls hl => ?_)
  refine lv_aload_n hx hb dX3_wish_5 rfl (lv_at hl 1 rfl) ?_
  refine z_get (k := 5) (j := 3) hM hI hk0 rfl rfl hinX3 rfl (by decide) (by decide +kernel) (fun _ h9 => h9) dX3_wish_6 (fun v4 hv5 => ?_)
  obtain ⟨i6, rfl, hf7⟩ := hv5
  refine lv_bipush (v := 108) hx hb dX3_wish_9 (by decide) ?_
  have hL53 : ∀ (H : Heap) (locs : List Loc) (x8 : Int32)    (hI : zI D tc (zA [] L s.heap.size) s.heap [] L κ g H locs) (ls : Array Slot) (hl : lv_has ls 3 [(2, .int x8), (0, .ref p0), (1, .int p1)]), W p l e (headSpec wsX3_wish ({ frames := 1, cells := 0, slots := 0, locals := 22 })).room s m ([.ref p0, .int p1] : List Value).toArray below meth c H locs 0 0 (MQ below (va_Qv (fun (u : zS) => u = (L, κ, g)) (fun (u : zS) (t : State) => zB D tc (zA [] L s.heap.size) [] u t) (zA [] L s.heap.size)) ([.ref p0, .int p1] : List Value).toArray s 0 0 (zA [] L s.heap.size)) (F0 m 53 ls []) := by
    intro H locs x8 hI ls hl
    refine lv_aload_n hx hb dX3_wish_53 rfl (lv_at hl 1 rfl) ?_
    refine lv_iconst (v := 0) hx hb dX3_wish_54 (by decide) ?_
    refine lv_aload_n hx hb dX3_wish_55 rfl (lv_at hl 1 rfl) ?_
    refine vp_callSi (W.runV (As := []) (rest := [.int 0, .ref p0]) ⟨hx, hb, hml, hown, hts⟩ (c_X3_greatestSpeed l _ _ _ _ _ _ _ p0 hk0) (cwV 0 hts gX3_wish_X3_greatestSpeed rfl rfl rfl (by decide +kernel) ⟨Nat.le_of_ble_eq_true rfl, Nat.le_of_ble_eq_true rfl⟩) (z_preV hK hE hI [] rfl rfl (z_recv hK hI hk0 rfl rfl)) rfl rfl hl.1 rfl (lv_room (Nat.le_of_ble_eq_true rfl)) dX3_wish_56 ⟨Nat.le_of_ble_eq_true rfl, Nat.le_of_ble_eq_true rfl⟩) (fun v9 hw10 => ?_)
    refine lv_iload_n hx hb dX3_wish_59 rfl (lv_at hl 0 rfl) ?_
    refine va_mmin hx hb (hml.trans hl.1.symm) hown (hts (.methodLink RX3 102 Lib.Math.min.name) (by decide +kernel)) (hts (.static Lib.Math.min.name) (by decide +kernel)) (hts (.initialized "java/lang/Math") (by decide +kernel)) (hts (.code Lib.Math.min.name Lib.Math.min.code 2 (some .int)) (by decide +kernel)) (Nat.le_of_ble_eq_true rfl) (Nat.le_of_ble_eq_true rfl) (Nat.le_of_ble_eq_true rfl) (Nat.le_of_ble_eq_true rfl) dX3_wish_60 ?_
    refine lv_topi (fun v11 e12 => ?_)
    refine va_mmax hx hb (hml.trans hl.1.symm) hown (hts (.methodLink RX3 108 Lib.Math.max.name) (by decide +kernel)) (hts (.static Lib.Math.max.name) (by decide +kernel)) (hts (.initialized "java/lang/Math") (by decide +kernel)) (hts (.code Lib.Math.max.name Lib.Math.max.code 2 (some .int)) (by decide +kernel)) (Nat.le_of_ble_eq_true rfl) (Nat.le_of_ble_eq_true rfl) (Nat.le_of_ble_eq_true rfl) (Nat.le_of_ble_eq_true rfl) dX3_wish_63 ?_
    refine lv_topi (fun v13 e14 => ?_)
    refine z_put (g' := g) (k := 5) (j := 5) hM hI hk0 rfl rfl hinX3 tyX3 tyX3_ok nmX3 rfl (by decide) (by decide +kernel) (fun _ h9 => h9) rfl rfl rfl rfl ⟨_, rfl, w_wish hw10 e12 e14⟩ (fun _ _ _ => rfl) dX3_wish_66 (fun H locs hI => ?_)
    exact W.vret hx hb hr (fun t ht hW => ⟨⟨(L, κ, g), rfl, rfl, z_end hK hI ht hW⟩, z_F hI ht⟩) (z_locs hI) dX3_wish_69
  refine lv_icmp_ne (tgt := 40) hx hb dX3_wish_11 (by decide) (fun c15 => ?_) (fun c15 => ?_)
  · skip
    refine lv_aload_n hx hb dX3_wish_40 rfl (lv_at hl 1 rfl) ?_
    refine z_get (k := 5) (j := 3) hM hI hk0 rfl rfl hinX3 rfl (by decide) (by decide +kernel) (fun _ h9 => h9) dX3_wish_41 (fun v16 hv17 => ?_)
    obtain ⟨i18, rfl, hf19⟩ := hv17
    refine lv_bipush (v := 119) hx hb dX3_wish_44 (by decide) ?_
    refine lv_icmp_ne (tgt := 53) hx hb dX3_wish_46 (by decide) (fun c20 => ?_) (fun c20 => ?_)
    · skip
      exact hL53 _ _ i3 hI ls (lv_sub hl [0, 1, 2] rfl)
    · skip
      refine lv_iconst (v := 3) hx hb dX3_wish_49 (by decide) ?_
      refine lv_iload_n hx hb dX3_wish_50 rfl (lv_at hl 2 rfl) ?_
      refine lv_imul hx hb dX3_wish_51 ?_
      refine lv_topi (fun v21 e22 => ?_)
      refine lv_istore_n (lv' := [(2, .int v21), (0, .ref p0), (1, .int p1)]) hx hb dX3_wish_52 rfl hl (by decide) rfl (fun ls hl => ?_)
      exact hL53 _ _ v21 hI ls (lv_sub hl [0, 1, 2] rfl)
  · skip
    refine lv_aload_n hx hb dX3_wish_14 rfl (lv_at hl 1 rfl) ?_
    refine z_get (k := 5) (j := 14) hM hI hk0 rfl rfl hinX3 rfl (by decide) (by decide +kernel) (fun _ h9 => h9) dX3_wish_15 (fun v23 hv24 => ?_)
    obtain ⟨i25, rfl, hz26⟩ := zv_b hv24
    refine lv_if_eq (tgt := 30) hx hb dX3_wish_18 (by decide) (fun c27 => ?_) (fun c27 => ?_)
    · skip
      refine lv_aload_n hx hb dX3_wish_30 rfl (lv_at hl 1 rfl) ?_
      refine z_get (k := 5) (j := 7) hM hI hk0 rfl rfl hinX3 rfl (by decide) (by decide +kernel) (fun _ h9 => h9) dX3_wish_31 (fun v28 hv29 => ?_)
      obtain ⟨i30, rfl, hb31, hb32⟩ := hv29
      have hb32 : i30.toInt < 8 := hb32
      refine lv_iconst (v := 1) hx hb dX3_wish_34 (by decide) ?_
      refine lv_isub hx hb dX3_wish_35 ?_
      refine lv_topi (fun v33 e34 => ?_)
      refine lv_istore_n (lv' := [(2, .int v33), (0, .ref p0), (1, .int p1)]) hx hb dX3_wish_36 rfl hl (by decide) rfl (fun ls hl => ?_)
      refine lv_goto (tgt := 53) hx hb dX3_wish_37 (by decide) ?_
      exact hL53 _ _ v33 hI ls (lv_sub hl [0, 1, 2] rfl)
    · skip
      refine lv_aload_n hx hb dX3_wish_21 rfl (lv_at hl 1 rfl) ?_
      refine z_get (k := 5) (j := 7) hM hI hk0 rfl rfl hinX3 rfl (by decide) (by decide +kernel) (fun _ h9 => h9) dX3_wish_22 (fun v35 hv36 => ?_)
      obtain ⟨i37, rfl, hb38, hb39⟩ := hv36
      have hb39 : i37.toInt < 8 := hb39
      refine lv_iconst (v := 1) hx hb dX3_wish_25 (by decide) ?_
      refine lv_iadd hx hb dX3_wish_26 ?_
      refine lv_topi (fun v40 e41 => ?_)
      refine lv_goto (tgt := 36) hx hb dX3_wish_27 (by decide) ?_
      refine lv_istore_n (lv' := [(2, .int v40), (0, .ref p0), (1, .int p1)]) hx hb dX3_wish_36 rfl hl (by decide) rfl (fun ls hl => ?_)
      refine lv_goto (tgt := 53) hx hb dX3_wish_37 (by decide) ?_
      exact hL53 _ _ v40 hI ls (lv_sub hl [0, 1, 2] rfl)

set_option maxHeartbeats 4000000 in
set_option maxRecDepth 100000 in
theorem c_X3_limit (l : Launch) (D : va_G) (tc : Nat → ClassId) (z0 : Nat) (L : List Nat) (κ : Nat → Nat) (g : Nat → Nat → Value) (sz : Nat) (p0 : Nat) (hk0 : κ p0 = 5) (p1 : Int32) (hr1 : 0 ≤ p1.toInt ∧ p1.toInt < 8) (p2 : Int32) (hc2 : fits .char (.int p2) = true) : Met l yX3_limit wsX3_limit ({ frames := 0, cells := 0, slots := 0, locals := 0 }) (zPc D tc z0 [.ref p0, .int p1, .int p2] [] (L, κ, g) sz) (va_Qv (fun (u : zS) => u = (L, κ, g)) (fun (u : zS) (t : State) => zB D tc (zA [] L sz) [] u t) (zA [] L sz)) 0 0 (zA [] L sz) := by
  refine Met.ofW (cc := cX3_limit) (maxL := 3) (ret := none) (by decide) rfl ?_
  intro p e s m args below meth c s₁ B hml hv
  obtain ⟨rfl, rfl, hK, hE, hI⟩ := hv.opn
  have hx := B.exec
  have hb := B.bytes
  have hr := B.returns
  have hts := atoms_spec (ws := wsX3_limit) B.pre
  have hown : s.vm.findClass RX3 = some m.cls := findClass_of_methodNamed B.named
  have hlocks := B.notSynchronized
  have hM : zM p s m c cX3_limit _ wsX3_limit RX3 D tc := ⟨hx, hb, hts, hown, hK⟩
  have hinX3 : ∀ w ∈ wsX30, w ∈ wsX3_limit := by decide +kernel
  have hl := lv_entry ([.ref p0, .int p1, .int p2]) (n := 3) (Nat.le_of_ble_eq_true rfl)
  rw [lg_entry_eq]
  generalize (lg_sl ([.ref p0, .int p1, .int p2]) ++ List.replicate (3 - (lg_sl ([.ref p0, .int p1, .int p2])).length) Slot.unset).toArray = ls at hl ⊢
  have hl : lv_has ls 3 [(0, .ref p0), (1, .int p1), (2, .int p2)] := hl
  refine lv_iload_n hx hb dX3_limit_0 rfl (lv_at hl 1 rfl) ?_
  refine lv_aload_n hx hb dX3_limit_1 rfl (lv_at hl 0 rfl) ?_
  refine z_get (k := 5) (j := 6) hM hI hk0 rfl rfl hinX3 rfl (by decide) (by decide +kernel) (fun _ h9 => h9) dX3_limit_2 (fun v1 hv2 => ?_)
  obtain ⟨i3, rfl, hb4, hb5⟩ := hv2
  have hb5 : i3.toInt < 8 := hb5
  refine lv_icmp_ge (tgt := 18) hx hb dX3_limit_5 (by decide) (fun c6 => ?_) (fun c6 => ?_)
  · skip
    exact W.vret hx hb hr (fun t ht hW => ⟨⟨(L, κ, g), rfl, rfl, z_end hK hI ht hW⟩, z_F hI ht⟩) (z_locs hI) dX3_limit_18
  · skip
    refine lv_aload_n hx hb dX3_limit_8 rfl (lv_at hl 0 rfl) ?_
    refine lv_iload_n hx hb dX3_limit_9 rfl (lv_at hl 1 rfl) ?_
    refine z_put (g' := g) (k := 5) (j := 6) hM hI hk0 rfl rfl hinX3 tyX3 tyX3_ok nmX3 rfl (by decide) (by decide +kernel) (fun _ h9 => h9) rfl rfl rfl rfl ⟨_, rfl, hr1.1, hr1.2⟩ (fun _ _ _ => rfl) dX3_limit_10 (fun H locs hI => ?_)
    refine lv_aload_n hx hb dX3_limit_13 rfl (lv_at hl 0 rfl) ?_
    refine lv_iload_n hx hb dX3_limit_14 rfl (lv_at hl 2 rfl) ?_
    refine z_put (g' := g) (k := 5) (j := 8) hM hI hk0 rfl rfl hinX3 tyX3 tyX3_ok nmX3 rfl (by decide) (by decide +kernel) (fun _ h9 => h9) rfl rfl (z_cn (by assumption)) (by assumption) ⟨_, rfl, (by assumption)⟩ (fun _ _ _ => rfl) dX3_limit_15 (fun H locs hI => ?_)
    exact W.vret hx hb hr (fun t ht hW => ⟨⟨(L, κ, g), rfl, rfl, z_end hK hI ht hW⟩, z_F hI ht⟩) (z_locs hI) dX3_limit_18

set_option maxHeartbeats 4000000 in
set_option maxRecDepth 100000 in
theorem c_X3_powerOfSpeed (l : Launch) (D : va_G) (tc : Nat → ClassId) (z0 : Nat) (L : List Nat) (κ : Nat → Nat) (g : Nat → Nat → Value) (sz : Nat) (p0 : Nat) (hk0 : κ p0 = 5) : Met l yX3_powerOfSpeed wsX3_powerOfSpeed ({ frames := 0, cells := 0, slots := 0, locals := 0 }) (zPc D tc z0 [.ref p0] [] (L, κ, g) sz) (vp_Si (fun r : Int32 => 0 ≤ r.toInt ∧ r.toInt < 413)) 0 0 (fun _ => False) := by
  refine Met.ofW (cc := cX3_powerOfSpeed) (maxL := 1) (ret := (some .int)) (by decide) rfl ?_
  intro p e s m args below meth c s₁ B hml hv
  obtain ⟨rfl, rfl, hK, hE, hI⟩ := hv.opn
  have hx := B.exec
  have hb := B.bytes
  have hr := B.returns
  have hts := atoms_spec (ws := wsX3_powerOfSpeed) B.pre
  have hown : s.vm.findClass RX3 = some m.cls := findClass_of_methodNamed B.named
  have hlocks := B.notSynchronized
  have hM : zM p s m c cX3_powerOfSpeed _ wsX3_powerOfSpeed RX3 D tc := ⟨hx, hb, hts, hown, hK⟩
  have hinX3 : ∀ w ∈ wsX30, w ∈ wsX3_powerOfSpeed := by decide +kernel
  have hinX4 : ∀ w ∈ wsX40, w ∈ wsX3_powerOfSpeed := by decide +kernel
  have hl := lv_entry ([.ref p0]) (n := 1) (Nat.le_of_ble_eq_true rfl)
  rw [lg_entry_eq]
  generalize (lg_sl ([.ref p0]) ++ List.replicate (1 - (lg_sl ([.ref p0])).length) Slot.unset).toArray = ls at hl ⊢
  have hl : lv_has ls 1 [(0, .ref p0)] := hl
  refine lv_aload_n hx hb dX3_powerOfSpeed_0 rfl (lv_at hl 0 rfl) ?_
  refine z_get (k := 5) (j := 7) hM hI hk0 rfl rfl hinX3 rfl (by decide) (by decide +kernel) (fun _ h9 => h9) dX3_powerOfSpeed_1 (fun v1 hv2 => ?_)
  obtain ⟨i3, rfl, hb4, hb5⟩ := hv2
  have hb5 : i3.toInt < 8 := hb5
  refine lv_aload_n hx hb dX3_powerOfSpeed_4 rfl (lv_at hl 0 rfl) ?_
  refine z_get (k := 5) (j := 1) hM hI hk0 rfl rfl hinX3 rfl (by decide) (by decide +kernel) (fun _ h9 => h9) dX3_powerOfSpeed_5 (fun v6 hv7 => ?_)
  obtain ⟨i8, rfl, hr9⟩ := hv7
  refine z_get (k := 6) (j := 0) hM hI hr9 rfl rfl hinX4 rfl (by decide) (by decide +kernel) (fun _ h9 => h9) dX3_powerOfSpeed_8 (fun v10 hv11 => ?_)
  obtain ⟨i12, rfl, hb13, hb14⟩ := hv11
  have hb14 : i12.toInt < 2945 := hb14
  refine lv_imul hx hb dX3_powerOfSpeed_11 ?_
  refine lv_topi (fun v15 e16 => ?_)
  refine lv_aload_n hx hb dX3_powerOfSpeed_12 rfl (lv_at hl 0 rfl) ?_
  refine z_get (k := 5) (j := 13) hM hI hk0 rfl rfl hinX3 rfl (by decide) (by decide +kernel) (fun _ h9 => h9) dX3_powerOfSpeed_13 (fun v17 hv18 => ?_)
  obtain ⟨i19, rfl, hz20⟩ := zv_b hv18
  refine lv_if_eq (tgt := 24) hx hb dX3_powerOfSpeed_16 (by decide) (fun c21 => ?_) (fun c21 => ?_)
  · skip
    refine lv_sipush (v := 200) hx hb dX3_powerOfSpeed_24 (by decide) ?_
    refine lv_idiv hx hb dX3_powerOfSpeed_27 (by decide) ?_
    refine lv_topi (fun v22 e23 => ?_)
    exact W.iret (v := v22) hx hb hr (fun t ht hW => ⟨_, rfl, (w_power ⟨hb4, hb5⟩ ⟨hb13, hb14⟩ (by decide) e16 e23), ht⟩) (fun q h => by cases h) dX3_powerOfSpeed_28
  · skip
    refine lv_bipush (v := 50) hx hb dX3_powerOfSpeed_19 (by decide) ?_
    refine lv_goto (tgt := 27) hx hb dX3_powerOfSpeed_21 (by decide) ?_
    refine lv_idiv hx hb dX3_powerOfSpeed_27 (by decide) ?_
    refine lv_topi (fun v24 e25 => ?_)
    exact W.iret (v := v24) hx hb hr (fun t ht hW => ⟨_, rfl, (w_power ⟨hb4, hb5⟩ ⟨hb13, hb14⟩ (by decide) e16 e25), ht⟩) (fun q h => by cases h) dX3_powerOfSpeed_28

set_option maxHeartbeats 4000000 in
set_option maxRecDepth 100000 in
theorem c_X4_goTowardsTarget (l : Launch) (D : va_G) (tc : Nat → ClassId) (z0 : Nat) (L : List Nat) (κ : Nat → Nat) (g : Nat → Nat → Value) (sz : Nat) (p0 : Nat) (hk0 : κ p0 = 6) : Met l yX4_goTowardsTarget wsX4_goTowardsTarget ({ frames := 1, cells := 0, slots := 0, locals := 22 }) (zPc D tc z0 [.ref p0] [] (L, κ, g) sz) (va_Qv (fun (u : zS) => u = (L, κ, g)) (fun (u : zS) (t : State) => zB D tc (zA [] L sz) [] u t) (zA [] L sz)) 0 0 (zA [] L sz) := by
  refine Met.ofW (cc := cX4_goTowardsTarget) (maxL := 3) (ret := none) (by decide) rfl ?_
  intro p e s m args below meth c s₁ B hml hv
  obtain ⟨rfl, rfl, hK, hE, hI⟩ := hv.opn
  have hx := B.exec
  have hb := B.bytes
  have hr := B.returns
  have hts := atoms_spec (ws := wsX4_goTowardsTarget) B.pre
  have hown : s.vm.findClass RX4 = some m.cls := findClass_of_methodNamed B.named
  have hlocks := B.notSynchronized
  have hM : zM p s m c cX4_goTowardsTarget _ wsX4_goTowardsTarget RX4 D tc := ⟨hx, hb, hts, hown, hK⟩
  have hinX4 : ∀ w ∈ wsX40, w ∈ wsX4_goTowardsTarget := by decide +kernel
  have hl := lv_entry ([.ref p0]) (n := 3) (Nat.le_of_ble_eq_true rfl)
  rw [lg_entry_eq]
  generalize (lg_sl ([.ref p0]) ++ List.replicate (3 - (lg_sl ([.ref p0])).length) Slot.unset).toArray = ls at hl ⊢
  have hl : lv_has ls 3 [(0, .ref p0)] := hl
  refine lv_aload_n hx hb dX4_goTowardsTarget_0 rfl (lv_at hl 0 rfl) ?_
  refine z_get (k := 6) (j := 0) hM hI hk0 rfl rfl hinX4 rfl (by decide) (by decide +kernel) (fun _ h9 => h9) dX4_goTowardsTarget_1 (fun v1 hv2 => ?_)
  obtain ⟨i3, rfl, hb4, hb5⟩ := hv2
  have hb5 : i3.toInt < 2945 := hb5
  refine lv_bipush (v := 20) hx hb dX4_goTowardsTarget_4 (by decide) ?_
  refine lv_iadd hx hb dX4_goTowardsTarget_6 ?_
  refine lv_topi (fun v6 e7 => ?_)
  refine lv_istore_n (lv' := [(1, .int v6), (0, .ref p0)]) hx hb dX4_goTowardsTarget_7 rfl hl (by decide) rfl (fun ls hl => ?_)
  refine lv_aload_n hx hb dX4_goTowardsTarget_8 rfl (lv_at hl 1 rfl) ?_
  refine z_get (k := 6) (j := 0) hM hI hk0 rfl rfl hinX4 rfl (by decide) (by decide +kernel) (fun _ h9 => h9) dX4_goTowardsTarget_9 (fun v8 hv9 => ?_)
  obtain ⟨i10, rfl, hb11, hb12⟩ := hv9
  have hb12 : i10.toInt < 2945 := hb12
  refine lv_bipush (v := 20) hx hb dX4_goTowardsTarget_12 (by decide) ?_
  refine lv_isub hx hb dX4_goTowardsTarget_14 ?_
  refine lv_topi (fun v13 e14 => ?_)
  refine lv_istore_n (lv' := [(2, .int v13), (1, .int v6), (0, .ref p0)]) hx hb dX4_goTowardsTarget_15 rfl hl (by decide) rfl (fun ls hl => ?_)
  refine lv_aload_n hx hb dX4_goTowardsTarget_16 rfl (lv_at hl 2 rfl) ?_
  refine lv_iload_n hx hb dX4_goTowardsTarget_17 rfl (lv_at hl 0 rfl) ?_
  refine lv_iload_n hx hb dX4_goTowardsTarget_18 rfl (lv_at hl 1 rfl) ?_
  refine lv_aload_n hx hb dX4_goTowardsTarget_19 rfl (lv_at hl 2 rfl) ?_
  refine z_get (k := 6) (j := 1) hM hI hk0 rfl rfl hinX4 rfl (by decide) (by decide +kernel) (fun _ h9 => h9) dX4_goTowardsTarget_20 (fun v15 hv16 => ?_)
  obtain ⟨i17, rfl, hb18, hb19⟩ := hv16
  have hb19 : i17.toInt < 2945 := hb19
  refine va_mmin hx hb (hml.trans hl.1.symm) hown (hts (.methodLink RX4 18 Lib.Math.min.name) (by decide +kernel)) (hts (.static Lib.Math.min.name) (by decide +kernel)) (hts (.initialized "java/lang/Math") (by decide +kernel)) (hts (.code Lib.Math.min.name Lib.Math.min.code 2 (some .int)) (by decide +kernel)) (Nat.le_of_ble_eq_true rfl) (Nat.le_of_ble_eq_true rfl) (Nat.le_of_ble_eq_true rfl) (Nat.le_of_ble_eq_true rfl) dX4_goTowardsTarget_23 ?_
  refine lv_topi (fun v20 e21 => ?_)
  refine va_mmax hx hb (hml.trans hl.1.symm) hown (hts (.methodLink RX4 24 Lib.Math.max.name) (by decide +kernel)) (hts (.static Lib.Math.max.name) (by decide +kernel)) (hts (.initialized "java/lang/Math") (by decide +kernel)) (hts (.code Lib.Math.max.name Lib.Math.max.code 2 (some .int)) (by decide +kernel)) (Nat.le_of_ble_eq_true rfl) (Nat.le_of_ble_eq_true rfl) (Nat.le_of_ble_eq_true rfl) (Nat.le_of_ble_eq_true rfl) dX4_goTowardsTarget_26 ?_
  refine lv_topi (fun v22 e23 => ?_)
  refine z_put (g' := g) (k := 6) (j := 0) hM hI hk0 rfl rfl hinX4 tyX4 tyX4_ok nmX4 rfl (by decide) (by decide +kernel) (fun _ h9 => h9) rfl rfl rfl rfl ⟨_, rfl, w_mv ⟨hb4, hb5⟩ ⟨hb11, hb12⟩ ⟨hb18, hb19⟩ e7 e14 e21 e23⟩ (fun _ _ _ => rfl) dX4_goTowardsTarget_29 (fun H locs hI => ?_)
  exact W.vret hx hb hr (fun t ht hW => ⟨⟨(L, κ, g), rfl, rfl, z_end hK hI ht hW⟩, z_F hI ht⟩) (z_locs hI) dX4_goTowardsTarget_32

set_option maxHeartbeats 4000000 in
set_option maxRecDepth 100000 in
theorem c_X7_workAt (l : Launch) (D : va_G) (tc : Nat → ClassId) (z0 : Nat) (L : List Nat) (κ : Nat → Nat) (g : Nat → Nat → Value) (sz : Nat) (p0 : Nat) (hk0 : κ p0 = 9) (p1 : Int32) : Met l yX7_workAt wsX7_workAt ({ frames := 1, cells := 0, slots := 0, locals := 22 }) (zPc D tc z0 [.ref p0, .int p1] [] (L, κ, g) sz) (va_Qv (fun (u : zS) => u = (L, κ, g)) (fun (u : zS) (t : State) => zB D tc (zA [] L sz) [] u t) (zA [] L sz)) 0 0 (zA [] L sz) := by
  refine Met.ofW (cc := cX7_workAt) (maxL := 3) (ret := none) (by decide) rfl ?_
  intro p e s m args below meth c s₁ B hml hv
  obtain ⟨rfl, rfl, hK, hE, hI⟩ := hv.opn
  have hx := B.exec
  have hb := B.bytes
  have hr := B.returns
  have hts := atoms_spec (ws := wsX7_workAt) B.pre
  have hown : s.vm.findClass RX7 = some m.cls := findClass_of_methodNamed B.named
  have hlocks := B.notSynchronized
  have hM : zM p s m c cX7_workAt _ wsX7_workAt RX7 D tc := ⟨hx, hb, hts, hown, hK⟩
  have hinX7 : ∀ w ∈ wsX70, w ∈ wsX7_workAt := by decide +kernel
  have hl := lv_entry ([.ref p0, .int p1]) (n := 3) (Nat.le_of_ble_eq_true rfl)
  rw [lg_entry_eq]
  generalize (lg_sl ([.ref p0, .int p1]) ++ List.replicate (3 - (lg_sl ([.ref p0, .int p1])).length) Slot.unset).toArray = ls at hl ⊢
  have hl : lv_has ls 3 [(0, .ref p0), (1, .int p1)] := hl
  refine lv_iconst (v := 1) hx hb dX7_workAt_0 (by decide) ?_
  refine lv_iload_n hx hb dX7_workAt_1 rfl (lv_at hl 1 rfl) ?_
  refine lv_bipush (v := 10) hx hb dX7_workAt_2 (by decide) ?_
  refine lv_aload_n hx hb dX7_workAt_4 rfl (lv_at hl 0 rfl) ?_
  refine z_get (k := 9) (j := 0) hM hI hk0 rfl rfl hinX7 rfl (by decide) (by decide +kernel) (fun _ h9 => h9) dX7_workAt_5 (fun v1 hv2 => ?_)
  obtain ⟨i3, rfl⟩ := hv2
  refine lv_isub hx hb dX7_workAt_8 ?_
  refine lv_topi (fun v4 e5 => ?_)
  refine lv_imul hx hb dX7_workAt_9 ?_
  refine lv_topi (fun v6 e7 => ?_)
  refine lv_bipush (v := 10) hx hb dX7_workAt_10 (by decide) ?_
  refine lv_idiv hx hb dX7_workAt_12 (by decide) ?_
  refine lv_topi (fun v8 e9 => ?_)
  refine va_mmax hx hb (hml.trans hl.1.symm) hown (hts (.methodLink RX7 22 Lib.Math.max.name) (by decide +kernel)) (hts (.static Lib.Math.max.name) (by decide +kernel)) (hts (.initialized "java/lang/Math") (by decide +kernel)) (hts (.code Lib.Math.max.name Lib.Math.max.code 2 (some .int)) (by decide +kernel)) (Nat.le_of_ble_eq_true rfl) (Nat.le_of_ble_eq_true rfl) (Nat.le_of_ble_eq_true rfl) (Nat.le_of_ble_eq_true rfl) dX7_workAt_13 ?_
  refine lv_topi (fun v10 e11 => ?_)
  refine lv_istore_n (lv' := [(2, .int v10), (0, .ref p0), (1, .int p1)]) hx hb dX7_workAt_16 rfl hl (by decide) rfl (fun ls hl => ?_)
  refine lv_aload_n hx hb dX7_workAt_17 rfl (lv_at hl 1 rfl) ?_
  refine z_get (k := 9) (j := 3) hM hI hk0 rfl rfl hinX7 rfl (by decide) (by decide +kernel) (fun _ h9 => h9) dX7_workAt_18 (fun v12 hv13 => ?_)
  obtain ⟨i14, rfl⟩ := hv13
  have hL38 : ∀ (H : Heap) (locs : List Loc) (x15 : Int32)    (hI : zI D tc (zA [] L s.heap.size) s.heap [] L κ g H locs) (ls : Array Slot) (hl : lv_has ls 3 [(2, .int x15), (0, .ref p0), (1, .int p1)]), W p l e (headSpec wsX7_workAt ({ frames := 1, cells := 0, slots := 0, locals := 22 })).room s m ([.ref p0, .int p1] : List Value).toArray below meth c H locs 0 0 (MQ below (va_Qv (fun (u : zS) => u = (L, κ, g)) (fun (u : zS) (t : State) => zB D tc (zA [] L s.heap.size) [] u t) (zA [] L s.heap.size)) ([.ref p0, .int p1] : List Value).toArray s 0 0 (zA [] L s.heap.size)) (F0 m 38 ls []) := by
    intro H locs x15 hI ls hl
    refine lv_aload_n hx hb dX7_workAt_38 rfl (lv_at hl 1 rfl) ?_
    refine lv_dup hx hb dX7_workAt_39 rfl ?_
    refine z_get (k := 9) (j := 2) hM hI hk0 rfl rfl hinX7 rfl (by decide) (by decide +kernel) (fun _ h9 => h9) dX7_workAt_40 (fun v16 hv17 => ?_)
    obtain ⟨i18, rfl⟩ := hv17
    refine lv_iload_n hx hb dX7_workAt_43 rfl (lv_at hl 0 rfl) ?_
    refine lv_aload_n hx hb dX7_workAt_44 rfl (lv_at hl 1 rfl) ?_
    refine z_get (k := 9) (j := 2) hM hI hk0 rfl rfl hinX7 rfl (by decide) (by decide +kernel) (fun _ h9 => h9) dX7_workAt_45 (fun v19 hv20 => ?_)
    obtain ⟨i21, rfl⟩ := hv20
    refine va_mmin hx hb (hml.trans hl.1.symm) hown (hts (.methodLink RX7 28 Lib.Math.min.name) (by decide +kernel)) (hts (.static Lib.Math.min.name) (by decide +kernel)) (hts (.initialized "java/lang/Math") (by decide +kernel)) (hts (.code Lib.Math.min.name Lib.Math.min.code 2 (some .int)) (by decide +kernel)) (Nat.le_of_ble_eq_true rfl) (Nat.le_of_ble_eq_true rfl) (Nat.le_of_ble_eq_true rfl) (Nat.le_of_ble_eq_true rfl) dX7_workAt_48 ?_
    refine lv_topi (fun v22 e23 => ?_)
    refine lv_isub hx hb dX7_workAt_51 ?_
    refine lv_topi (fun v24 e25 => ?_)
    refine z_put (g' := g) (k := 9) (j := 2) hM hI hk0 rfl rfl hinX7 tyX7 tyX7_ok nmX7 rfl (by decide) (by decide +kernel) (fun _ h9 => h9) rfl rfl rfl rfl ⟨_, rfl⟩ (fun _ _ _ => rfl) dX7_workAt_52 (fun H locs hI => ?_)
    exact W.vret hx hb hr (fun t ht hW => ⟨⟨(L, κ, g), rfl, rfl, z_end hK hI ht hW⟩, z_F hI ht⟩) (z_locs hI) dX7_workAt_55
  refine lv_if_le (tgt := 38) hx hb dX7_workAt_21 (by decide) (fun c26 => ?_) (fun c26 => ?_)
  · skip
    exact hL38 _ _ v10 hI ls (lv_sub hl [0, 1, 2] rfl)
  · skip
    refine lv_iload_n hx hb dX7_workAt_24 rfl (lv_at hl 0 rfl) ?_
    refine lv_iconst (v := 2) hx hb dX7_workAt_25 (by decide) ?_
    refine lv_idiv hx hb dX7_workAt_26 (by decide) ?_
    refine lv_topi (fun v27 e28 => ?_)
    refine lv_istore_n (lv' := [(2, .int v27), (0, .ref p0), (1, .int p1)]) hx hb dX7_workAt_27 rfl hl (by decide) rfl (fun ls hl => ?_)
    refine lv_aload_n hx hb dX7_workAt_28 rfl (lv_at hl 1 rfl) ?_
    refine lv_dup hx hb dX7_workAt_29 rfl ?_
    refine z_get (k := 9) (j := 3) hM hI hk0 rfl rfl hinX7 rfl (by decide) (by decide +kernel) (fun _ h9 => h9) dX7_workAt_30 (fun v29 hv30 => ?_)
    obtain ⟨i31, rfl⟩ := hv30
    refine lv_iconst (v := 1) hx hb dX7_workAt_33 (by decide) ?_
    refine lv_isub hx hb dX7_workAt_34 ?_
    refine lv_topi (fun v32 e33 => ?_)
    refine z_put (g' := g) (k := 9) (j := 3) hM hI hk0 rfl rfl hinX7 tyX7 tyX7_ok nmX7 rfl (by decide) (by decide +kernel) (fun _ h9 => h9) rfl rfl rfl rfl ⟨_, rfl⟩ (fun _ _ _ => rfl) dX7_workAt_35 (fun H locs hI => ?_)
    exact hL38 _ _ v27 hI ls (lv_sub hl [0, 1, 2] rfl)

set_option maxHeartbeats 4000000 in
set_option maxRecDepth 100000 in
theorem c_X5_beginToHold (l : Launch) (D : va_G) (tc : Nat → ClassId) (z0 : Nat) (L : List Nat) (κ : Nat → Nat) (g : Nat → Nat → Value) (sz : Nat) (p0 : Nat) (hk0 : κ p0 = 7) : Met l yX5_beginToHold wsX5_beginToHold ({ frames := 0, cells := 0, slots := 0, locals := 0 }) (zPc D tc z0 [.ref p0] [] (L, κ, g) sz) (va_Qv (fun (u : zS) => u = (L, κ, g)) (fun (u : zS) (t : State) => zB D tc (zA [] L sz) [] u t) (zA [] L sz)) 0 0 (zA [] L sz) := by
  refine Met.ofW (cc := cX5_beginToHold) (maxL := 1) (ret := none) (by decide) rfl ?_
  intro p e s m args below meth c s₁ B hml hv
  obtain ⟨rfl, rfl, hK, hE, hI⟩ := hv.opn
  have hx := B.exec
  have hb := B.bytes
  have hr := B.returns
  have hts := atoms_spec (ws := wsX5_beginToHold) B.pre
  have hown : s.vm.findClass RX5 = some m.cls := findClass_of_methodNamed B.named
  have hlocks := B.notSynchronized
  have hM : zM p s m c cX5_beginToHold _ wsX5_beginToHold RX5 D tc := ⟨hx, hb, hts, hown, hK⟩
  have hinX5 : ∀ w ∈ wsX50, w ∈ wsX5_beginToHold := by decide +kernel
  have hl := lv_entry ([.ref p0]) (n := 1) (Nat.le_of_ble_eq_true rfl)
  rw [lg_entry_eq]
  generalize (lg_sl ([.ref p0]) ++ List.replicate (1 - (lg_sl ([.ref p0])).length) Slot.unset).toArray = ls at hl ⊢
  have hl : lv_has ls 1 [(0, .ref p0)] := hl
  refine lv_aload_n hx hb dX5_beginToHold_0 rfl (lv_at hl 0 rfl) ?_
  refine z_get (k := 7) (j := 4) hM hI hk0 rfl rfl hinX5 rfl (by decide) (by decide +kernel) (fun _ h9 => h9) dX5_beginToHold_1 (fun v1 hv2 => ?_)
  obtain ⟨i3, rfl⟩ := hv2
  refine lv_if_le (tgt := 28) hx hb dX5_beginToHold_4 (by decide) (fun c4 => ?_) (fun c4 => ?_)
  · skip
    exact W.vret hx hb hr (fun t ht hW => ⟨⟨(L, κ, g), rfl, rfl, z_end hK hI ht hW⟩, z_F hI ht⟩) (z_locs hI) dX5_beginToHold_28
  · skip
    refine lv_aload_n hx hb dX5_beginToHold_7 rfl (lv_at hl 0 rfl) ?_
    refine lv_aload_n hx hb dX5_beginToHold_8 rfl (lv_at hl 0 rfl) ?_
    refine z_get (k := 7) (j := 4) hM hI hk0 rfl rfl hinX5 rfl (by decide) (by decide +kernel) (fun _ h9 => h9) dX5_beginToHold_9 (fun v5 hv6 => ?_)
    obtain ⟨i7, rfl⟩ := hv6
    refine z_put (g' := g) (k := 7) (j := 2) hM hI hk0 rfl rfl hinX5 tyX5 tyX5_ok nmX5 rfl (by decide) (by decide +kernel) (fun _ h9 => h9) rfl rfl rfl rfl ⟨_, rfl⟩ (fun _ _ _ => rfl) dX5_beginToHold_12 (fun H locs hI => ?_)
    refine lv_aload_n hx hb dX5_beginToHold_15 rfl (lv_at hl 0 rfl) ?_
    refine lv_aload_n hx hb dX5_beginToHold_16 rfl (lv_at hl 0 rfl) ?_
    refine z_get (k := 7) (j := 5) hM hI hk0 rfl rfl hinX5 rfl (by decide) (by decide +kernel) (fun _ h9 => h9) dX5_beginToHold_17 (fun v8 hv9 => ?_)
    obtain ⟨i10, rfl, hb11, hb12⟩ := hv9
    have hb12 : i10.toInt < 8 := hb12
    refine z_put (g' := g) (k := 7) (j := 3) hM hI hk0 rfl rfl hinX5 tyX5 tyX5_ok nmX5 rfl (by decide) (by decide +kernel) (fun _ h9 => h9) rfl rfl rfl rfl ⟨_, rfl, hb11, hb12⟩ (fun _ _ _ => rfl) dX5_beginToHold_20 (fun H locs hI => ?_)
    refine lv_aload_n hx hb dX5_beginToHold_23 rfl (lv_at hl 0 rfl) ?_
    refine lv_iconst (v := 0) hx hb dX5_beginToHold_24 (by decide) ?_
    refine z_put (g' := g) (k := 7) (j := 4) hM hI hk0 rfl rfl hinX5 tyX5 tyX5_ok nmX5 rfl (by decide) (by decide +kernel) (fun _ h9 => h9) rfl rfl rfl rfl ⟨_, rfl⟩ (fun _ _ _ => rfl) dX5_beginToHold_25 (fun H locs hI => ?_)
    exact W.vret hx hb hr (fun t ht hW => ⟨⟨(L, κ, g), rfl, rfl, z_end hK hI ht hW⟩, z_F hI ht⟩) (z_locs hI) dX5_beginToHold_28

