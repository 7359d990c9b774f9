set_option maxHeartbeats 4000000 in
set_option maxRecDepth 100000 in
theorem c_X8_wear (l : Launch) (hnt : l.stackTraces = false) (D : va_G) (tc : Nat → ClassId) (z0 : Nat) (L : List Nat) (κ : Nat → Nat) (g : Nat → Nat → Value) (sz : Nat) (P : Nat → Nat) (hk0 : κ (P 0) = 10) (p1 : Int32) (p2 : Int32) (cf b a q : Nat → Nat) (nc t9 k9 : Nat) (hJ : zSd42 κ g P cf b a q nc t9 k9) : vx_Met l yX8_wear wsX8_wear ({ frames := 7, cells := 2, slots := 12, locals := 120 }) (zPc D tc z0 [.ref ((P 0)), .int p1, .int p2] [] (L, κ, g) sz) (va_Qi (fun (r : Int32) (u : zS) => ∃ g2 : Nat → Nat → Value, u = (L, κ, g2) ∧ zSd42 κ g2 P cf b a q nc t9 (k9 + 1) ∧ zOut κ (P 0) g g2) (fun (u : zS) (t : State) => zB D tc (zA [] L sz) [] u t) (zA [] L sz)) (vx_X (fun u : zS => True) (fun (E : String) (u : zS) (t : State) => (((E = "java/lang/IndexOutOfBoundsException" ∨ E = "java/lang/IllegalArgumentException" ∨ E = "java/lang/IllegalStateException") ∧ u = (L, κ, g))) ∧ zB D tc (zA [] L sz) [] u t) (zA [] L sz)) 2 12 (zA [] L sz) := by
  refine vx_ofW (cc := cX8_wear) (maxL := 4) (ret := (some .int)) (by decide) rfl ?_
  intro p e s m args below meth c s₁ B hml hxt hv
  obtain ⟨rfl, rfl, hK, hE, hI⟩ := hv.opn
  have hx := B.exec
  have hb := B.bytes
  have hr := B.returns
  have hts := atoms_spec (ws := wsX8_wear) B.pre
  have hown : s.vm.findClass RX8 = some m.cls := findClass_of_methodNamed B.named
  have hlocks := B.notSynchronized
  have hout : ∀ (i : Nat), ∀ x ∈ c.exceptionTable.toList, covers x i = false := fun i x hx9 => (hxt x hx9).elim
  have hM : zM p s m c cX8_wear _ wsX8_wear RX8 D tc := ⟨hx, hb, hts, hown, hK⟩
  have hinX3 : ∀ w ∈ wsX30, w ∈ wsX8_wear := by decide +kernel
  have hl := lv_entry ([.ref ((P 0)), .int p1, .int p2]) (n := 4) (Nat.le_of_ble_eq_true rfl)
  rw [lg_entry_eq]
  generalize (lg_sl ([.ref ((P 0)), .int p1, .int p2]) ++ List.replicate (4 - (lg_sl ([.ref ((P 0)), .int p1, .int p2])).length) Slot.unset).toArray = ls at hl ⊢
  have hl : lv_has ls 4 [(0, .ref ((P 0))), (1, .int p1), (2, .int p2)] := hl
  have hC : g (P 0) 1 = .ref (P 1) := hJ.1.2.1.1
  refine lv_aload_n hx hb dX8_wear_0 rfl (lv_at hl 0 rfl) ?_
  refine lv_iload_n hx hb dX8_wear_1 rfl (lv_at hl 1 rfl) ?_
  refine z_xq hI (vx_runV (As := [.int p1]) (rest := []) ⟨hx, hb, hml, hown, hts⟩ (c_X8_coreAt l hnt _ _ _ _ _ _ _ ((P 0)) hk0 p1 (P 1) hC) (cwV 1 hts gX8_wear_X8_coreAt rfl rfl rfl (by decide +kernel) ⟨Nat.le_of_ble_eq_true rfl, Nat.le_of_ble_eq_true rfl⟩) (z_preV hK hE hI [] rfl rfl (z_recv hK hI hk0 rfl rfl)) rfl rfl hl.1 rfl (lv_room (Nat.le_of_ble_eq_true rfl)) dX8_wear_2 ⟨Nat.le_of_ble_eq_true rfl, Nat.le_of_ble_eq_true rfl⟩) (fun E ce q9 u H locs hw hI he1 he2 he3 => ?_) (fun v1 u H locs hw2 hI => ?_)
  · obtain ⟨hxp, rfl⟩ := hw
    exact z_pass hK hI hout hlocks he1 he2 he3 ⟨Or.inl hxp.1, rfl⟩ (Nat.le_of_ble_eq_true rfl) (Nat.le_of_ble_eq_true rfl)
  obtain ⟨r3, rfl, hr4, hq5, rfl⟩ := hw2
  show W p l e (headSpec wsX8_wear ({ frames := 7, cells := 2, slots := 12, locals := 120 })).room s m ([.ref ((P 0)), .int p1, .int p2] : List Value).toArray below meth c _ _ 1 6 (vx_MQ below (va_Qi (fun (r : Int32) (u : zS) => ∃ g2 : Nat → Nat → Value, u = (L, κ, g2) ∧ zSd42 κ g2 P cf b a q nc t9 (k9 + 1) ∧ zOut κ (P 0) g g2) (fun (u : zS) (t : State) => zB D tc (zA [] L s.heap.size) [] u t) (zA [] L s.heap.size)) (vx_X (fun u : zS => True) (fun (E : String) (u : zS) (t : State) => (((E = "java/lang/IndexOutOfBoundsException" ∨ E = "java/lang/IllegalArgumentException" ∨ E = "java/lang/IllegalStateException") ∧ u = (L, κ, g))) ∧ zB D tc (zA [] L s.heap.size) [] u t) (zA [] L s.heap.size)) ([.ref ((P 0)), .int p1, .int p2] : List Value).toArray s 2 12 (zA [] L s.heap.size)) (F0 m 5 ls (.ref r3 :: []))
  obtain ⟨i, hin, hci⟩ := hJ.1.which hq5.1 hq5.2
  have hW5 := hJ.2.2.2.2.2.1 i hin
  rw [hci] at hW5
  refine lv_astore_n (lv' := [(3, .ref r3), (0, .ref ((P 0))), (1, .int p1), (2, .int p2)]) hx hb dX8_wear_5 rfl hl (by decide) rfl (fun ls hl => ?_)
  refine lv_iconst (v := 1) hx hb dX8_wear_6 (by decide) ?_
  refine lv_iload_n hx hb dX8_wear_7 rfl (lv_at hl 3 rfl) ?_
  refine lv_sipush (v := 999) hx hb dX8_wear_8 (by decide) ?_
  refine vp_callSi (W.runS (As := [.int 1, .int p2, .int 999]) (rest := []) ⟨hx, hb, hml, hown, hts⟩ (c_X8_isFrom l _ _ _ _ _ _ _ 1 p2 999) (va_cwS 3 hts gX8_wear_X8_isFrom rfl rfl rfl (by decide +kernel) ⟨Nat.le_of_ble_eq_true rfl, Nat.le_of_ble_eq_true rfl⟩) (z_pre hK hE hI [] rfl rfl) rfl rfl hl.1 rfl (lv_room (Nat.le_of_ble_eq_true rfl)) dX8_wear_11 ⟨Nat.le_of_ble_eq_true rfl, Nat.le_of_ble_eq_true rfl⟩) (fun v6 hw7 => ?_)
  refine lv_if_ne (tgt := 27) hx hb dX8_wear_14 (by decide) (fun c8 => ?_) (fun c8 => ?_)
  · skip
    refine lv_aload_n hx hb dX8_wear_27 rfl (lv_at hl 0 rfl) ?_
    refine z_get (k := 5) (j := 19) hM hI hr4 rfl rfl hinX3 rfl (by decide) (by decide +kernel) (fun _ h9 => h9) dX8_wear_28 (fun v9 hv10 => ?_)
    obtain ⟨hg12, i11, rfl⟩ := hv10
    obtain ⟨w1, hw1, hb1⟩ := hW5
    obtain rfl : nI w1 = i11 := Value.int.inj (hw1.symm.trans hg12.symm)
    refine lv_iload_n hx hb dX8_wear_31 rfl (lv_at hl 3 rfl) ?_
    refine lv_iadd hx hb dX8_wear_32 ?_
    refine lv_topi (fun v13 e14 => ?_)
    refine lv_sipush (v := 9999) hx hb dX8_wear_33 (by decide) ?_
    refine lv_icmp_le (tgt := 50) hx hb dX8_wear_36 (by decide) (fun c15 => ?_) (fun c15 => ?_)
    · skip
      refine lv_aload_n hx hb dX8_wear_50 rfl (lv_at hl 0 rfl) ?_
      refine lv_dup hx hb dX8_wear_51 rfl ?_
      refine z_get (k := 5) (j := 19) hM hI hr4 rfl rfl hinX3 rfl (by decide) (by decide +kernel) (fun _ h9 => h9) dX8_wear_52 (fun v16 hv17 => ?_)
      obtain ⟨hg19, i18, rfl⟩ := hv17
      obtain rfl : nI w1 = i18 := Value.int.inj (hw1.symm.trans hg19.symm)
      refine lv_iload_n hx hb dX8_wear_55 rfl (lv_at hl 3 rfl) ?_
      refine lv_iadd hx hb dX8_wear_56 ?_
      refine lv_topi (fun v20 e21 => ?_)
      refine z_put (g' := (zup g r3 19 (.int v20))) (k := 5) (j := 19) hM hI hr4 rfl rfl hinX3 tyX3 tyX3_ok nmX3 rfl (by decide) (by decide +kernel) (fun _ h9 => h9) rfl rfl rfl rfl ⟨(zup_self _ _ _ _).symm, _, rfl⟩ (fun b i h => zup_ne h) dX8_wear_57 (fun H locs hI => ?_)
      refine lv_aload_n hx hb dX8_wear_60 rfl (lv_at hl 0 rfl) ?_
      refine z_get (k := 5) (j := 19) hM hI hr4 rfl rfl hinX3 rfl (by decide) (by decide +kernel) (fun _ h9 => h9) dX8_wear_61 (fun v22 hv23 => ?_)
      obtain ⟨hg25, i24, rfl⟩ := hv23
      refine vx_ret ?_
      refine W.widen (k := 2) (n := 12) (Nat.le_of_ble_eq_true rfl) (Nat.le_of_ble_eq_true rfl) ?_
      exact W.iret (v := i24) hx hb hr (fun t ht hW => ⟨⟨_, (L, κ, (zup g r3 19 (.int v20))), rfl, (by obtain ⟨w2, hw2, hb2⟩ := z_wear (t := t9) hb1 hJ.2.2.2.2.1 (Classical.not_not.mp (fun h => c8 (hw7.mpr h))) e14 c15 e21; obtain ⟨hJ2, ho2⟩ := hJ.wear (g2 := zup g r3 19 (.int v20)) hr4 (fun b j h => zup_ne h) (by rw [zup_self, hw2]) hb2; exact ⟨_, rfl, hJ2.more, ho2⟩), z_end hK hI ht hW⟩, z_F hI ht⟩) (z_locs hI) dX8_wear_64
    · skip
      refine z_throwW (ik := 81) (is := 266) (ic := 85) (cls := "java/lang/IllegalStateException") (text := "too much wear") (L0 := L) ["java/lang/RuntimeException", "java/lang/Exception"] (by decide) hM hE hI hnt (by decide) (by decide +kernel) (by decide +kernel) (by decide +kernel) (by decide +kernel) (by decide +kernel) (by decide +kernel) (hl.1.trans hml.symm) dX8_wear_39 dX8_wear_42 dX8_wear_43 dX8_wear_46 dX8_wear_49 hout (Nat.le_of_ble_eq_true rfl) (Nat.le_of_ble_eq_true rfl) (Nat.le_of_ble_eq_true rfl) (Nat.le_of_ble_eq_true rfl) hlocks ⟨by first | exact Or.inl rfl | exact Or.inr (Or.inl rfl) | exact Or.inr (Or.inr rfl), rfl⟩ (Nat.le_of_ble_eq_true rfl) (Nat.le_of_ble_eq_true rfl)
  · skip
    refine z_throw (ik := 71) (is := 95) (ic := 75) (cls := "java/lang/IllegalArgumentException") (text := "a number out of range") (L0 := L) ["java/lang/RuntimeException", "java/lang/Exception"] (by decide) hM hE hI hnt (by decide) (by decide +kernel) (by decide +kernel) (by decide +kernel) (by decide +kernel) (by decide +kernel) (by decide +kernel) (hl.1.trans hml.symm) dX8_wear_17 dX8_wear_20 dX8_wear_21 dX8_wear_23 dX8_wear_26 hout (Nat.le_of_ble_eq_true rfl) (Nat.le_of_ble_eq_true rfl) (Nat.le_of_ble_eq_true rfl) (Nat.le_of_ble_eq_true rfl) hlocks ⟨by first | exact Or.inl rfl | exact Or.inr (Or.inl rfl) | exact Or.inr (Or.inr rfl), rfl⟩ (Nat.le_of_ble_eq_true rfl) (Nat.le_of_ble_eq_true rfl)

set_option maxHeartbeats 4000000 in
set_option maxRecDepth 100000 in
theorem c_X8_heatUp (l : Launch) (hnt : l.stackTraces = false) (D : va_G) (tc : Nat → ClassId) (z0 : Nat) (L : List Nat) (κ : Nat → Nat) (g : Nat → Nat → Value) (sz : Nat) (P : Nat → Nat) (hk0 : κ (P 0) = 10) (p1 : Int32) (p2 : Int32) (cf b a q : Nat → Nat) (nc t9 k9 : Nat) (hJ : zSd42 κ g P cf b a q nc t9 k9) (hk9 : k9 ≤ 512) : vx_Met l yX8_heatUp wsX8_heatUp ({ frames := 7, cells := 2, slots := 12, locals := 120 }) (zPc D tc z0 [.ref ((P 0)), .int p1, .int p2] [] (L, κ, g) sz) (va_Qi (fun (r : Int32) (u : zS) => ∃ g2 : Nat → Nat → Value, u = (L, κ, g2) ∧ zSd42 κ g2 P cf b a q nc t9 (k9 + 1) ∧ zOut κ (P 0) g g2) (fun (u : zS) (t : State) => zB D tc (zA [] L sz) [] u t) (zA [] L sz)) (vx_X (fun u : zS => True) (fun (E : String) (u : zS) (t : State) => (((E = "java/lang/IndexOutOfBoundsException" ∨ E = "java/lang/IllegalArgumentException" ∨ E = "java/lang/IllegalStateException") ∧ u = (L, κ, g))) ∧ zB D tc (zA [] L sz) [] u t) (zA [] L sz)) 2 12 (zA [] L sz) := by
  refine vx_ofW (cc := cX8_heatUp) (maxL := 4) (ret := (some .int)) (by decide) rfl ?_
  intro p e s m args below meth c s₁ B hml hxt hv
  obtain ⟨rfl, rfl, hK, hE, hI⟩ := hv.opn
  have hx := B.exec
  have hb := B.bytes
  have hr := B.returns
  have hts := atoms_spec (ws := wsX8_heatUp) B.pre
  have hown : s.vm.findClass RX8 = some m.cls := findClass_of_methodNamed B.named
  have hlocks := B.notSynchronized
  have hout : ∀ (i : Nat), ∀ x ∈ c.exceptionTable.toList, covers x i = false := fun i x hx9 => (hxt x hx9).elim
  have hM : zM p s m c cX8_heatUp _ wsX8_heatUp RX8 D tc := ⟨hx, hb, hts, hown, hK⟩
  have hinX3 : ∀ w ∈ wsX30, w ∈ wsX8_heatUp := by decide +kernel
  have hinX1 : ∀ w ∈ wsX10, w ∈ wsX8_heatUp := by decide +kernel
  have hinX8 : ∀ w ∈ wsX80, w ∈ wsX8_heatUp := by decide +kernel
  have hl := lv_entry ([.ref ((P 0)), .int p1, .int p2]) (n := 4) (Nat.le_of_ble_eq_true rfl)
  rw [lg_entry_eq]
  generalize (lg_sl ([.ref ((P 0)), .int p1, .int p2]) ++ List.replicate (4 - (lg_sl ([.ref ((P 0)), .int p1, .int p2])).length) Slot.unset).toArray = ls at hl ⊢
  have hl : lv_has ls 4 [(0, .ref ((P 0))), (1, .int p1), (2, .int p2)] := hl
  have hC : g (P 0) 1 = .ref (P 1) := hJ.1.2.1.1
  have hbd : zV g (q 0) + zHs g q nc < 4294967296 ^ 15 * 1048576 := hJ.bnd hk9
  have hAk := hJ.1.af
  have hnn := zTt.nn hJ.1
  have h7 : g (P 0) 7 = .ref (a 4) := hJ.1.2.1.2.2.2.2.2.2
  have k10 : κ (P 0) = 10 := hJ.1.1.1
  obtain ⟨O9, hO9⟩ : ∃ O : Int, g (P 0) 9 = .long (Int64.ofInt O) := by obtain ⟨-, -, -, -, -, -, ⟨_, O, _, _, _, _, _, ⟨_, lO, _⟩, _⟩, _⟩ := id hJ; exact ⟨O, lO⟩
  refine lv_aload_n hx hb dX8_heatUp_0 rfl (lv_at hl 0 rfl) ?_
  refine lv_iload_n hx hb dX8_heatUp_1 rfl (lv_at hl 1 rfl) ?_
  refine z_xq hI (vx_runV (As := [.int p1]) (rest := []) ⟨hx, hb, hml, hown, hts⟩ (c_X8_coreAt l hnt _ _ _ _ _ _ _ ((P 0)) hk0 p1 (P 1) hC) (cwV 1 hts gX8_heatUp_X8_coreAt rfl rfl rfl (by decide +kernel) ⟨Nat.le_of_ble_eq_true rfl, Nat.le_of_ble_eq_true rfl⟩) (z_preV hK hE hI [] rfl rfl (z_recv hK hI hk0 rfl rfl)) rfl rfl hl.1 rfl (lv_room (Nat.le_of_ble_eq_true rfl)) dX8_heatUp_2 ⟨Nat.le_of_ble_eq_true rfl, Nat.le_of_ble_eq_true rfl⟩) (fun E ce q9 u H locs hw hI he1 he2 he3 => ?_) (fun v1 u H locs hw2 hI => ?_)
  · obtain ⟨hxp, rfl⟩ := hw
    exact z_pass hK hI hout hlocks he1 he2 he3 ⟨Or.inl hxp.1, rfl⟩ (Nat.le_of_ble_eq_true rfl) (Nat.le_of_ble_eq_true rfl)
  obtain ⟨r3, rfl, hr4, hq5, rfl⟩ := hw2
  show W p l e (headSpec wsX8_heatUp ({ frames := 7, cells := 2, slots := 12, locals := 120 })).room s m ([.ref ((P 0)), .int p1, .int p2] : List Value).toArray below meth c _ _ 1 6 (vx_MQ below (va_Qi (fun (r : Int32) (u : zS) => ∃ g2 : Nat → Nat → Value, u = (L, κ, g2) ∧ zSd42 κ g2 P cf b a q nc t9 (k9 + 1) ∧ zOut κ (P 0) g g2) (fun (u : zS) (t : State) => zB D tc (zA [] L s.heap.size) [] u t) (zA [] L s.heap.size)) (vx_X (fun u : zS => True) (fun (E : String) (u : zS) (t : State) => (((E = "java/lang/IndexOutOfBoundsException" ∨ E = "java/lang/IllegalArgumentException" ∨ E = "java/lang/IllegalStateException") ∧ u = (L, κ, g))) ∧ zB D tc (zA [] L s.heap.size) [] u t) (zA [] L s.heap.size)) ([.ref ((P 0)), .int p1, .int p2] : List Value).toArray s 2 12 (zA [] L s.heap.size)) (F0 m 5 ls (.ref r3 :: []))
  obtain ⟨i, hin, hci⟩ := hJ.1.which hq5.1 hq5.2
  obtain ⟨-, kb, -, h15, hb1, hb2⟩ := hJ.1.co hin
  rw [hci] at h15
  obtain ⟨hk5, hq5, u5, hn5⟩ := hAk.1 (5 + 2 * i) (by omega)
  obtain ⟨hk4, hq4, u4, hn4⟩ := hAk.1 4 (by omega)
  refine lv_astore_n (lv' := [(3, .ref r3), (0, .ref ((P 0))), (1, .int p1), (2, .int p2)]) hx hb dX8_heatUp_5 rfl hl (by decide) rfl (fun ls hl => ?_)
  refine lv_iconst (v := 1) hx hb dX8_heatUp_6 (by decide) ?_
  refine lv_iload_n hx hb dX8_heatUp_7 rfl (lv_at hl 3 rfl) ?_
  refine lv_sipush (v := 9999) hx hb dX8_heatUp_8 (by decide) ?_
  refine vp_callSi (W.runS (As := [.int 1, .int p2, .int 9999]) (rest := []) ⟨hx, hb, hml, hown, hts⟩ (c_X8_isFrom l _ _ _ _ _ _ _ 1 p2 9999) (va_cwS 3 hts gX8_heatUp_X8_isFrom rfl rfl rfl (by decide +kernel) ⟨Nat.le_of_ble_eq_true rfl, Nat.le_of_ble_eq_true rfl⟩) (z_pre hK hE hI [] rfl rfl) rfl rfl hl.1 rfl (lv_room (Nat.le_of_ble_eq_true rfl)) dX8_heatUp_11 ⟨Nat.le_of_ble_eq_true rfl, Nat.le_of_ble_eq_true rfl⟩) (fun v6 hw7 => ?_)
  refine lv_if_ne (tgt := 27) hx hb dX8_heatUp_14 (by decide) (fun c8 => ?_) (fun c8 => ?_)
  · skip
    refine lv_aload_n hx hb dX8_heatUp_27 rfl (lv_at hl 0 rfl) ?_
    refine z_get (k := 5) (j := 15) hM hI hr4 rfl rfl hinX3 rfl (by decide) (by decide +kernel) (fun _ h9 => h9) dX8_heatUp_28 (fun v9 hv10 => ?_)
    obtain ⟨hg12, i11, rfl, hr13⟩ := hv10
    obtain rfl : (b i) = i11 := Value.ref.inj ((h15).symm.trans hg12.symm)
    refine z_get (k := 3) (j := 1) hM hI hr13 rfl rfl hinX1 rfl (by decide) (by decide +kernel) (fun _ h9 => h9) dX8_heatUp_31 (fun v14 hv15 => ?_)
    obtain ⟨hg17, i16, rfl, hr18⟩ := hv15
    obtain rfl : (a (5 + 2 * i)) = i16 := Value.ref.inj ((hb1).symm.trans hg17.symm)
    refine lv_ldc (v := 99999) hx hb hown (hts (.constant RX8 90 (99999)) (by decide +kernel)) dX8_heatUp_34 ?_
    refine vp_callSi (W.runV (As := [.int 99999]) (rest := []) ⟨hx, hb, hml, hown, hts⟩ (a_X0_upTo l _ _ _ _ _ _ _ (a (5 + 2 * i)) (q (5 + 2 * i)) u5 _ _ 99999 (kx_ok _) hk5 hq5 hn5 (by decide)) (cwV 1 hts gX8_heatUp_X0_upTo rfl rfl rfl (by decide +kernel) ⟨Nat.le_of_ble_eq_true rfl, Nat.le_of_ble_eq_true rfl⟩) (z_preV hK hE hI [] rfl rfl (z_recv hK hI hr18 rfl rfl)) rfl rfl hl.1 rfl (lv_room (Nat.le_of_ble_eq_true rfl)) dX8_heatUp_36 ⟨Nat.le_of_ble_eq_true rfl, Nat.le_of_ble_eq_true rfl⟩) (fun v19 hw20 => ?_)
    refine lv_iload_n hx hb dX8_heatUp_39 rfl (lv_at hl 3 rfl) ?_
    refine lv_iadd hx hb dX8_heatUp_40 ?_
    refine lv_topi (fun v21 e22 => ?_)
    refine lv_ldc (v := 99999) hx hb hown (hts (.constant RX8 90 (99999)) (by decide +kernel)) dX8_heatUp_41 ?_
    refine lv_icmp_le (tgt := 56) hx hb dX8_heatUp_43 (by decide) (fun c23 => ?_) (fun c23 => ?_)
    · skip
      have hot := z_hot (V := zV g (q (5 + 2 * i))) hw20 (Classical.not_not.mp (fun h => c8 (hw7.mpr h))) e22 c23 (hAk.nn (by omega))
      have hle : zV g (q (5 + 2 * i)) ≤ zHs g q nc := zSm_le (f := fun j => zV g (q (5 + 2 * j))) (fun j hj => hAk.nn (by omega)) hin
      refine lv_aload_n hx hb dX8_heatUp_56 rfl (lv_at hl 1 rfl) ?_
      refine z_get (k := 10) (j := 7) hM hI hk0 rfl rfl hinX8 rfl (by decide) (by decide +kernel) (fun _ h9 => h9) dX8_heatUp_57 (fun v24 hv25 => ?_)
      obtain ⟨hg27, i26, rfl, hr28⟩ := hv25
      obtain rfl : (a 4) = i26 := Value.ref.inj ((h7).symm.trans hg27.symm)
      refine lv_iload_n hx hb dX8_heatUp_60 rfl (lv_at hl 3 rfl) ?_
      refine z_cv hI (va_runV (As := [.int p2]) (rest := []) ⟨hx, hb, hml, hown, hts⟩ (a_X0_become l _ _ _ _ _ _ _ (a 4) (q 4) u4 _ _ p2 (kx_ok 4) hk4 hq4 hn4.toZN0 hot.1) (cwV 1 hts gX8_heatUp_X0_become rfl rfl rfl (by decide +kernel) ⟨Nat.le_of_ble_eq_true rfl, Nat.le_of_ble_eq_true rfl⟩) (z_preV hK hE hI [] rfl rfl (z_recv hK hI hr28 rfl rfl)) rfl rfl hl.1 rfl (lv_room (Nat.le_of_ble_eq_true rfl)) dX8_heatUp_61 ⟨Nat.le_of_ble_eq_true rfl, Nat.le_of_ble_eq_true rfl⟩) (fun u H locs hw30 hI => ?_)
      obtain ⟨g1, rfl, AFg1, hvg1, hog1, hQg1⟩ := hAk.am (by omega) hw30
      have hS1 := hJ.1.q hQg1 AFg1
      have h7g1 : g1 (P 0) 7 = .ref (a 4) := (hQg1.at 7 hk0 (by decide)).trans h7
      obtain ⟨-, -, -, h15g1, hb1g1, hb2g1⟩ := hS1.co hin
      rw [hci] at h15g1
      obtain ⟨-, -, w5, hm5⟩ := AFg1.1 (5 + 2 * i) (by omega)
      obtain ⟨hl6, hm6q, w6, hm6⟩ := AFg1.1 (6 + 2 * i) (by omega)
      obtain ⟨-, -, w4, hm4⟩ := AFg1.1 4 (by omega)
      have x5 := hog1 (5 + 2 * i) (by omega) (by omega)
      refine lv_aload_n hx hb dX8_heatUp_64 rfl (lv_at hl 0 rfl) ?_
      refine z_get (k := 5) (j := 15) hM hI hr4 rfl rfl hinX3 rfl (by decide) (by decide +kernel) (fun _ h9 => h9) dX8_heatUp_65 (fun v31 hv32 => ?_)
      obtain ⟨hg34, i33, rfl, hr35⟩ := hv32
      obtain rfl : (b i) = i33 := Value.ref.inj ((h15g1).symm.trans hg34.symm)
      refine lv_aload_n hx hb dX8_heatUp_68 rfl (lv_at hl 1 rfl) ?_
      refine z_get (k := 10) (j := 7) hM hI hk0 rfl rfl hinX8 rfl (by decide) (by decide +kernel) (fun _ h9 => h9) dX8_heatUp_69 (fun v36 hv37 => ?_)
      obtain ⟨hg39, i38, rfl, hr40⟩ := hv37
      obtain rfl : (a 4) = i38 := Value.ref.inj ((h7g1).symm.trans hg39.symm)
      refine z_cv hI (va_runV (As := [.ref ((a 4))]) (rest := []) ⟨hx, hb, hml, hown, hts⟩ (a_X1_gain l _ _ _ _ _ _ _ (b i) 3 32 33 20 rfl (by decide) kb (a (5 + 2 * i)) (q (5 + 2 * i)) w5 _ _ (a (6 + 2 * i)) (q (6 + 2 * i)) w6 _ _ (a 4) (q 4) w4 _ _ hb1g1 hb2g1 (kx_h _).symm (kx_d _).symm (kx_ok _) hk5 hq5 hm5 (kx_ok _) hl6 hm6q hm6 (kx_ok _) hk4 hq4 hm4 (AFg1.2 4 (5 + 2 * i) (by omega) (by omega) (by omega)).1 (AFg1.2 4 (5 + 2 * i) (by omega) (by omega) (by omega)).2 (AFg1.2 (6 + 2 * i) (5 + 2 * i) (by omega) (by omega) (by omega)).1 (AFg1.2 (6 + 2 * i) (5 + 2 * i) (by omega) (by omega) (by omega)).2 (by omega)) (cwV 1 hts gX8_heatUp_X1_gain rfl rfl rfl (by decide +kernel) ⟨Nat.le_of_ble_eq_true rfl, Nat.le_of_ble_eq_true rfl⟩) (z_preV hK hE hI [] rfl rfl (z_recv hK hI hr35 rfl rfl)) rfl rfl hl.1 rfl (lv_room (Nat.le_of_ble_eq_true rfl)) dX8_heatUp_72 ⟨Nat.le_of_ble_eq_true rfl, Nat.le_of_ble_eq_true rfl⟩) (fun u H locs hw42 hI => ?_)
      obtain ⟨g2, rfl, AFg2, hvg2, hdg2, hog2, hQg2⟩ := AFg1.bm (by omega) (by omega) (by omega) hw42
      have hS2 := hS1.q hQg2 AFg2
      have hO2 : g2 (P 0) 9 = .long (Int64.ofInt O9) := ((hQg1.tr hQg2).at 9 hk0 (by decide)).trans hO9
      refine lv_aload_n hx hb dX8_heatUp_75 rfl (lv_at hl 1 rfl) ?_
      refine lv_dup hx hb dX8_heatUp_76 rfl ?_
      refine z_get (k := 10) (j := 9) hM hI hk0 rfl rfl hinX8 rfl (by decide) (by decide +kernel) (fun _ h9 => h9) dX8_heatUp_77 (fun v43 hv44 => ?_)
      obtain ⟨hg46, i45, rfl⟩ := hv44
      obtain rfl : (Int64.ofInt O9) = i45 := Value.long.inj ((hO2).symm.trans hg46.symm)
      refine lv_iload_n hx hb dX8_heatUp_80 rfl (lv_at hl 3 rfl) ?_
      refine lv_i2l hx hb dX8_heatUp_81 rfl ?_
      refine lv_topl (fun v47 e48 => ?_)
      refine lv_ladd hx hb dX8_heatUp_82 ?_
      refine lv_topl (fun v49 e50 => ?_)
      refine z_put (g' := (zup g2 ((P 0)) 9 (.long v49))) (k := 10) (j := 9) hM hI hk0 rfl rfl hinX8 tyX8 tyX8_ok nmX8 rfl (by decide) (by decide +kernel) (fun _ h9 => h9) rfl rfl rfl rfl ⟨(zup_self _ _ _ _).symm, _, rfl⟩ (fun b i h => zup_ne h) dX8_heatUp_83 (fun H locs hI => ?_)
      have hX := hS2.put (g2 := (zup g2 (P 0) 9 (.long v49))) (x9 := P 0) (j9 := 9) hk0 (by unfold zSlot; omega) (fun b j h => zup_ne h)
      have hf9 : zQ1 κ (P 0) 9 g (zup g2 (P 0) 9 (.long v49)) := ((hQg1.tr hQg2).one).tr (zQ1.put (fun b j h => zup_ne h))
      have hl9 : ∀ O : Int, g (P 0) 9 = .long (Int64.ofInt O) → (zup g2 (P 0) 9 (.long v49)) (P 0) 9 = .long (Int64.ofInt (O + p2.toInt)) := fun O hO => by rw [zup_self, e50, Value.long.inj (hO9.symm.trans hO), e48, w_i2l, wl_add]
      have hJ2 : zSd42 κ (zup g2 (P 0) 9 (.long v49)) P cf b a q nc t9 (k9 + 1) := hJ.heat hin hot hX.1 (by rw [hX.2 _ (by omega)]; omega) (by rw [hX.2 _ (by omega), hX.2 _ (by omega), hdg2, hvg2]; rfl) (fun y y0 y4 y5 y6 => (hX.2 y y0).trans ((hog2 y y0 y5 y6).trans (hog1 y y0 y4))) hf9 hl9
      refine lv_aload_n hx hb dX8_heatUp_86 rfl (lv_at hl 0 rfl) ?_
      refine z_get (k := 5) (j := 15) hM hI hr4 rfl rfl hinX3 rfl (by decide) (by decide +kernel) (fun _ h9 => h9) dX8_heatUp_87 (fun v51 hv52 => ?_)
      obtain ⟨hg54, i53, rfl, hr55⟩ := hv52
      refine z_get (k := 3) (j := 2) hM hI hr55 rfl rfl hinX1 rfl (by decide) (by decide +kernel) (fun _ h9 => h9) dX8_heatUp_90 (fun v56 hv57 => ?_)
      obtain ⟨hg59, i58, rfl, hr60⟩ := hv57
      refine vp_callSl (W.runV (As := []) (rest := []) ⟨hx, hb, hml, hown, hts⟩ (c_X0_lowBits l _ _ _ _ _ _ _ i58 33 53 ⟨rfl, rfl, rfl⟩ hr60) (cwV 0 hts gX8_heatUp_X0_lowBits rfl rfl rfl (by decide +kernel) ⟨Nat.le_of_ble_eq_true rfl, Nat.le_of_ble_eq_true rfl⟩) (z_preV hK hE hI [] rfl rfl (z_recv hK hI hr60 rfl rfl)) rfl rfl hl.1 rfl (lv_room (Nat.le_of_ble_eq_true rfl)) dX8_heatUp_93 ⟨Nat.le_of_ble_eq_true rfl, Nat.le_of_ble_eq_true rfl⟩) (fun v61 hw62 => ?_)
      refine lv_l2i hx hb dX8_heatUp_96 rfl ?_
      refine lv_topi (fun v63 e64 => ?_)
      refine vx_ret ?_
      refine W.widen (k := 2) (n := 12) (Nat.le_of_ble_eq_true rfl) (Nat.le_of_ble_eq_true rfl) ?_
      exact W.iret (v := v63) hx hb hr (fun t ht hW => ⟨⟨_, (L, κ, (zup g2 ((P 0)) 9 (.long v49))), rfl, ⟨_, rfl, hJ2, hf9.out k10 hk0 (Or.inr ⟨rfl, by decide⟩)⟩, z_end hK hI ht hW⟩, z_F hI ht⟩) (z_locs hI) dX8_heatUp_97
    · skip
      refine z_throw (ik := 81) (is := 210) (ic := 85) (cls := "java/lang/IllegalStateException") (text := "too much heat") (L0 := L) ["java/lang/RuntimeException", "java/lang/Exception"] (by decide) hM hE hI hnt (by decide) (by decide +kernel) (by decide +kernel) (by decide +kernel) (by decide +kernel) (by decide +kernel) (by decide +kernel) (hl.1.trans hml.symm) dX8_heatUp_46 dX8_heatUp_49 dX8_heatUp_50 dX8_heatUp_52 dX8_heatUp_55 hout (Nat.le_of_ble_eq_true rfl) (Nat.le_of_ble_eq_true rfl) (Nat.le_of_ble_eq_true rfl) (Nat.le_of_ble_eq_true rfl) hlocks ⟨by first | exact Or.inl rfl | exact Or.inr (Or.inl rfl) | exact Or.inr (Or.inr rfl), rfl⟩ (Nat.le_of_ble_eq_true rfl) (Nat.le_of_ble_eq_true rfl)
  · skip
    refine z_throw (ik := 71) (is := 95) (ic := 75) (cls := "java/lang/IllegalArgumentException") (text := "a number out of range") (L0 := L) ["java/lang/RuntimeException", "java/lang/Exception"] (by decide) hM hE hI hnt (by decide) (by decide +kernel) (by decide +kernel) (by decide +kernel) (by decide +kernel) (by decide +kernel) (by decide +kernel) (hl.1.trans hml.symm) dX8_heatUp_17 dX8_heatUp_20 dX8_heatUp_21 dX8_heatUp_23 dX8_heatUp_26 hout (Nat.le_of_ble_eq_true rfl) (Nat.le_of_ble_eq_true rfl) (Nat.le_of_ble_eq_true rfl) (Nat.le_of_ble_eq_true rfl) hlocks ⟨by first | exact Or.inl rfl | exact Or.inr (Or.inl rfl) | exact Or.inr (Or.inr rfl), rfl⟩ (Nat.le_of_ble_eq_true rfl) (Nat.le_of_ble_eq_true rfl)

set_option maxHeartbeats 4000000 in
set_option maxRecDepth 100000 in
theorem c_X8_pass (l : Launch) (hnt : l.stackTraces = false) (D : va_G) (tc : Nat → ClassId) (z0 : Nat) (L : List Nat) (κ : Nat → Nat) (g : Nat → Nat → Value) (sz : Nat) (P : Nat → Nat) (hk0 : κ (P 0) = 10) (p1 : Int32) (cf b a q : Nat → Nat) (nc t9 k9 : Nat) (hJ : zSd42 κ g P cf b a q nc t9 k9) (hk9 : k9 ≤ 512) : vx_Met l yX8_pass wsX8_pass ({ frames := 8, cells := 1, slots := 6, locals := 180 }) (zPc D tc z0 [.ref ((P 0)), .int p1] [] (L, κ, g) sz) (va_Qi (fun (r : Int32) (u : zS) => ∃ (g2 : Nat → Nat → Value) (n9 : Nat), u = (L, κ, g2) ∧ zSd42 κ g2 P cf b a q nc (t9 + n9) (k9 + 1) ∧ zOut κ (P 0) g g2 ∧ p1 = nI n9 ∧ n9 ≤ 100 ∧ t9 + n9 ≤ 9999) (fun (u : zS) (t : State) => zB D tc (zA [] L sz) [] u t) (zA [] L sz)) (vx_X (fun u : zS => True) (fun (E : String) (u : zS) (t : State) => (((E = "java/lang/IllegalArgumentException" ∨ E = "java/lang/IllegalStateException") ∧ u = (L, κ, g))) ∧ zB D tc (zA [] L sz) [] u t) (zA [] L sz)) 1 6 (zA [] L sz) := by
  refine vx_ofW (cc := cX8_pass) (maxL := 3) (ret := (some .int)) (by decide) rfl ?_
  intro p e s m args below meth c s₁ B hml hxt hv
  obtain ⟨rfl, rfl, hK, hE, hI⟩ := hv.opn
  have hx := B.exec
  have hb := B.bytes
  have hr := B.returns
  have hts := atoms_spec (ws := wsX8_pass) B.pre
  have hown : s.vm.findClass RX8 = some m.cls := findClass_of_methodNamed B.named
  have hlocks := B.notSynchronized
  have hout : ∀ (i : Nat), ∀ x ∈ c.exceptionTable.toList, covers x i = false := fun i x hx9 => (hxt x hx9).elim
  have hM : zM p s m c cX8_pass _ wsX8_pass RX8 D tc := ⟨hx, hb, hts, hown, hK⟩
  have hinX8 : ∀ w ∈ wsX80, w ∈ wsX8_pass := by decide +kernel
  have hl := lv_entry ([.ref ((P 0)), .int p1]) (n := 3) (Nat.le_of_ble_eq_true rfl)
  rw [lg_entry_eq]
  generalize (lg_sl ([.ref ((P 0)), .int p1]) ++ List.replicate (3 - (lg_sl ([.ref ((P 0)), .int p1])).length) Slot.unset).toArray = ls at hl ⊢
  have hl : lv_has ls 3 [(0, .ref ((P 0))), (1, .int p1)] := hl
  have ht8 : g (P 0) 8 = .int (nI t9) := hJ.2.2.2.1
  refine lv_iconst (v := 1) hx hb dX8_pass_0 (by decide) ?_
  refine lv_iload_n hx hb dX8_pass_1 rfl (lv_at hl 1 rfl) ?_
  refine lv_bipush (v := 100) hx hb dX8_pass_2 (by decide) ?_
  refine vp_callSi (W.runS (As := [.int 1, .int p1, .int 100]) (rest := []) ⟨hx, hb, hml, hown, hts⟩ (c_X8_isFrom l _ _ _ _ _ _ _ 1 p1 100) (va_cwS 3 hts gX8_pass_X8_isFrom rfl rfl rfl (by decide +kernel) ⟨Nat.le_of_ble_eq_true rfl, Nat.le_of_ble_eq_true rfl⟩) (z_pre hK hE hI [] rfl rfl) rfl rfl hl.1 rfl (lv_room (Nat.le_of_ble_eq_true rfl)) dX8_pass_4 ⟨Nat.le_of_ble_eq_true rfl, Nat.le_of_ble_eq_true rfl⟩) (fun v1 hw2 => ?_)
  refine lv_if_ne (tgt := 20) hx hb dX8_pass_7 (by decide) (fun c3 => ?_) (fun c3 => ?_)
  · skip
    refine lv_aload_n hx hb dX8_pass_20 rfl (lv_at hl 0 rfl) ?_
    refine z_get (k := 10) (j := 8) hM hI hk0 rfl rfl hinX8 rfl (by decide) (by decide +kernel) (fun _ h9 => h9) dX8_pass_21 (fun v4 hv5 => ?_)
    obtain ⟨hg7, i6, rfl⟩ := hv5
    obtain rfl : (nI t9) = i6 := Value.int.inj ((ht8).symm.trans hg7.symm)
    refine lv_iload_n hx hb dX8_pass_24 rfl (lv_at hl 1 rfl) ?_
    refine lv_iadd hx hb dX8_pass_25 ?_
    refine lv_topi (fun v8 e9 => ?_)
    refine lv_sipush (v := 9999) hx hb dX8_pass_26 (by decide) ?_
    refine lv_icmp_le (tgt := 42) hx hb dX8_pass_29 (by decide) (fun c10 => ?_) (fun c10 => ?_)
    · skip
      obtain ⟨hlo9, hhi9⟩ := (Classical.not_not.mp (fun h => c3 (hw2.mpr h)))
      obtain ⟨n9, hn9, hp9⟩ := nI_of2 (M := 100) (n := 100) (by decide) (z_nn hlo9) hhi9
      have ht9 : t9 + n9 ≤ 9999 := z_pass9 e9 c10 hp9 (by omega) hJ.2.2.2.2.1
      refine lv_iconst (v := 0) hx hb dX8_pass_42 (by decide) ?_
      refine lv_istore_n (lv' := [(2, .int 0), (0, .ref ((P 0))), (1, .int p1)]) hx hb dX8_pass_43 rfl hl (by decide) rfl (fun ls hl => ?_)
      have hL44 : ∀ (n : Nat) (H : Heap) (locs : List Loc)   (i12 : Nat) (hi : i12 ≤ n9) (hn : n9 - i12 < n)  (g11 : Nat → Nat → Value) (hJk : zSd42 κ g11 P cf b a q nc (t9 + i12) k9) (hok : zOut κ (P 0) g g11)  (hI : zI D tc (zA [] L s.heap.size) s.heap [] L κ g11 H locs) (ls : Array Slot) (hl : lv_has ls 3 [(0, .ref ((P 0))), (1, .int p1), (2, .int ((nI i12)))]), W p l e (headSpec wsX8_pass ({ frames := 8, cells := 1, slots := 6, locals := 180 })).room s m ([.ref ((P 0)), .int p1] : List Value).toArray below meth c H locs 0 0 (vx_MQ below (va_Qi (fun (r : Int32) (u : zS) => ∃ (g2 : Nat → Nat → Value) (n9 : Nat), u = (L, κ, g2) ∧ zSd42 κ g2 P cf b a q nc (t9 + n9) (k9 + 1) ∧ zOut κ (P 0) g g2 ∧ p1 = nI n9 ∧ n9 ≤ 100 ∧ t9 + n9 ≤ 9999) (fun (u : zS) (t : State) => zB D tc (zA [] L s.heap.size) [] u t) (zA [] L s.heap.size)) (vx_X (fun u : zS => True) (fun (E : String) (u : zS) (t : State) => (((E = "java/lang/IllegalArgumentException" ∨ E = "java/lang/IllegalStateException") ∧ u = (L, κ, g))) ∧ zB D tc (zA [] L s.heap.size) [] u t) (zA [] L s.heap.size)) ([.ref ((P 0)), .int p1] : List Value).toArray s 1 6 (zA [] L s.heap.size)) (F0 m 44 ls []) := by
        intro n
        induction n with
        | zero => intro H locs i12 hi hn g11 hJk hok hI ls hl; exact absurd hn (Nat.not_lt_zero _)
        | succ n ih =>
          intro H locs i12 hi hn g11 hJk hok hI ls hl
          refine lv_iload_n hx hb dX8_pass_44 rfl (lv_at hl 2 rfl) ?_
          refine lv_iload_n hx hb dX8_pass_45 rfl (lv_at hl 1 rfl) ?_
          refine lv_icmp_ge (tgt := 59) hx hb dX8_pass_46 (by decide) (fun c13 => ?_) (fun c13 => ?_)
          · skip
            rw [hp9] at c13
            have hgec13 : n9 ≤ i12 := z_ge (by omega) (by omega) c13
            refine lv_aload_n hx hb dX8_pass_59 rfl (lv_at hl 0 rfl) ?_
            refine z_get (k := 10) (j := 8) hM hI hk0 rfl rfl hinX8 rfl (by decide) (by decide +kernel) (fun _ h9 => h9) dX8_pass_60 (fun v14 hv15 => ?_)
            obtain ⟨hg17, i16, rfl⟩ := hv15
            refine vx_ret ?_
            refine W.widen (k := 1) (n := 6) (Nat.le_of_ble_eq_true rfl) (Nat.le_of_ble_eq_true rfl) ?_
            exact W.iret (v := i16) hx hb hr (fun t ht hW => ⟨⟨_, (L, κ, g11), rfl, ⟨_, n9, rfl, (by have e9 := Nat.le_antisymm hi (by assumption); rw [← e9]; exact hJk.more), hok, hp9, hn9, ht9⟩, z_end hK hI ht hW⟩, z_F hI ht⟩) (z_locs hI) dX8_pass_63
          · skip
            rw [hp9] at c13
            have hltc13 : i12 < n9 := z_lt (by omega) c13
            refine lv_aload_n hx hb dX8_pass_49 rfl (lv_at hl 0 rfl) ?_
            refine z_cv hI (va_runV (As := []) (rest := []) ⟨hx, hb, hml, hown, hts⟩ (a_X8_oneTick l _ _ _ _ _ _ _ P cf b a q nc _ k9 hJk hk9 (by omega)) (cwV 0 hts gX8_pass_X8_oneTick rfl rfl rfl (by decide +kernel) ⟨Nat.le_of_ble_eq_true rfl, Nat.le_of_ble_eq_true rfl⟩) (z_preV hK hE hI [] rfl rfl (z_recv hK hI hk0 rfl rfl)) rfl rfl hl.1 rfl (lv_room (Nat.le_of_ble_eq_true rfl)) dX8_pass_50 ⟨Nat.le_of_ble_eq_true rfl, Nat.le_of_ble_eq_true rfl⟩) (fun u H locs hw19 hI => ?_)
            obtain ⟨g8, rfl, hJ8, ho8⟩ := hw19
            refine lv_iinc (v := nI (i12 + 1)) (lv' := [(2, .int ((nI (i12 + 1)))), (0, .ref ((P 0))), (1, .int p1)]) hx hb dX8_pass_53 hl (k := 2) rfl (z_inc i12) (by decide) rfl (fun ls hl => ?_)
            refine lv_goto (tgt := 44) hx hb dX8_pass_56 (by decide) ?_
            exact ih _ _ (i12 + 1) (by first | omega | (simp only [] at *; omega)) (by first | omega | (simp only [] at *; omega)) g8 hJ8 (hok.tr ho8) hI ls (lv_sub hl [1, 2, 0] rfl)
      exact hL44 (n9 + 1) _ _ 0 (by first | omega | (simp only [] at *; omega)) (by first | omega | (simp only [] at *; omega)) g hJ zOut.rf hI ls (lv_sub hl [1, 2, 0] rfl)
    · skip
      refine z_throw (ik := 81) (is := 134) (ic := 85) (cls := "java/lang/IllegalStateException") (text := "too many ticks") (L0 := L) ["java/lang/RuntimeException", "java/lang/Exception"] (by decide) hM hE hI hnt (by decide) (by decide +kernel) (by decide +kernel) (by decide +kernel) (by decide +kernel) (by decide +kernel) (by decide +kernel) (hl.1.trans hml.symm) dX8_pass_32 dX8_pass_35 dX8_pass_36 dX8_pass_38 dX8_pass_41 hout (Nat.le_of_ble_eq_true rfl) (Nat.le_of_ble_eq_true rfl) (Nat.le_of_ble_eq_true rfl) (Nat.le_of_ble_eq_true rfl) hlocks ⟨by first | exact Or.inl rfl | exact Or.inr rfl, rfl⟩ (Nat.le_of_ble_eq_true rfl) (Nat.le_of_ble_eq_true rfl)
  · skip
    refine z_throw (ik := 71) (is := 95) (ic := 75) (cls := "java/lang/IllegalArgumentException") (text := "a number out of range") (L0 := L) ["java/lang/RuntimeException", "java/lang/Exception"] (by decide) hM hE hI hnt (by decide) (by decide +kernel) (by decide +kernel) (by decide +kernel) (by decide +kernel) (by decide +kernel) (by decide +kernel) (hl.1.trans hml.symm) dX8_pass_10 dX8_pass_13 dX8_pass_14 dX8_pass_16 dX8_pass_19 hout (Nat.le_of_ble_eq_true rfl) (Nat.le_of_ble_eq_true rfl) (Nat.le_of_ble_eq_true rfl) (Nat.le_of_ble_eq_true rfl) hlocks ⟨by first | exact Or.inl rfl | exact Or.inr rfl, rfl⟩ (Nat.le_of_ble_eq_true rfl) (Nat.le_of_ble_eq_true rfl)

