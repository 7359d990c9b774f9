set_option maxHeartbeats 4000000 in
set_option maxRecDepth 100000 in
theorem c_X3_setSpeed (l : Launch) (D : va_G) (tc : Nat → ClassId) (z0 : Nat) (L : List Nat) (κ : Nat → Nat) (g : Nat → Nat → Value) (sz : Nat) (p0 : Nat) (hk0 : κ p0 = 5) (hW : zWo g p0 19998) : Met l yX3_setSpeed wsX3_setSpeed ({ frames := 2, cells := 0, slots := 0, locals := 60 }) (zPc D tc z0 ([.ref p0] : List Value) [] (L, κ, g) sz) (va_Qv (fun (u : zS) => u = (L, κ, g)) (fun (u : zS) (t : State) => zB D tc (zA [] L sz) [] u t) (zA [] L sz)) 0 0 (zA [] L sz) := by
  refine Met.ofW (cc := cX3_setSpeed) (maxL := 1) (ret := none) (by decide) rfl ?_
  intro p e9 s m args below meth c s₁ B hml hv
  obtain ⟨rfl, rfl, hK, hE, hI⟩ := hv.opn
  have hx := B.exec
  have hb := B.bytes
  have hr := B.returns
  have hts := atoms_spec (ws := wsX3_setSpeed) B.pre
  have hown : s.vm.findClass RX3 = some m.cls := findClass_of_methodNamed B.named
  have hlocks := B.notSynchronized
  have hM : zM p s m c cX3_setSpeed _ wsX3_setSpeed RX3 D tc := ⟨hx, hb, hts, hown, hK⟩
  have hinX3 : ∀ w ∈ wsX30, w ∈ wsX3_setSpeed := by decide +kernel
  have hl := lv_entry ([.ref p0] : List Value) (n := 1) (Nat.le_of_ble_eq_true rfl)
  rw [lg_entry_eq]
  generalize (lg_sl ([.ref p0] : List Value) ++ List.replicate (1 - (lg_sl ([.ref p0] : List Value)).length) Slot.unset).toArray = ls at hl ⊢
  have hl : lv_has ls 1 [(0, .ref p0)] := hl
  have hinX4 : ∀ w ∈ wsX40, w ∈ wsX3_setSpeed := by decide +kernel
  have hL : ∀ (n : Nat) (H : Heap) (locs : List Loc) (f : Nat → va_E) (k : Nat) (hn : k < n) (hk8 : k < 8) (hf : zF f p0 7 = .int (nI k)) (hI : zIF D tc (zA [] L s.heap.size) s.heap [] L κ g f H locs) (ls : Array Slot) (hl : lv_has ls 1 [(0, .ref p0)]), W p l e9 (headSpec wsX3_setSpeed ({ frames := 2, cells := 0, slots := 0, locals := 60 })).room s m ([.ref p0] : List Value).toArray below meth c H locs 0 0 (MQ below (va_Qv (fun (u : zS) => u = (L, κ, g)) (fun (u : zS) (t : State) => zB D tc (zA [] L s.heap.size) [] u t) (zA [] L s.heap.size)) ([.ref p0] : List Value).toArray s 0 0 (zA [] L s.heap.size)) (F0 m 8 ls []) := by
    intro n
    induction n with
    | zero => intro H locs f k hn; exact absurd hn (Nat.not_lt_zero _)
    | succ n ih =>
      intro H locs f k hn hk8 hf hI ls hl
      have hI0 := hI.to
      refine lv_aload_n hx hb dX3_setSpeed_8 rfl (lv_at hl 0 rfl) ?_
      refine z_getF (k := 5) (j := 7) hM hI hk0 rfl rfl hinX3 rfl (by decide) (by decide +kernel) (fun _ h9 => h9) dX3_setSpeed_9 (fun v1 h1 hv1 => ?_)
      obtain rfl := hf.symm.trans h1
      refine lv_if_le (tgt := 46) hx hb dX3_setSpeed_12 (by decide) (fun c1 => ?_) (fun c1 => ?_)
      · skip
        exact W.vret hx hb hr (fun t ht hW => ⟨⟨(L, κ, g), rfl, rfl, z_end hK hI0 ht hW⟩, z_F hI0 ht⟩) (z_locs hI0) dX3_setSpeed_46
      · rcases k with _ | j
        · exact absurd (by decide) c1
        refine lv_aload_n hx hb dX3_setSpeed_15 rfl (lv_at hl 0 rfl) ?_
        refine lv_aload_n hx hb dX3_setSpeed_16 rfl (lv_at hl 0 rfl) ?_
        refine z_getF (k := 5) (j := 7) hM hI hk0 rfl rfl hinX3 rfl (by decide) (by decide +kernel) (fun _ h9 => h9) dX3_setSpeed_17 (fun v1 h1 hv1 => ?_)
        obtain rfl := hf.symm.trans h1
        have hr9 : 0 ≤ (nI (j + 1)).toInt ∧ (nI (j + 1)).toInt < 8 := by rw [nI_toInt (by omega)]; omega
        refine vp_callSi (W.runV (As := [.int (nI (j + 1))]) (rest := []) ⟨hx, hb, hml, hown, hts⟩ (c_X3_voltsFor l _ _ _ _ _ _ _ p0 hk0 (nI (j + 1)) hr9 hW) (cwV 1 hts gX3_setSpeed_X3_voltsFor rfl rfl rfl (by decide +kernel) ⟨Nat.le_of_ble_eq_true rfl, Nat.le_of_ble_eq_true rfl⟩) (z_preV hK hE hI0 [] rfl rfl (z_recv hK hI0 hk0 rfl rfl)) rfl rfl hl.1 rfl (lv_room (Nat.le_of_ble_eq_true rfl)) dX3_setSpeed_20 ⟨Nat.le_of_ble_eq_true rfl, Nat.le_of_ble_eq_true rfl⟩) (fun v8 hw => ?_)
        refine lv_aload_n hx hb dX3_setSpeed_23 rfl (lv_at hl 0 rfl) ?_
        refine z_get (k := 5) (j := 1) hM hI0 hk0 rfl rfl hinX3 rfl (by decide) (by decide +kernel) (fun _ h9 => h9) dX3_setSpeed_24 (fun v4 hv4 => ?_)
        obtain ⟨r4, rfl, hr4⟩ := hv4
        refine z_get (k := 6) (j := 0) hM hI0 hr4 rfl rfl hinX4 rfl (by decide) (by decide +kernel) (fun _ h9 => h9) dX3_setSpeed_27 (fun v5 hv5 => ?_)
        obtain ⟨i5, rfl, -, -⟩ := hv5
        refine lv_icmp_le (tgt := 46) hx hb dX3_setSpeed_30 (by decide) (fun c1 => ?_) (fun c1 => ?_)
        · skip
          exact W.vret hx hb hr (fun t ht hW => ⟨⟨(L, κ, g), rfl, rfl, z_end hK hI0 ht hW⟩, z_F hI0 ht⟩) (z_locs hI0) dX3_setSpeed_46
        · skip
          refine lv_aload_n hx hb dX3_setSpeed_33 rfl (lv_at hl 0 rfl) ?_
          refine lv_dup hx hb dX3_setSpeed_34 rfl ?_
          refine z_getF (k := 5) (j := 7) hM hI hk0 rfl rfl hinX3 rfl (by decide) (by decide +kernel) (fun _ h9 => h9) dX3_setSpeed_35 (fun v1 h1 hv1 => ?_)
          obtain rfl := hf.symm.trans h1
          refine lv_iconst (v := 1) hx hb dX3_setSpeed_38 (by decide) ?_
          refine lv_isub hx hb dX3_setSpeed_39 ?_
          rw [nI_pred]
          have hr8 : 0 ≤ (nI j).toInt ∧ (nI j).toInt < 8 := by rw [nI_toInt (by omega)]; omega
          refine z_putF (k := 5) (j := 7) hM hI hk0 rfl rfl hinX3 tyX3 tyX3_ok nmX3 rfl (by decide) (by decide +kernel) (fun _ h9 => h9) rfl rfl rfl rfl ⟨_, rfl, hr8.1, hr8.2⟩ dX3_setSpeed_40 (fun f H locs hI hf => ?_)
          refine lv_goto (tgt := 8) hx hb dX3_setSpeed_43 (by decide) ?_
          exact ih _ _ _ j (by omega) (by omega) hf hI _ hl
  refine lv_aload_n hx hb dX3_setSpeed_0 rfl (lv_at hl 0 rfl) ?_
  refine lv_aload_n hx hb dX3_setSpeed_1 rfl (lv_at hl 0 rfl) ?_
  refine z_get (k := 5) (j := 6) hM hI hk0 rfl rfl hinX3 rfl (by decide) (by decide +kernel) (fun _ h9 => h9) dX3_setSpeed_2 (fun v9 hv9 => ?_)
  obtain ⟨i1, rfl, hi1l, hi1h⟩ := hv9
  have hi1h : i1.toInt < 8 := hi1h
  refine z_put (g' := g) (k := 5) (j := 7) hM hI hk0 rfl rfl hinX3 tyX3 tyX3_ok nmX3 rfl (by decide) (by decide +kernel) (fun _ h9 => h9) rfl rfl rfl rfl ⟨_, rfl, hi1l, hi1h⟩ (fun _ _ _ => rfl) dX3_setSpeed_5 (fun H locs hI => ?_)
  obtain ⟨f, hIF⟩ := hI.ex
  obtain ⟨x, hf, hxl, hxh⟩ := z_fld hIF hk0 rfl (j := 7) (t := (5, 8)) rfl
  have hxh : x.toInt < 8 := hxh
  obtain ⟨k, rfl, hk1, hk2⟩ := wi_nat hxl
  exact hL (k + 1) _ _ f k (by omega) (by omega) hf hIF _ hl

set_option maxHeartbeats 4000000 in
set_option maxRecDepth 100000 in
theorem a_X3_tripAndWear (l : Launch) (D : va_G) (tc : Nat → ClassId) (z0 : Nat) (L : List Nat) (κ : Nat → Nat) (g : Nat → Nat → Value) (sz : Nat) (p0 : Nat) (hk0 : κ p0 = 5) : Met l yX3_tripAndWear wsX3_tripAndWear ({ frames := 1, cells := 0, slots := 0, locals := 40 }) (zPc D tc z0 ([.ref p0] : List Value) [] (L, κ, g) sz) (va_Qv (fun (u : zS) => ∃ g2 : Nat → Nat → Value, u = (L, κ, g2) ∧ (∀ b j, (b ≠ p0 ∨ j ≠ 19) → g2 b j = g b j) ∧ (g2 p0 19 = g p0 19 ∨ ∃ w : Int32, g p0 19 = .int w ∧ g2 p0 19 = .int (w + 1))) (fun (u : zS) (t : State) => zB D tc (zA [] L sz) [] u t) (zA [] L sz)) 0 0 (zA [] L sz) := by
  refine Met.ofW (cc := cX3_tripAndWear) (maxL := 2) (ret := none) (by decide) rfl ?_
  intro p e9 s m args below meth c s₁ B hml hv
  obtain ⟨rfl, rfl, hK, hE, hI⟩ := hv.opn
  have hx := B.exec
  have hb := B.bytes
  have hr := B.returns
  have hts := atoms_spec (ws := wsX3_tripAndWear) B.pre
  have hown : s.vm.findClass RX3 = some m.cls := findClass_of_methodNamed B.named
  have hlocks := B.notSynchronized
  have hM : zM p s m c cX3_tripAndWear _ wsX3_tripAndWear RX3 D tc := ⟨hx, hb, hts, hown, hK⟩
  have hinX3 : ∀ w ∈ wsX30, w ∈ wsX3_tripAndWear := by decide +kernel
  have hl := lv_entry ([.ref p0] : List Value) (n := 2) (Nat.le_of_ble_eq_true rfl)
  rw [lg_entry_eq]
  generalize (lg_sl ([.ref p0] : List Value) ++ List.replicate (2 - (lg_sl ([.ref p0] : List Value)).length) Slot.unset).toArray = ls at hl ⊢
  have hl : lv_has ls 2 [(0, .ref p0)] := hl
  have hinX1 : ∀ w ∈ wsX10, w ∈ wsX3_tripAndWear := by decide +kernel
  have hinX0 : ∀ w ∈ wsX00, w ∈ wsX3_tripAndWear := by decide +kernel
  refine lv_aload_n hx hb dX3_tripAndWear_0 rfl (lv_at hl 0 rfl) ?_
  refine z_get (k := 5) (j := 15) hM hI hk0 rfl rfl hinX3 rfl (by decide) (by decide +kernel) (fun _ h9 => h9) dX3_tripAndWear_1 (fun v9 hv9 => ?_)
  obtain ⟨-, r1, rfl, hr1⟩ := hv9
  refine z_get (k := 3) (j := 2) hM hI hr1 rfl rfl hinX1 rfl (by decide) (by decide +kernel) (fun _ h9 => h9) dX3_tripAndWear_4 (fun v9 hv9 => ?_)
  obtain ⟨-, r2, rfl, hr2⟩ := hv9
  refine lv_bipush (v := 100) hx hb dX3_tripAndWear_7 (by decide) ?_
  refine vp_callSi (W.runV (As := [.int 100]) (rest := []) ⟨hx, hb, hml, hown, hts⟩ (c_X0_upTo l _ _ _ _ _ _ _ r2 33 53 ⟨rfl, rfl, rfl⟩ hr2 100) (cwV 1 hts gX3_tripAndWear_X0_upTo rfl rfl rfl (by decide +kernel) ⟨Nat.le_of_ble_eq_true rfl, Nat.le_of_ble_eq_true rfl⟩) (z_preV hK hE hI [] rfl rfl (z_recv hK hI hr2 rfl rfl)) rfl rfl hl.1 rfl (lv_room (Nat.le_of_ble_eq_true rfl)) dX3_tripAndWear_9 ⟨Nat.le_of_ble_eq_true rfl, Nat.le_of_ble_eq_true rfl⟩) (fun v8 hw => ?_)
  refine lv_istore_n (lv' := [(1, .int v8), (0, .ref p0)]) hx hb dX3_tripAndWear_12 rfl hl (by decide) rfl (fun ls hl => ?_)
  have hL : ∀ (H : Heap) (locs : List Loc) (hI : zI D tc (zA [] L s.heap.size) s.heap [] L κ g H locs), W p l e9 (headSpec wsX3_tripAndWear ({ frames := 1, cells := 0, slots := 0, locals := 40 })).room s m ([.ref p0] : List Value).toArray below meth c H locs 0 0 (MQ below (va_Qv (fun (u : zS) => ∃ g2 : Nat → Nat → Value, u = (L, κ, g2) ∧ (∀ b j, (b ≠ p0 ∨ j ≠ 19) → g2 b j = g b j) ∧ (g2 p0 19 = g p0 19 ∨ ∃ w : Int32, g p0 19 = .int w ∧ g2 p0 19 = .int (w + 1))) (fun (u : zS) (t : State) => zB D tc (zA [] L s.heap.size) [] u t) (zA [] L s.heap.size)) ([.ref p0] : List Value).toArray s 0 0 (zA [] L s.heap.size)) (F0 m 38 ls []) := by
    intro H locs hI
    refine lv_iload_n hx hb dX3_tripAndWear_38 rfl (lv_at hl 0 rfl) ?_
    refine lv_bipush (v := 85) hx hb dX3_tripAndWear_39 (by decide) ?_
    refine lv_icmp_lt (tgt := 54) hx hb dX3_tripAndWear_41 (by decide) (fun c1 => ?_) (fun c1 => ?_)
    · skip
      exact W.vret hx hb hr (fun t ht hW => ⟨⟨(L, κ, g), rfl, ⟨g, rfl, fun _ _ _ => rfl, Or.inl rfl⟩, z_end hK hI ht hW⟩, z_F hI ht⟩) (z_locs hI) dX3_tripAndWear_54
    · skip
      refine lv_aload_n hx hb dX3_tripAndWear_44 rfl (lv_at hl 1 rfl) ?_
      refine lv_dup hx hb dX3_tripAndWear_45 rfl ?_
      refine z_get (k := 5) (j := 19) hM hI hk0 rfl rfl hinX3 rfl (by decide) (by decide +kernel) (fun _ h9 => h9) dX3_tripAndWear_46 (fun v9 hv9 => ?_)
      obtain ⟨hg1, i1, rfl⟩ := hv9
      refine lv_iconst (v := 1) hx hb dX3_tripAndWear_49 (by decide) ?_
      refine lv_iadd hx hb dX3_tripAndWear_50 ?_
      obtain ⟨g2, hG9⟩ : ∃ g9, g9 = zup g p0 19 (.int (i1 + 1)) := ⟨_, rfl⟩
      have hsg2 : g2 p0 19 = .int (i1 + 1) := by rw [hG9]; exact zup_self _ _ _ _
      have hog2 : ∀ b j, (b ≠ p0 ∨ j ≠ 19) → g2 b j = g b j := fun b j h => by rw [hG9]; exact zup_ne h
      clear hG9
      refine z_put (g' := g2) (k := 5) (j := 19) hM hI hk0 rfl rfl hinX3 tyX3 tyX3_ok nmX3 rfl (by decide) (by decide +kernel) (fun _ h9 => h9) rfl rfl rfl rfl ⟨hsg2.symm, _, rfl⟩ hog2 dX3_tripAndWear_51 (fun H locs hI => ?_)
      exact W.vret hx hb hr (fun t ht hW => ⟨⟨(L, κ, g2), rfl, ⟨g2, rfl, hog2, Or.inr ⟨i1, hg1.symm, hsg2⟩⟩, z_end hK hI ht hW⟩, z_F hI ht⟩) (z_locs hI) dX3_tripAndWear_54
  refine lv_iload_n hx hb dX3_tripAndWear_13 rfl (lv_at hl 0 rfl) ?_
  refine lv_bipush (v := 100) hx hb dX3_tripAndWear_14 (by decide) ?_
  refine lv_icmp_lt (tgt := 27) hx hb dX3_tripAndWear_16 (by decide) (fun c1 => ?_) (fun c1 => ?_)
  · skip
    refine lv_iload_n hx hb dX3_tripAndWear_27 rfl (lv_at hl 0 rfl) ?_
    refine lv_bipush (v := 90) hx hb dX3_tripAndWear_28 (by decide) ?_
    refine lv_icmp_ge (tgt := 38) hx hb dX3_tripAndWear_30 (by decide) (fun c1 => ?_) (fun c1 => ?_)
    · skip
      exact hL _ _ hI
    · skip
      refine lv_aload_n hx hb dX3_tripAndWear_33 rfl (lv_at hl 1 rfl) ?_
      refine lv_iconst (v := 0) hx hb dX3_tripAndWear_34 (by decide) ?_
      refine z_put (g' := g) (k := 5) (j := 18) hM hI hk0 rfl rfl hinX3 tyX3 tyX3_ok nmX3 rfl (by decide) (by decide +kernel) (fun _ h9 => h9) rfl rfl (by decide) (by decide) (Or.inl rfl) (fun _ _ _ => rfl) dX3_tripAndWear_35 (fun H locs hI => ?_)
      exact hL _ _ hI
  · skip
    refine lv_aload_n hx hb dX3_tripAndWear_19 rfl (lv_at hl 1 rfl) ?_
    refine lv_iconst (v := 1) hx hb dX3_tripAndWear_20 (by decide) ?_
    refine z_put (g' := g) (k := 5) (j := 18) hM hI hk0 rfl rfl hinX3 tyX3 tyX3_ok nmX3 rfl (by decide) (by decide +kernel) (fun _ h9 => h9) rfl rfl (by decide) (by decide) (Or.inr rfl) (fun _ _ _ => rfl) dX3_tripAndWear_21 (fun H locs hI => ?_)
    refine lv_goto (tgt := 38) hx hb dX3_tripAndWear_24 (by decide) ?_
    exact hL _ _ hI

set_option maxHeartbeats 4000000 in
set_option maxRecDepth 100000 in
theorem c_X2_stepFan (l : Launch) (D : va_G) (tc : Nat → ClassId) (z0 : Nat) (L : List Nat) (κ : Nat → Nat) (g : Nat → Nat → Value) (sz : Nat) (p0 : Nat) (hk0 : κ p0 = 4) : Met l yX2_stepFan wsX2_stepFan ({ frames := 1, cells := 0, slots := 0, locals := 40 }) (zPc D tc z0 ([.ref p0] : List Value) [] (L, κ, g) sz) (va_Qv (fun (u : zS) => u = (L, κ, g)) (fun (u : zS) (t : State) => zB D tc (zA [] L sz) [] u t) (zA [] L sz)) 0 0 (zA [] L sz) := by
  refine Met.ofW (cc := cX2_stepFan) (maxL := 2) (ret := none) (by decide) rfl ?_
  intro p e9 s m args below meth c s₁ B hml hv
  obtain ⟨rfl, rfl, hK, hE, hI⟩ := hv.opn
  have hx := B.exec
  have hb := B.bytes
  have hr := B.returns
  have hts := atoms_spec (ws := wsX2_stepFan) B.pre
  have hown : s.vm.findClass RX2 = some m.cls := findClass_of_methodNamed B.named
  have hlocks := B.notSynchronized
  have hM : zM p s m c cX2_stepFan _ wsX2_stepFan RX2 D tc := ⟨hx, hb, hts, hown, hK⟩
  have hinX2 : ∀ w ∈ wsX20, w ∈ wsX2_stepFan := by decide +kernel
  have hl := lv_entry ([.ref p0] : List Value) (n := 2) (Nat.le_of_ble_eq_true rfl)
  rw [lg_entry_eq]
  generalize (lg_sl ([.ref p0] : List Value) ++ List.replicate (2 - (lg_sl ([.ref p0] : List Value)).length) Slot.unset).toArray = ls at hl ⊢
  have hl : lv_has ls 2 [(0, .ref p0)] := hl
  have hinX1 : ∀ w ∈ wsX10, w ∈ wsX2_stepFan := by decide +kernel
  have hinX0 : ∀ w ∈ wsX00, w ∈ wsX2_stepFan := by decide +kernel
  refine lv_aload_n hx hb dX2_stepFan_0 rfl (lv_at hl 0 rfl) ?_
  refine z_get (k := 4) (j := 4) hM hI hk0 rfl rfl hinX2 rfl (by decide) (by decide +kernel) (fun _ h9 => h9) dX2_stepFan_1 (fun v9 hv9 => ?_)
  obtain ⟨y9, rfl, -⟩ := zv_b hv9
  refine lv_if_eq (tgt := 8) hx hb dX2_stepFan_4 (by decide) (fun c1 => ?_) (fun c1 => ?_)
  · obtain ⟨f, hIF⟩ := hI.ex
    obtain ⟨x, hf, hxl, hxh⟩ := z_fld hIF hk0 rfl (j := 3) (t := (5, 4)) rfl
    have hxh : x.toInt < 4 := hxh
    refine lv_aload_n hx hb dX2_stepFan_8 rfl (lv_at hl 0 rfl) ?_
    refine z_get (k := 4) (j := 0) hM hI hk0 rfl rfl hinX2 rfl (by decide) (by decide +kernel) (fun _ h9 => h9) dX2_stepFan_9 (fun v9 hv9 => ?_)
    obtain ⟨-, r1, rfl, hr1⟩ := hv9
    refine z_get (k := 31) (j := 2) hM hI hr1 rfl rfl hinX1 rfl (by decide) (by decide +kernel) (fun _ h9 => h9) dX2_stepFan_12 (fun v9 hv9 => ?_)
    obtain ⟨-, r2, rfl, hr2⟩ := hv9
    refine lv_bipush (v := 80) hx hb dX2_stepFan_15 (by decide) ?_
    refine vp_callSi (W.runV (As := [.int 80]) (rest := []) ⟨hx, hb, hml, hown, hts⟩ (c_X0_upTo l _ _ _ _ _ _ _ r2 35 55 ⟨rfl, rfl, rfl⟩ hr2 80) (cwV 1 hts gX2_stepFan_X0_upTo rfl rfl rfl (by decide +kernel) ⟨Nat.le_of_ble_eq_true rfl, Nat.le_of_ble_eq_true rfl⟩) (z_preV hK hE hI [] rfl rfl (z_recv hK hI hr2 rfl rfl)) rfl rfl hl.1 rfl (lv_room (Nat.le_of_ble_eq_true rfl)) dX2_stepFan_17 ⟨Nat.le_of_ble_eq_true rfl, Nat.le_of_ble_eq_true rfl⟩) (fun v8 hw => ?_)
    refine lv_istore_n (lv' := [(1, .int v8), (0, .ref p0)]) hx hb dX2_stepFan_20 rfl hl (by decide) rfl (fun ls hl => ?_)
    refine lv_aload_n hx hb dX2_stepFan_21 rfl (lv_at hl 1 rfl) ?_
    refine z_getF (k := 4) (j := 3) hM hIF hk0 rfl rfl hinX2 rfl (by decide) (by decide +kernel) (fun _ h9 => h9) dX2_stepFan_22 (fun v1 h1 hv1 => ?_)
    obtain rfl := hf.symm.trans h1
    refine lv_iconst (v := 3) hx hb dX2_stepFan_25 (by decide) ?_
    refine lv_icmp_ge (tgt := 56) hx hb dX2_stepFan_26 (by decide) (fun c1 => ?_) (fun c1 => ?_)
    · skip
      refine lv_aload_n hx hb dX2_stepFan_56 rfl (lv_at hl 1 rfl) ?_
      refine z_getF (k := 4) (j := 3) hM hIF hk0 rfl rfl hinX2 rfl (by decide) (by decide +kernel) (fun _ h9 => h9) dX2_stepFan_57 (fun v1 h1 hv1 => ?_)
      obtain rfl := hf.symm.trans h1
      refine lv_if_le (tgt := 87) hx hb dX2_stepFan_60 (by decide) (fun c1 => ?_) (fun c1 => ?_)
      · skip
        exact W.vret hx hb hr (fun t ht hW => ⟨⟨(L, κ, g), rfl, rfl, z_end hK hI ht hW⟩, z_F hI ht⟩) (z_locs hI) dX2_stepFan_87
      · have hx0 : ¬ x.toInt ≤ 0 := fun h => c1 (wi_le.mpr h)
        refine lv_iload_n hx hb dX2_stepFan_63 rfl (lv_at hl 0 rfl) ?_
        refine lv_bipush (v := 25) hx hb dX2_stepFan_64 (by decide) ?_
        refine lv_bipush (v := 10) hx hb dX2_stepFan_66 (by decide) ?_
        refine lv_aload_n hx hb dX2_stepFan_68 rfl (lv_at hl 1 rfl) ?_
        refine z_getF (k := 4) (j := 3) hM hIF hk0 rfl rfl hinX2 rfl (by decide) (by decide +kernel) (fun _ h9 => h9) dX2_stepFan_69 (fun v1 h1 hv1 => ?_)
        obtain rfl := hf.symm.trans h1
        refine lv_imul hx hb dX2_stepFan_72 ?_
        refine lv_iadd hx hb dX2_stepFan_73 ?_
        refine lv_icmp_ge (tgt := 87) hx hb dX2_stepFan_74 (by decide) (fun c1 => ?_) (fun c1 => ?_)
        · skip
          exact W.vret hx hb hr (fun t ht hW => ⟨⟨(L, κ, g), rfl, rfl, z_end hK hI ht hW⟩, z_F hI ht⟩) (z_locs hI) dX2_stepFan_87
        · skip
          refine lv_aload_n hx hb dX2_stepFan_77 rfl (lv_at hl 1 rfl) ?_
          refine lv_dup hx hb dX2_stepFan_78 rfl ?_
          refine z_getF (k := 4) (j := 3) hM hIF hk0 rfl rfl hinX2 rfl (by decide) (by decide +kernel) (fun _ h9 => h9) dX2_stepFan_79 (fun v1 h1 hv1 => ?_)
          obtain rfl := hf.symm.trans h1
          refine lv_iconst (v := 1) hx hb dX2_stepFan_82 (by decide) ?_
          refine lv_isub hx hb dX2_stepFan_83 ?_
          have hr9 : (x - 1).toInt = x.toInt - 1 := wi_sub (by rw [show (1 : Int32).toInt = 1 from rfl]; omega)
          refine z_put (g' := g) (k := 4) (j := 3) hM hI hk0 rfl rfl hinX2 tyX2 tyX2_ok nmX2 rfl (by decide) (by decide +kernel) (fun _ h9 => h9) rfl rfl rfl rfl ⟨_, rfl, by omega, (show (x - 1).toInt < 4 by omega)⟩ (fun _ _ _ => rfl) dX2_stepFan_84 (fun H locs hI => ?_)
          exact W.vret hx hb hr (fun t ht hW => ⟨⟨(L, κ, g), rfl, rfl, z_end hK hI ht hW⟩, z_F hI ht⟩) (z_locs hI) dX2_stepFan_87
    · have hx3 : ¬ 3 ≤ x.toInt := fun h => c1 (wi_le.mpr h)
      refine lv_iload_n hx hb dX2_stepFan_29 rfl (lv_at hl 0 rfl) ?_
      refine lv_bipush (v := 40) hx hb dX2_stepFan_30 (by decide) ?_
      refine lv_bipush (v := 10) hx hb dX2_stepFan_32 (by decide) ?_
      refine lv_aload_n hx hb dX2_stepFan_34 rfl (lv_at hl 1 rfl) ?_
      refine z_getF (k := 4) (j := 3) hM hIF hk0 rfl rfl hinX2 rfl (by decide) (by decide +kernel) (fun _ h9 => h9) dX2_stepFan_35 (fun v1 h1 hv1 => ?_)
      obtain rfl := hf.symm.trans h1
      refine lv_imul hx hb dX2_stepFan_38 ?_
      refine lv_iadd hx hb dX2_stepFan_39 ?_
      refine lv_icmp_lt (tgt := 56) hx hb dX2_stepFan_40 (by decide) (fun c1 => ?_) (fun c1 => ?_)
      · skip
        refine lv_aload_n hx hb dX2_stepFan_56 rfl (lv_at hl 1 rfl) ?_
        refine z_getF (k := 4) (j := 3) hM hIF hk0 rfl rfl hinX2 rfl (by decide) (by decide +kernel) (fun _ h9 => h9) dX2_stepFan_57 (fun v1 h1 hv1 => ?_)
        obtain rfl := hf.symm.trans h1
        refine lv_if_le (tgt := 87) hx hb dX2_stepFan_60 (by decide) (fun c1 => ?_) (fun c1 => ?_)
        · skip
          exact W.vret hx hb hr (fun t ht hW => ⟨⟨(L, κ, g), rfl, rfl, z_end hK hI ht hW⟩, z_F hI ht⟩) (z_locs hI) dX2_stepFan_87
        · have hx0 : ¬ x.toInt ≤ 0 := fun h => c1 (wi_le.mpr h)
          refine lv_iload_n hx hb dX2_stepFan_63 rfl (lv_at hl 0 rfl) ?_
          refine lv_bipush (v := 25) hx hb dX2_stepFan_64 (by decide) ?_
          refine lv_bipush (v := 10) hx hb dX2_stepFan_66 (by decide) ?_
          refine lv_aload_n hx hb dX2_stepFan_68 rfl (lv_at hl 1 rfl) ?_
          refine z_getF (k := 4) (j := 3) hM hIF hk0 rfl rfl hinX2 rfl (by decide) (by decide +kernel) (fun _ h9 => h9) dX2_stepFan_69 (fun v1 h1 hv1 => ?_)
          obtain rfl := hf.symm.trans h1
          refine lv_imul hx hb dX2_stepFan_72 ?_
          refine lv_iadd hx hb dX2_stepFan_73 ?_
          refine lv_icmp_ge (tgt := 87) hx hb dX2_stepFan_74 (by decide) (fun c1 => ?_) (fun c1 => ?_)
          · skip
            exact W.vret hx hb hr (fun t ht hW => ⟨⟨(L, κ, g), rfl, rfl, z_end hK hI ht hW⟩, z_F hI ht⟩) (z_locs hI) dX2_stepFan_87
          · skip
            refine lv_aload_n hx hb dX2_stepFan_77 rfl (lv_at hl 1 rfl) ?_
            refine lv_dup hx hb dX2_stepFan_78 rfl ?_
            refine z_getF (k := 4) (j := 3) hM hIF hk0 rfl rfl hinX2 rfl (by decide) (by decide +kernel) (fun _ h9 => h9) dX2_stepFan_79 (fun v1 h1 hv1 => ?_)
            obtain rfl := hf.symm.trans h1
            refine lv_iconst (v := 1) hx hb dX2_stepFan_82 (by decide) ?_
            refine lv_isub hx hb dX2_stepFan_83 ?_
            have hr9 : (x - 1).toInt = x.toInt - 1 := wi_sub (by rw [show (1 : Int32).toInt = 1 from rfl]; omega)
            refine z_put (g' := g) (k := 4) (j := 3) hM hI hk0 rfl rfl hinX2 tyX2 tyX2_ok nmX2 rfl (by decide) (by decide +kernel) (fun _ h9 => h9) rfl rfl rfl rfl ⟨_, rfl, by omega, (show (x - 1).toInt < 4 by omega)⟩ (fun _ _ _ => rfl) dX2_stepFan_84 (fun H locs hI => ?_)
            exact W.vret hx hb hr (fun t ht hW => ⟨⟨(L, κ, g), rfl, rfl, z_end hK hI ht hW⟩, z_F hI ht⟩) (z_locs hI) dX2_stepFan_87
      · skip
        refine lv_aload_n hx hb dX2_stepFan_43 rfl (lv_at hl 1 rfl) ?_
        refine lv_dup hx hb dX2_stepFan_44 rfl ?_
        refine z_getF (k := 4) (j := 3) hM hIF hk0 rfl rfl hinX2 rfl (by decide) (by decide +kernel) (fun _ h9 => h9) dX2_stepFan_45 (fun v1 h1 hv1 => ?_)
        obtain rfl := hf.symm.trans h1
        refine lv_iconst (v := 1) hx hb dX2_stepFan_48 (by decide) ?_
        refine lv_iadd hx hb dX2_stepFan_49 ?_
        have hr9 : (x + 1).toInt = x.toInt + 1 := wi_add (by rw [show (1 : Int32).toInt = 1 from rfl]; omega)
        refine z_put (g' := g) (k := 4) (j := 3) hM hI hk0 rfl rfl hinX2 tyX2 tyX2_ok nmX2 rfl (by decide) (by decide +kernel) (fun _ h9 => h9) rfl rfl rfl rfl ⟨_, rfl, by omega, (show (x + 1).toInt < 4 by omega)⟩ (fun _ _ _ => rfl) dX2_stepFan_50 (fun H locs hI => ?_)
        refine lv_goto (tgt := 87) hx hb dX2_stepFan_53 (by decide) ?_
        exact W.vret hx hb hr (fun t ht hW => ⟨⟨(L, κ, g), rfl, rfl, z_end hK hI ht hW⟩, z_F hI ht⟩) (z_locs hI) dX2_stepFan_87
  · skip
    exact W.vret hx hb hr (fun t ht hW => ⟨⟨(L, κ, g), rfl, rfl, z_end hK hI ht hW⟩, z_F hI ht⟩) (z_locs hI) dX2_stepFan_7
