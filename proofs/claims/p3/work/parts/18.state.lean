set_option maxHeartbeats 4000000 in
set_option maxRecDepth 100000 in
theorem c_X5_beginToHold (l : Launch) (D : va_G) (tc : Nat → ClassId) (z0 : Nat) (L : List Nat) (κ : Nat → Nat) (g : Nat → Nat → Value) (sz : Nat) (p0 : Nat) (hk0 : κ p0 = 7) (w9 : Int32) (hw9 : g p0 4 = .int w9) : Met l yX5_beginToHold wsX5_beginToHold ({ frames := 0, cells := 0, slots := 0, locals := 0 }) (zPc D tc z0 [.ref p0] [] (L, κ, g) sz) (va_Qv (fun (u : zS) => u = (L, κ, if w9 ≤ 0 then g else zup (zup g p0 2 (.int w9)) p0 4 (.int 0))) (fun (u : zS) (t : State) => zB D tc (zA [] L sz) [] u t) (zA [] L sz)) 0 0 (zA [] L sz) := by
  refine Met.ofW (cc := cX5_beginToHold) (maxL := 1) (ret := none) (by decide) rfl ?_
  intro p e s m args below meth c s₁ B hml hv
  obtain ⟨rfl, rfl, hK, hE, hI⟩ := hv.opn
  have hx := B.exec
  have hb := B.bytes
  have hr := B.returns
  have hts := atoms_spec (ws := wsX5_beginToHold) B.pre
  have hown : s.vm.findClass RX5 = some m.cls := findClass_of_methodNamed B.named
  have hlocks := B.notSynchronized
  have hM : zM p s m c cX5_beginToHold _ wsX5_beginToHold RX5 D tc := ⟨hx, hb, hts, hown, hK⟩
  have hinX5 : ∀ w ∈ wsX50, w ∈ wsX5_beginToHold := by decide +kernel
  have hl := lv_entry ([.ref p0]) (n := 1) (Nat.le_of_ble_eq_true rfl)
  rw [lg_entry_eq]
  generalize (lg_sl ([.ref p0]) ++ List.replicate (1 - (lg_sl ([.ref p0])).length) Slot.unset).toArray = ls at hl ⊢
  have hl : lv_has ls 1 [(0, .ref p0)] := hl
  refine lv_aload_n hx hb dX5_beginToHold_0 rfl (lv_at hl 0 rfl) ?_
  refine z_get (k := 7) (j := 4) hM hI hk0 rfl rfl hinX5 rfl (by decide) (by decide +kernel) (fun _ h9 => h9) dX5_beginToHold_1 (fun v1 hv2 => ?_)
  obtain ⟨hg4, i3, rfl⟩ := hv2
  obtain rfl : w9 = i3 := Value.int.inj ((hw9).symm.trans hg4.symm)
  refine lv_if_le (tgt := 28) hx hb dX5_beginToHold_4 (by decide) (fun c5 => ?_) (fun c5 => ?_)
  · skip
    exact W.vret hx hb hr (fun t ht hW => ⟨⟨(L, κ, g), rfl, (by first | (rw [if_pos (by assumption)]; done) | (rw [if_neg (by assumption)]; done)), z_end hK hI ht hW⟩, z_F hI ht⟩) (z_locs hI) dX5_beginToHold_28
  · skip
    refine lv_aload_n hx hb dX5_beginToHold_7 rfl (lv_at hl 0 rfl) ?_
    refine lv_aload_n hx hb dX5_beginToHold_8 rfl (lv_at hl 0 rfl) ?_
    refine z_get (k := 7) (j := 4) hM hI hk0 rfl rfl hinX5 rfl (by decide) (by decide +kernel) (fun _ h9 => h9) dX5_beginToHold_9 (fun v6 hv7 => ?_)
    obtain ⟨hg9, i8, rfl⟩ := hv7
    obtain rfl : w9 = i8 := Value.int.inj ((hw9).symm.trans hg9.symm)
    refine z_put (g' := (zup g p0 2 (.int w9))) (k := 7) (j := 2) hM hI hk0 rfl rfl hinX5 tyX5 tyX5_ok nmX5 rfl (by decide) (by decide +kernel) (fun _ h9 => h9) rfl rfl rfl rfl ⟨(zup_self _ _ _ _).symm, _, rfl⟩ (fun b i h => zup_ne h) dX5_beginToHold_12 (fun H locs hI => ?_)
    refine lv_aload_n hx hb dX5_beginToHold_15 rfl (lv_at hl 0 rfl) ?_
    refine lv_aload_n hx hb dX5_beginToHold_16 rfl (lv_at hl 0 rfl) ?_
    refine z_get (k := 7) (j := 5) hM hI hk0 rfl rfl hinX5 rfl (by decide) (by decide +kernel) (fun _ h9 => h9) dX5_beginToHold_17 (fun v10 hv11 => ?_)
    obtain ⟨i12, rfl⟩ := hv11
    refine z_put (g' := (zup g p0 2 (.int w9))) (k := 7) (j := 3) hM hI hk0 rfl rfl hinX5 tyX5 tyX5_ok nmX5 rfl (by decide) (by decide +kernel) (fun _ h9 => h9) rfl rfl rfl rfl ⟨_, rfl⟩ (fun _ _ _ => rfl) dX5_beginToHold_20 (fun H locs hI => ?_)
    refine lv_aload_n hx hb dX5_beginToHold_23 rfl (lv_at hl 0 rfl) ?_
    refine lv_iconst (v := 0) hx hb dX5_beginToHold_24 (by decide) ?_
    refine z_put (g' := (zup (zup g p0 2 (.int w9)) p0 4 (.int 0))) (k := 7) (j := 4) hM hI hk0 rfl rfl hinX5 tyX5 tyX5_ok nmX5 rfl (by decide) (by decide +kernel) (fun _ h9 => h9) rfl rfl rfl rfl ⟨(zup_self _ _ _ _).symm, _, rfl⟩ (fun b i h => zup_ne h) dX5_beginToHold_25 (fun H locs hI => ?_)
    exact W.vret hx hb hr (fun t ht hW => ⟨⟨(L, κ, (zup (zup g p0 2 (.int w9)) p0 4 (.int 0))), rfl, (by first | (rw [if_pos (by assumption)]; done) | (rw [if_neg (by assumption)]; done)), z_end hK hI ht hW⟩, z_F hI ht⟩) (z_locs hI) dX5_beginToHold_28

set_option maxHeartbeats 4000000 in
set_option maxRecDepth 100000 in
theorem c_X5_take (l : Launch) (D : va_G) (tc : Nat → ClassId) (z0 : Nat) (L : List Nat) (κ : Nat → Nat) (g : Nat → Nat → Value) (sz : Nat) (p0 : Nat) (hk0 : κ p0 = 7) (p1 : Int32) (p2 : Int32) (n9 : Int32) (hn9 : g p0 0 = .int n9) : Met l yX5_take wsX5_take ({ frames := 0, cells := 0, slots := 0, locals := 0 }) (zPc D tc z0 [.ref p0, .int p1, .int p2] [] (L, κ, g) sz) (va_Qv (fun (u : zS) => u = (L, κ, zup (zup (zup g p0 0 (.int (n9 + 1))) p0 1 (.int p1)) p0 4 (.int p1))) (fun (u : zS) (t : State) => zB D tc (zA [] L sz) [] u t) (zA [] L sz)) 0 0 (zA [] L sz) := by
  refine Met.ofW (cc := cX5_take) (maxL := 3) (ret := none) (by decide) rfl ?_
  intro p e s m args below meth c s₁ B hml hv
  obtain ⟨rfl, rfl, hK, hE, hI⟩ := hv.opn
  have hx := B.exec
  have hb := B.bytes
  have hr := B.returns
  have hts := atoms_spec (ws := wsX5_take) B.pre
  have hown : s.vm.findClass RX5 = some m.cls := findClass_of_methodNamed B.named
  have hlocks := B.notSynchronized
  have hM : zM p s m c cX5_take _ wsX5_take RX5 D tc := ⟨hx, hb, hts, hown, hK⟩
  have hinX5 : ∀ w ∈ wsX50, w ∈ wsX5_take := by decide +kernel
  have hl := lv_entry ([.ref p0, .int p1, .int p2]) (n := 3) (Nat.le_of_ble_eq_true rfl)
  rw [lg_entry_eq]
  generalize (lg_sl ([.ref p0, .int p1, .int p2]) ++ List.replicate (3 - (lg_sl ([.ref p0, .int p1, .int p2])).length) Slot.unset).toArray = ls at hl ⊢
  have hl : lv_has ls 3 [(0, .ref p0), (1, .int p1), (2, .int p2)] := hl
  refine lv_aload_n hx hb dX5_take_0 rfl (lv_at hl 0 rfl) ?_
  refine lv_dup hx hb dX5_take_1 rfl ?_
  refine z_get (k := 7) (j := 0) hM hI hk0 rfl rfl hinX5 rfl (by decide) (by decide +kernel) (fun _ h9 => h9) dX5_take_2 (fun v1 hv2 => ?_)
  obtain ⟨hg4, i3, rfl⟩ := hv2
  obtain rfl : n9 = i3 := Value.int.inj ((hn9).symm.trans hg4.symm)
  refine lv_iconst (v := 1) hx hb dX5_take_5 (by decide) ?_
  refine lv_iadd hx hb dX5_take_6 ?_
  refine lv_topi (fun v5 e6 => ?_)
  refine z_put (g' := (zup g p0 0 (.int v5))) (k := 7) (j := 0) hM hI hk0 rfl rfl hinX5 tyX5 tyX5_ok nmX5 rfl (by decide) (by decide +kernel) (fun _ h9 => h9) rfl rfl rfl rfl ⟨(zup_self _ _ _ _).symm, _, rfl⟩ (fun b i h => zup_ne h) dX5_take_7 (fun H locs hI => ?_)
  refine lv_aload_n hx hb dX5_take_10 rfl (lv_at hl 0 rfl) ?_
  refine lv_iload_n hx hb dX5_take_11 rfl (lv_at hl 1 rfl) ?_
  refine z_put (g' := (zup (zup g p0 0 (.int v5)) p0 1 (.int p1))) (k := 7) (j := 1) hM hI hk0 rfl rfl hinX5 tyX5 tyX5_ok nmX5 rfl (by decide) (by decide +kernel) (fun _ h9 => h9) rfl rfl rfl rfl ⟨(zup_self _ _ _ _).symm, _, rfl⟩ (fun b i h => zup_ne h) dX5_take_12 (fun H locs hI => ?_)
  refine lv_aload_n hx hb dX5_take_15 rfl (lv_at hl 0 rfl) ?_
  refine lv_iload_n hx hb dX5_take_16 rfl (lv_at hl 1 rfl) ?_
  refine z_put (g' := (zup (zup (zup g p0 0 (.int v5)) p0 1 (.int p1)) p0 4 (.int p1))) (k := 7) (j := 4) hM hI hk0 rfl rfl hinX5 tyX5 tyX5_ok nmX5 rfl (by decide) (by decide +kernel) (fun _ h9 => h9) rfl rfl rfl rfl ⟨(zup_self _ _ _ _).symm, _, rfl⟩ (fun b i h => zup_ne h) dX5_take_17 (fun H locs hI => ?_)
  refine lv_aload_n hx hb dX5_take_20 rfl (lv_at hl 0 rfl) ?_
  refine lv_iload_n hx hb dX5_take_21 rfl (lv_at hl 2 rfl) ?_
  refine z_put (g' := (zup (zup (zup g p0 0 (.int v5)) p0 1 (.int p1)) p0 4 (.int p1))) (k := 7) (j := 5) hM hI hk0 rfl rfl hinX5 tyX5 tyX5_ok nmX5 rfl (by decide) (by decide +kernel) (fun _ h9 => h9) rfl rfl rfl rfl ⟨_, rfl⟩ (fun _ _ _ => rfl) dX5_take_22 (fun H locs hI => ?_)
  exact W.vret hx hb hr (fun t ht hW => ⟨⟨(L, κ, (zup (zup (zup g p0 0 (.int v5)) p0 1 (.int p1)) p0 4 (.int p1))), rfl, (by subst_vars; rfl), z_end hK hI ht hW⟩, z_F hI ht⟩) (z_locs hI) dX5_take_25

set_option maxHeartbeats 4000000 in
set_option maxRecDepth 100000 in
theorem c_X5_dropBoth (l : Launch) (D : va_G) (tc : Nat → ClassId) (z0 : Nat) (L : List Nat) (κ : Nat → Nat) (g : Nat → Nat → Value) (sz : Nat) (p0 : Nat) (hk0 : κ p0 = 7) (h9 w9 : Int32) (hh9 : g p0 2 = .int h9) (hw9 : g p0 4 = .int w9) : Met l yX5_dropBoth wsX5_dropBoth ({ frames := 0, cells := 0, slots := 0, locals := 0 }) (zPc D tc z0 [.ref p0] [] (L, κ, g) sz) (va_Qi (fun (r : Int32) (u : zS) => u = (L, κ, zup (zup g p0 2 (.int 0)) p0 4 (.int 0)) ∧ r = (if 0 < h9 then 1 else if w9 ≤ 0 then 0 else 1)) (fun (u : zS) (t : State) => zB D tc (zA [] L sz) [] u t) (zA [] L sz)) 0 0 (zA [] L sz) := by
  refine Met.ofW (cc := cX5_dropBoth) (maxL := 2) (ret := (some .boolean)) (by decide) rfl ?_
  intro p e s m args below meth c s₁ B hml hv
  obtain ⟨rfl, rfl, hK, hE, hI⟩ := hv.opn
  have hx := B.exec
  have hb := B.bytes
  have hr := B.returns
  have hts := atoms_spec (ws := wsX5_dropBoth) B.pre
  have hown : s.vm.findClass RX5 = some m.cls := findClass_of_methodNamed B.named
  have hlocks := B.notSynchronized
  have hM : zM p s m c cX5_dropBoth _ wsX5_dropBoth RX5 D tc := ⟨hx, hb, hts, hown, hK⟩
  have hinX5 : ∀ w ∈ wsX50, w ∈ wsX5_dropBoth := by decide +kernel
  have hl := lv_entry ([.ref p0]) (n := 2) (Nat.le_of_ble_eq_true rfl)
  rw [lg_entry_eq]
  generalize (lg_sl ([.ref p0]) ++ List.replicate (2 - (lg_sl ([.ref p0])).length) Slot.unset).toArray = ls at hl ⊢
  have hl : lv_has ls 2 [(0, .ref p0)] := hl
  refine lv_aload_n hx hb dX5_dropBoth_0 rfl (lv_at hl 0 rfl) ?_
  refine z_get (k := 7) (j := 2) hM hI hk0 rfl rfl hinX5 rfl (by decide) (by decide +kernel) (fun _ h9 => h9) dX5_dropBoth_1 (fun v1 hv2 => ?_)
  obtain ⟨hg4, i3, rfl⟩ := hv2
  obtain rfl : h9 = i3 := Value.int.inj ((hh9).symm.trans hg4.symm)
  refine lv_if_gt (tgt := 14) hx hb dX5_dropBoth_4 (by decide) (fun c5 => ?_) (fun c5 => ?_)
  · skip
    refine lv_iconst (v := 1) hx hb dX5_dropBoth_14 (by decide) ?_
    refine lv_goto (tgt := 19) hx hb dX5_dropBoth_15 (by decide) ?_
    refine lv_istore_n (lv' := [(1, .int 1), (0, .ref p0)]) hx hb dX5_dropBoth_19 rfl hl (by decide) rfl (fun ls hl => ?_)
    refine lv_aload_n hx hb dX5_dropBoth_20 rfl (lv_at hl 1 rfl) ?_
    refine lv_iconst (v := 0) hx hb dX5_dropBoth_21 (by decide) ?_
    refine z_put (g' := (zup g p0 2 (.int 0))) (k := 7) (j := 2) hM hI hk0 rfl rfl hinX5 tyX5 tyX5_ok nmX5 rfl (by decide) (by decide +kernel) (fun _ h9 => h9) rfl rfl rfl rfl ⟨(zup_self _ _ _ _).symm, _, rfl⟩ (fun b i h => zup_ne h) dX5_dropBoth_22 (fun H locs hI => ?_)
    refine lv_aload_n hx hb dX5_dropBoth_25 rfl (lv_at hl 1 rfl) ?_
    refine lv_iconst (v := 0) hx hb dX5_dropBoth_26 (by decide) ?_
    refine z_put (g' := (zup (zup g p0 2 (.int 0)) p0 4 (.int 0))) (k := 7) (j := 4) hM hI hk0 rfl rfl hinX5 tyX5 tyX5_ok nmX5 rfl (by decide) (by decide +kernel) (fun _ h9 => h9) rfl rfl rfl rfl ⟨(zup_self _ _ _ _).symm, _, rfl⟩ (fun b i h => zup_ne h) dX5_dropBoth_27 (fun H locs hI => ?_)
    refine lv_iload_n hx hb dX5_dropBoth_30 rfl (lv_at hl 0 rfl) ?_
    exact W.zret (v := 1) hx hb hr (by decide) (fun t ht hW => ⟨⟨_, (L, κ, (zup (zup g p0 2 (.int 0)) p0 4 (.int 0))), rfl, ⟨rfl, by simp [*]⟩, z_end hK hI ht hW⟩, z_F hI ht⟩) (z_locs hI) dX5_dropBoth_31
  · skip
    refine lv_aload_n hx hb dX5_dropBoth_7 rfl (lv_at hl 0 rfl) ?_
    refine z_get (k := 7) (j := 4) hM hI hk0 rfl rfl hinX5 rfl (by decide) (by decide +kernel) (fun _ h9 => h9) dX5_dropBoth_8 (fun v6 hv7 => ?_)
    obtain ⟨hg9, i8, rfl⟩ := hv7
    obtain rfl : w9 = i8 := Value.int.inj ((hw9).symm.trans hg9.symm)
    refine lv_if_le (tgt := 18) hx hb dX5_dropBoth_11 (by decide) (fun c10 => ?_) (fun c10 => ?_)
    · skip
      refine lv_iconst (v := 0) hx hb dX5_dropBoth_18 (by decide) ?_
      refine lv_istore_n (lv' := [(1, .int 0), (0, .ref p0)]) hx hb dX5_dropBoth_19 rfl hl (by decide) rfl (fun ls hl => ?_)
      refine lv_aload_n hx hb dX5_dropBoth_20 rfl (lv_at hl 1 rfl) ?_
      refine lv_iconst (v := 0) hx hb dX5_dropBoth_21 (by decide) ?_
      refine z_put (g' := (zup g p0 2 (.int 0))) (k := 7) (j := 2) hM hI hk0 rfl rfl hinX5 tyX5 tyX5_ok nmX5 rfl (by decide) (by decide +kernel) (fun _ h9 => h9) rfl rfl rfl rfl ⟨(zup_self _ _ _ _).symm, _, rfl⟩ (fun b i h => zup_ne h) dX5_dropBoth_22 (fun H locs hI => ?_)
      refine lv_aload_n hx hb dX5_dropBoth_25 rfl (lv_at hl 1 rfl) ?_
      refine lv_iconst (v := 0) hx hb dX5_dropBoth_26 (by decide) ?_
      refine z_put (g' := (zup (zup g p0 2 (.int 0)) p0 4 (.int 0))) (k := 7) (j := 4) hM hI hk0 rfl rfl hinX5 tyX5 tyX5_ok nmX5 rfl (by decide) (by decide +kernel) (fun _ h9 => h9) rfl rfl rfl rfl ⟨(zup_self _ _ _ _).symm, _, rfl⟩ (fun b i h => zup_ne h) dX5_dropBoth_27 (fun H locs hI => ?_)
      refine lv_iload_n hx hb dX5_dropBoth_30 rfl (lv_at hl 0 rfl) ?_
      exact W.zret (v := 0) hx hb hr (by decide) (fun t ht hW => ⟨⟨_, (L, κ, (zup (zup g p0 2 (.int 0)) p0 4 (.int 0))), rfl, ⟨rfl, by simp [*]⟩, z_end hK hI ht hW⟩, z_F hI ht⟩) (z_locs hI) dX5_dropBoth_31
    · skip
      refine lv_iconst (v := 1) hx hb dX5_dropBoth_14 (by decide) ?_
      refine lv_goto (tgt := 19) hx hb dX5_dropBoth_15 (by decide) ?_
      refine lv_istore_n (lv' := [(1, .int 1), (0, .ref p0)]) hx hb dX5_dropBoth_19 rfl hl (by decide) rfl (fun ls hl => ?_)
      refine lv_aload_n hx hb dX5_dropBoth_20 rfl (lv_at hl 1 rfl) ?_
      refine lv_iconst (v := 0) hx hb dX5_dropBoth_21 (by decide) ?_
      refine z_put (g' := (zup g p0 2 (.int 0))) (k := 7) (j := 2) hM hI hk0 rfl rfl hinX5 tyX5 tyX5_ok nmX5 rfl (by decide) (by decide +kernel) (fun _ h9 => h9) rfl rfl rfl rfl ⟨(zup_self _ _ _ _).symm, _, rfl⟩ (fun b i h => zup_ne h) dX5_dropBoth_22 (fun H locs hI => ?_)
      refine lv_aload_n hx hb dX5_dropBoth_25 rfl (lv_at hl 1 rfl) ?_
      refine lv_iconst (v := 0) hx hb dX5_dropBoth_26 (by decide) ?_
      refine z_put (g' := (zup (zup g p0 2 (.int 0)) p0 4 (.int 0))) (k := 7) (j := 4) hM hI hk0 rfl rfl hinX5 tyX5 tyX5_ok nmX5 rfl (by decide) (by decide +kernel) (fun _ h9 => h9) rfl rfl rfl rfl ⟨(zup_self _ _ _ _).symm, _, rfl⟩ (fun b i h => zup_ne h) dX5_dropBoth_27 (fun H locs hI => ?_)
      refine lv_iload_n hx hb dX5_dropBoth_30 rfl (lv_at hl 0 rfl) ?_
      exact W.zret (v := 1) hx hb hr (by decide) (fun t ht hW => ⟨⟨_, (L, κ, (zup (zup g p0 2 (.int 0)) p0 4 (.int 0))), rfl, ⟨rfl, by simp [*]⟩, z_end hK hI ht hW⟩, z_F hI ht⟩) (z_locs hI) dX5_dropBoth_31

set_option maxHeartbeats 4000000 in
set_option maxRecDepth 100000 in
theorem c_X8_drop (l : Launch) (D : va_G) (tc : Nat → ClassId) (z0 : Nat) (L : List Nat) (κ : Nat → Nat) (g : Nat → Nat → Value) (sz : Nat) (p0 : Nat) (hk0 : κ p0 = 10) (rq : Nat) (hR : g p0 5 = .ref rq) (h9 w9 : Int32) (hh9 : g rq 2 = .int h9) (hw9 : g rq 4 = .int w9) : Met l yX8_drop wsX8_drop ({ frames := 1, cells := 0, slots := 0, locals := 21 }) (zPc D tc z0 [.ref p0] [] (L, κ, g) sz) (va_Qi (fun (r : Int32) (u : zS) => u = (L, κ, zup (zup g rq 2 (.int 0)) rq 4 (.int 0)) ∧ r = (if 0 < h9 then 1 else if w9 ≤ 0 then 0 else 1)) (fun (u : zS) (t : State) => zB D tc (zA [] L sz) [] u t) (zA [] L sz)) 0 0 (zA [] L sz) := by
  refine Met.ofW (cc := cX8_drop) (maxL := 1) (ret := (some .boolean)) (by decide) rfl ?_
  intro p e s m args below meth c s₁ B hml hv
  obtain ⟨rfl, rfl, hK, hE, hI⟩ := hv.opn
  have hx := B.exec
  have hb := B.bytes
  have hr := B.returns
  have hts := atoms_spec (ws := wsX8_drop) B.pre
  have hown : s.vm.findClass RX8 = some m.cls := findClass_of_methodNamed B.named
  have hlocks := B.notSynchronized
  have hM : zM p s m c cX8_drop _ wsX8_drop RX8 D tc := ⟨hx, hb, hts, hown, hK⟩
  have hinX8 : ∀ w ∈ wsX80, w ∈ wsX8_drop := by decide +kernel
  have hl := lv_entry ([.ref p0]) (n := 1) (Nat.le_of_ble_eq_true rfl)
  rw [lg_entry_eq]
  generalize (lg_sl ([.ref p0]) ++ List.replicate (1 - (lg_sl ([.ref p0])).length) Slot.unset).toArray = ls at hl ⊢
  have hl : lv_has ls 1 [(0, .ref p0)] := hl
  refine lv_aload_n hx hb dX8_drop_0 rfl (lv_at hl 0 rfl) ?_
  refine z_get (k := 10) (j := 5) hM hI hk0 rfl rfl hinX8 rfl (by decide) (by decide +kernel) (fun _ h9 => h9) dX8_drop_1 (fun v1 hv2 => ?_)
  obtain ⟨hg4, i3, rfl, hr5⟩ := hv2
  obtain rfl : rq = i3 := Value.ref.inj ((hR).symm.trans hg4.symm)
  refine z_ci hI (va_runV (As := []) (rest := []) ⟨hx, hb, hml, hown, hts⟩ (c_X5_dropBoth l _ _ _ _ _ _ _ rq hr5 h9 w9 hh9 hw9) (cwV 0 hts gX8_drop_X5_dropBoth rfl rfl rfl (by decide +kernel) ⟨Nat.le_of_ble_eq_true rfl, Nat.le_of_ble_eq_true rfl⟩) (z_preV hK hE hI [] rfl rfl (z_recv hK hI hr5 rfl rfl)) rfl rfl hl.1 rfl (lv_room (Nat.le_of_ble_eq_true rfl)) dX8_drop_4 ⟨Nat.le_of_ble_eq_true rfl, Nat.le_of_ble_eq_true rfl⟩) (fun v6 u H locs hw7 hI => ?_)
  obtain ⟨rfl, hrr⟩ := hw7
  exact W.zret (v := v6) hx hb hr (z_bn (by rw [hrr]; split <;> (try split) <;> simp)) (fun t ht hW => ⟨⟨_, (L, κ, (zup (zup g rq 2 (.int 0)) rq 4 (.int 0))), rfl, ⟨rfl, hrr⟩, z_end hK hI ht hW⟩, z_F hI ht⟩) (z_locs hI) dX8_drop_7

set_option maxHeartbeats 4000000 in
set_option maxRecDepth 100000 in
theorem c_X8_holds (l : Launch) (D : va_G) (tc : Nat → ClassId) (z0 : Nat) (L : List Nat) (κ : Nat → Nat) (g : Nat → Nat → Value) (sz : Nat) (p0 : Nat) (hk0 : κ p0 = 10) (rq : Nat) (hR : g p0 5 = .ref rq) : Met l yX8_holds wsX8_holds ({ frames := 0, cells := 0, slots := 0, locals := 0 }) (zPc D tc z0 [.ref p0] [] (L, κ, g) sz) (va_Qi (fun (r : Int32) (u : zS) => g rq 2 = .int r ∧ u = (L, κ, g)) (fun (u : zS) (t : State) => zB D tc (zA [] L sz) [] u t) (zA [] L sz)) 0 0 (zA [] L sz) := by
  refine Met.ofW (cc := cX8_holds) (maxL := 1) (ret := (some .int)) (by decide) rfl ?_
  intro p e s m args below meth c s₁ B hml hv
  obtain ⟨rfl, rfl, hK, hE, hI⟩ := hv.opn
  have hx := B.exec
  have hb := B.bytes
  have hr := B.returns
  have hts := atoms_spec (ws := wsX8_holds) B.pre
  have hown : s.vm.findClass RX8 = some m.cls := findClass_of_methodNamed B.named
  have hlocks := B.notSynchronized
  have hM : zM p s m c cX8_holds _ wsX8_holds RX8 D tc := ⟨hx, hb, hts, hown, hK⟩
  have hinX8 : ∀ w ∈ wsX80, w ∈ wsX8_holds := by decide +kernel
  have hinX5 : ∀ w ∈ wsX50, w ∈ wsX8_holds := by decide +kernel
  have hl := lv_entry ([.ref p0]) (n := 1) (Nat.le_of_ble_eq_true rfl)
  rw [lg_entry_eq]
  generalize (lg_sl ([.ref p0]) ++ List.replicate (1 - (lg_sl ([.ref p0])).length) Slot.unset).toArray = ls at hl ⊢
  have hl : lv_has ls 1 [(0, .ref p0)] := hl
  refine lv_aload_n hx hb dX8_holds_0 rfl (lv_at hl 0 rfl) ?_
  refine z_get (k := 10) (j := 5) hM hI hk0 rfl rfl hinX8 rfl (by decide) (by decide +kernel) (fun _ h9 => h9) dX8_holds_1 (fun v1 hv2 => ?_)
  obtain ⟨hg4, i3, rfl, hr5⟩ := hv2
  obtain rfl : rq = i3 := Value.ref.inj ((hR).symm.trans hg4.symm)
  refine z_get (k := 7) (j := 2) hM hI hr5 rfl rfl hinX5 rfl (by decide) (by decide +kernel) (fun _ h9 => h9) dX8_holds_4 (fun v6 hv7 => ?_)
  obtain ⟨hg9, i8, rfl⟩ := hv7
  exact W.iret (v := i8) hx hb hr (fun t ht hW => ⟨⟨_, (L, κ, g), rfl, ⟨hg9.symm, rfl⟩, z_end hK hI ht hW⟩, z_F hI ht⟩) (z_locs hI) dX8_holds_7

set_option maxHeartbeats 4000000 in
set_option maxRecDepth 100000 in
theorem c_X8_why (l : Launch) (D : va_G) (tc : Nat → ClassId) (z0 : Nat) (L : List Nat) (κ : Nat → Nat) (g : Nat → Nat → Value) (sz : Nat) (p0 : Nat) (hk0 : κ p0 = 10) (rq : Nat) (hR : g p0 5 = .ref rq) : Met l yX8_why wsX8_why ({ frames := 0, cells := 0, slots := 0, locals := 0 }) (zPc D tc z0 [.ref p0] [] (L, κ, g) sz) (va_Qi (fun (r : Int32) (u : zS) => g rq 6 = .int r ∧ u = (L, κ, g)) (fun (u : zS) (t : State) => zB D tc (zA [] L sz) [] u t) (zA [] L sz)) 0 0 (zA [] L sz) := by
  refine Met.ofW (cc := cX8_why) (maxL := 1) (ret := (some .char)) (by decide) rfl ?_
  intro p e s m args below meth c s₁ B hml hv
  obtain ⟨rfl, rfl, hK, hE, hI⟩ := hv.opn
  have hx := B.exec
  have hb := B.bytes
  have hr := B.returns
  have hts := atoms_spec (ws := wsX8_why) B.pre
  have hown : s.vm.findClass RX8 = some m.cls := findClass_of_methodNamed B.named
  have hlocks := B.notSynchronized
  have hM : zM p s m c cX8_why _ wsX8_why RX8 D tc := ⟨hx, hb, hts, hown, hK⟩
  have hinX8 : ∀ w ∈ wsX80, w ∈ wsX8_why := by decide +kernel
  have hinX5 : ∀ w ∈ wsX50, w ∈ wsX8_why := by decide +kernel
  have hl := lv_entry ([.ref p0]) (n := 1) (Nat.le_of_ble_eq_true rfl)
  rw [lg_entry_eq]
  generalize (lg_sl ([.ref p0]) ++ List.replicate (1 - (lg_sl ([.ref p0])).length) Slot.unset).toArray = ls at hl ⊢
  have hl : lv_has ls 1 [(0, .ref p0)] := hl
  refine lv_aload_n hx hb dX8_why_0 rfl (lv_at hl 0 rfl) ?_
  refine z_get (k := 10) (j := 5) hM hI hk0 rfl rfl hinX8 rfl (by decide) (by decide +kernel) (fun _ h9 => h9) dX8_why_1 (fun v1 hv2 => ?_)
  obtain ⟨hg4, i3, rfl, hr5⟩ := hv2
  obtain rfl : rq = i3 := Value.ref.inj ((hR).symm.trans hg4.symm)
  refine z_get (k := 7) (j := 6) hM hI hr5 rfl rfl hinX5 rfl (by decide) (by decide +kernel) (fun _ h9 => h9) dX8_why_4 (fun v6 hv7 => ?_)
  obtain ⟨hg9, i8, rfl, hf10⟩ := hv7
  exact W.zret (v := i8) hx hb hr (z_cn (by assumption)) (fun t ht hW => ⟨⟨_, (L, κ, g), rfl, ⟨hg9.symm, rfl⟩, z_end hK hI ht hW⟩, z_F hI ht⟩) (z_locs hI) dX8_why_7

set_option maxHeartbeats 4000000 in
set_option maxRecDepth 100000 in
theorem c_X8_killFan (l : Launch) (D : va_G) (tc : Nat → ClassId) (z0 : Nat) (L : List Nat) (κ : Nat → Nat) (g : Nat → Nat → Value) (sz : Nat) (p0 : Nat) (hk0 : κ p0 = 10) (p1 : Int32) (hz1 : p1 = 0 ∨ p1 = 1) (co : Nat) (hO : g p0 3 = .ref co) : Met l yX8_killFan wsX8_killFan ({ frames := 0, cells := 0, slots := 0, locals := 0 }) (zPc D tc z0 [.ref p0, .int p1] [] (L, κ, g) sz) (va_Qi (fun (r : Int32) (u : zS) => g co 4 = .int r ∧ (r = 0 ∨ r = 1) ∧ u = (L, κ, zup g co 4 (.int p1))) (fun (u : zS) (t : State) => zB D tc (zA [] L sz) [] u t) (zA [] L sz)) 0 0 (zA [] L sz) := by
  refine Met.ofW (cc := cX8_killFan) (maxL := 3) (ret := (some .boolean)) (by decide) rfl ?_
  intro p e s m args below meth c s₁ B hml hv
  obtain ⟨rfl, rfl, hK, hE, hI⟩ := hv.opn
  have hx := B.exec
  have hb := B.bytes
  have hr := B.returns
  have hts := atoms_spec (ws := wsX8_killFan) B.pre
  have hown : s.vm.findClass RX8 = some m.cls := findClass_of_methodNamed B.named
  have hlocks := B.notSynchronized
  have hM : zM p s m c cX8_killFan _ wsX8_killFan RX8 D tc := ⟨hx, hb, hts, hown, hK⟩
  have hinX8 : ∀ w ∈ wsX80, w ∈ wsX8_killFan := by decide +kernel
  have hinX2 : ∀ w ∈ wsX20, w ∈ wsX8_killFan := by decide +kernel
  have hl := lv_entry ([.ref p0, .int p1]) (n := 3) (Nat.le_of_ble_eq_true rfl)
  rw [lg_entry_eq]
  generalize (lg_sl ([.ref p0, .int p1]) ++ List.replicate (3 - (lg_sl ([.ref p0, .int p1])).length) Slot.unset).toArray = ls at hl ⊢
  have hl : lv_has ls 3 [(0, .ref p0), (1, .int p1)] := hl
  refine lv_aload_n hx hb dX8_killFan_0 rfl (lv_at hl 0 rfl) ?_
  refine z_get (k := 10) (j := 3) hM hI hk0 rfl rfl hinX8 rfl (by decide) (by decide +kernel) (fun _ h9 => h9) dX8_killFan_1 (fun v1 hv2 => ?_)
  obtain ⟨hg4, i3, rfl, hr5⟩ := hv2
  obtain rfl : co = i3 := Value.ref.inj ((hO).symm.trans hg4.symm)
  refine z_get (k := 4) (j := 4) hM hI hr5 rfl rfl hinX2 rfl (by decide) (by decide +kernel) (fun _ h9 => h9) dX8_killFan_4 (fun v6 hv7 => ?_)
  obtain ⟨hg9, i8, rfl, hz10⟩ := zv_tb hv7
  refine lv_istore_n (lv' := [(2, .int i8), (0, .ref p0), (1, .int p1)]) hx hb dX8_killFan_7 rfl hl (by decide) rfl (fun ls hl => ?_)
  refine lv_aload_n hx hb dX8_killFan_8 rfl (lv_at hl 1 rfl) ?_
  refine z_get (k := 10) (j := 3) hM hI hk0 rfl rfl hinX8 rfl (by decide) (by decide +kernel) (fun _ h9 => h9) dX8_killFan_9 (fun v11 hv12 => ?_)
  obtain ⟨hg14, i13, rfl, hr15⟩ := hv12
  obtain rfl : co = i13 := Value.ref.inj ((hO).symm.trans hg14.symm)
  refine lv_iload_n hx hb dX8_killFan_12 rfl (lv_at hl 2 rfl) ?_
  refine z_put (g' := (zup g co 4 (.int p1))) (k := 4) (j := 4) hM hI hr15 rfl rfl hinX2 tyX2 tyX2_ok nmX2 rfl (by decide) (by decide +kernel) (fun _ h9 => h9) rfl rfl (z_bn (by assumption)) (z_bf (by assumption)) ⟨(zup_self _ _ _ _).symm, z_bv (by assumption)⟩ (fun b i h => zup_ne h) dX8_killFan_13 (fun H locs hI => ?_)
  refine lv_iload_n hx hb dX8_killFan_16 rfl (lv_at hl 2 rfl) ?_
  refine lv_if_eq (tgt := 28) hx hb dX8_killFan_17 (by decide) (fun c16 => ?_) (fun c16 => ?_)
  · skip
    refine lv_iload_n hx hb dX8_killFan_28 rfl (lv_at hl 0 rfl) ?_
    exact W.zret (v := i8) hx hb hr (z_bn (by assumption)) (fun t ht hW => ⟨⟨_, (L, κ, (zup g co 4 (.int p1))), rfl, ⟨hg9.symm, by assumption, rfl⟩, z_end hK hI ht hW⟩, z_F hI ht⟩) (z_locs hI) dX8_killFan_29
  · skip
    refine lv_aload_n hx hb dX8_killFan_20 rfl (lv_at hl 1 rfl) ?_
    refine z_get (k := 10) (j := 3) hM hI hk0 rfl rfl hinX8 rfl (by decide) (by decide +kernel) (fun _ h9 => h9) dX8_killFan_21 (fun v17 hv18 => ?_)
    obtain ⟨hg20, i19, rfl, hr21⟩ := hv18
    obtain rfl : co = i19 := Value.ref.inj ((((zup_ne (Or.inr (by decide))).trans hO)).symm.trans hg20.symm)
    refine lv_iconst (v := 0) hx hb dX8_killFan_24 (by decide) ?_
    refine z_put (g' := (zup g co 4 (.int p1))) (k := 4) (j := 3) hM hI hr21 rfl rfl hinX2 tyX2 tyX2_ok nmX2 rfl (by decide) (by decide +kernel) (fun _ h9 => h9) rfl rfl rfl rfl ⟨_, rfl⟩ (fun _ _ _ => rfl) dX8_killFan_25 (fun H locs hI => ?_)
    refine lv_iload_n hx hb dX8_killFan_28 rfl (lv_at hl 0 rfl) ?_
    exact W.zret (v := i8) hx hb hr (z_bn (by assumption)) (fun t ht hW => ⟨⟨_, (L, κ, (zup g co 4 (.int p1))), rfl, ⟨hg9.symm, by assumption, rfl⟩, z_end hK hI ht hW⟩, z_F hI ht⟩) (z_locs hI) dX8_killFan_29

set_option maxHeartbeats 4000000 in
set_option maxRecDepth 100000 in
theorem c_X8_lose (l : Launch) (hnt : l.stackTraces = false) (D : va_G) (tc : Nat → ClassId) (z0 : Nat) (L : List Nat) (κ : Nat → Nat) (g : Nat → Nat → Value) (sz : Nat) (p0 : Nat) (hk0 : κ p0 = 10) (p1 : Int32) (p2 : Int32) (hz2 : p2 = 0 ∨ p2 = 1) (aC : Nat) (hC : g p0 1 = .ref aC) : vx_Met l yX8_lose wsX8_lose ({ frames := 7, cells := 1, slots := 6, locals := 120 }) (zPc D tc z0 [.ref p0, .int p1, .int p2] [] (L, κ, g) sz) (va_Qi (fun (r : Int32) (u : zS) => ∃ a : Nat, κ a = 5 ∧ vp_in p1 6 ∧ g aC p1.toNatClampNeg = .ref a ∧ g a 17 = .int r ∧ (r = 0 ∨ r = 1) ∧ u = (L, κ, zup g a 17 (.int p2))) (fun (u : zS) (t : State) => zB D tc (zA [] L sz) [] u t) (zA [] L sz)) (vx_X (fun u : zS => True) (fun (E : String) (u : zS) (t : State) => (((E = "java/lang/IndexOutOfBoundsException" ∧ ¬ zHas g aC 6 p1)) ∧ u = (L, κ, g)) ∧ zB D tc (zA [] L sz) [] u t) (zA [] L sz)) 1 6 (zA [] L sz) := by
  refine vx_ofW (cc := cX8_lose) (maxL := 5) (ret := (some .boolean)) (by decide) rfl ?_
  intro p e s m args below meth c s₁ B hml hxt hv
  obtain ⟨rfl, rfl, hK, hE, hI⟩ := hv.opn
  have hx := B.exec
  have hb := B.bytes
  have hr := B.returns
  have hts := atoms_spec (ws := wsX8_lose) B.pre
  have hown : s.vm.findClass RX8 = some m.cls := findClass_of_methodNamed B.named
  have hlocks := B.notSynchronized
  have hout : ∀ (i : Nat), ∀ x ∈ c.exceptionTable.toList, covers x i = false := fun i x hx9 => (hxt x hx9).elim
  have hM : zM p s m c cX8_lose _ wsX8_lose RX8 D tc := ⟨hx, hb, hts, hown, hK⟩
  have hinX3 : ∀ w ∈ wsX30, w ∈ wsX8_lose := by decide +kernel
  have hl := lv_entry ([.ref p0, .int p1, .int p2]) (n := 5) (Nat.le_of_ble_eq_true rfl)
  rw [lg_entry_eq]
  generalize (lg_sl ([.ref p0, .int p1, .int p2]) ++ List.replicate (5 - (lg_sl ([.ref p0, .int p1, .int p2])).length) Slot.unset).toArray = ls at hl ⊢
  have hl : lv_has ls 5 [(0, .ref p0), (1, .int p1), (2, .int p2)] := hl
  refine lv_aload_n hx hb dX8_lose_0 rfl (lv_at hl 0 rfl) ?_
  refine lv_iload_n hx hb dX8_lose_1 rfl (lv_at hl 1 rfl) ?_
  refine z_xq hI (vx_runV (As := [.int p1]) (rest := []) ⟨hx, hb, hml, hown, hts⟩ (c_X8_coreAt l hnt _ _ _ _ _ _ _ p0 hk0 p1 aC hC) (cwV 1 hts gX8_lose_X8_coreAt rfl rfl rfl (by decide +kernel) ⟨Nat.le_of_ble_eq_true rfl, Nat.le_of_ble_eq_true rfl⟩) (z_preV hK hE hI [] rfl rfl (z_recv hK hI hk0 rfl rfl)) rfl rfl hl.1 rfl (lv_room (Nat.le_of_ble_eq_true rfl)) dX8_lose_2 ⟨Nat.le_of_ble_eq_true rfl, Nat.le_of_ble_eq_true rfl⟩) (fun E ce q9 u H locs hw hI he1 he2 he3 => ?_) (fun v1 u H locs hw2 hI => ?_)
  · obtain ⟨hxp, rfl⟩ := hw
    exact z_pass hK hI hout hlocks he1 he2 he3 (by first | exact ⟨hxp, rfl⟩ | exact ⟨Or.inl hxp, rfl⟩ | exact ⟨Or.inr hxp, rfl⟩ | exact ⟨Or.inr (Or.inl hxp), rfl⟩ | exact ⟨Or.inr (Or.inr hxp), rfl⟩) (Nat.le_of_ble_eq_true rfl) (Nat.le_of_ble_eq_true rfl)
  obtain ⟨r3, rfl, hr4, hq5, rfl⟩ := hw2
  show W p l e (headSpec wsX8_lose ({ frames := 7, cells := 1, slots := 6, locals := 120 })).room s m ([.ref p0, .int p1, .int p2] : List Value).toArray below meth c _ _ 1 6 (vx_MQ below (va_Qi (fun (r : Int32) (u : zS) => ∃ a : Nat, κ a = 5 ∧ vp_in p1 6 ∧ g aC p1.toNatClampNeg = .ref a ∧ g a 17 = .int r ∧ (r = 0 ∨ r = 1) ∧ u = (L, κ, zup g a 17 (.int p2))) (fun (u : zS) (t : State) => zB D tc (zA [] L s.heap.size) [] u t) (zA [] L s.heap.size)) (vx_X (fun u : zS => True) (fun (E : String) (u : zS) (t : State) => (((E = "java/lang/IndexOutOfBoundsException" ∧ ¬ zHas g aC 6 p1)) ∧ u = (L, κ, g)) ∧ zB D tc (zA [] L s.heap.size) [] u t) (zA [] L s.heap.size)) ([.ref p0, .int p1, .int p2] : List Value).toArray s 1 6 (zA [] L s.heap.size)) (F0 m 5 ls (.ref r3 :: []))
  refine lv_astore_n (lv' := [(3, .ref r3), (0, .ref p0), (1, .int p1), (2, .int p2)]) hx hb dX8_lose_5 rfl hl (by decide) rfl (fun ls hl => ?_)
  refine lv_aload_n hx hb dX8_lose_6 rfl (lv_at hl 0 rfl) ?_
  refine z_get (k := 5) (j := 17) hM hI hr4 rfl rfl hinX3 rfl (by decide) (by decide +kernel) (fun _ h9 => h9) dX8_lose_7 (fun v6 hv7 => ?_)
  obtain ⟨hg9, i8, rfl, hz10⟩ := zv_tb hv7
  refine lv_istore (lv' := [(4, .int i8), (3, .ref r3), (0, .ref p0), (1, .int p1), (2, .int p2)]) hx hb dX8_lose_10 hl (by decide) rfl (fun ls hl => ?_)
  refine lv_aload_n hx hb dX8_lose_12 rfl (lv_at hl 1 rfl) ?_
  refine lv_iload_n hx hb dX8_lose_13 rfl (lv_at hl 4 rfl) ?_
  refine z_put (g' := (zup g r3 17 (.int p2))) (k := 5) (j := 17) hM hI hr4 rfl rfl hinX3 tyX3 tyX3_ok nmX3 rfl (by decide) (by decide +kernel) (fun _ h9 => h9) rfl rfl (z_bn (by assumption)) (z_bf (by assumption)) ⟨(zup_self _ _ _ _).symm, z_bv (by assumption)⟩ (fun b i h => zup_ne h) dX8_lose_14 (fun H locs hI => ?_)
  refine lv_iload hx hb dX8_lose_17 (lv_at hl 0 rfl) ?_
  refine vx_ret ?_
  exact W.zret (v := i8) hx hb hr (z_bn (by assumption)) (fun t ht hW => ⟨⟨_, (L, κ, (zup g r3 17 (.int p2))), rfl, ⟨_, by assumption, hq5.1, hq5.2, hg9.symm, by assumption, rfl⟩, z_end hK hI ht hW⟩, z_F hI ht⟩) (z_locs hI) dX8_lose_19

set_option maxHeartbeats 4000000 in
set_option maxRecDepth 100000 in
theorem c_X8_governor (l : Launch) (hnt : l.stackTraces = false) (D : va_G) (tc : Nat → ClassId) (z0 : Nat) (L : List Nat) (κ : Nat → Nat) (g : Nat → Nat → Value) (sz : Nat) (p0 : Nat) (hk0 : κ p0 = 10) (p1 : Int32) (p2 : Int32) (hc2 : fits .char (.int p2) = true) (p3 : Int32) (aC : Nat) (hC : g p0 1 = .ref aC) : vx_Met l yX8_governor wsX8_governor ({ frames := 7, cells := 2, slots := 12, locals := 120 }) (zPc D tc z0 [.ref p0, .int p1, .int p2, .int p3] [] (L, κ, g) sz) (va_Qi (fun (r : Int32) (u : zS) => ∃ a : Nat, κ a = 5 ∧ vp_in p1 6 ∧ g aC p1.toNatClampNeg = .ref a ∧ g a 3 = .int r ∧ (p2 = 108 ∨ p2 = 119 ∨ (p2 = 102 ∧ 0 ≤ p3 ∧ p3 ≤ 7)) ∧ u = (L, κ, zup g a 3 (.int p2))) (fun (u : zS) (t : State) => zB D tc (zA [] L sz) [] u t) (zA [] L sz)) (vx_X (fun u : zS => True) (fun (E : String) (u : zS) (t : State) => (((E = "java/lang/IndexOutOfBoundsException" ∧ ¬ zHas g aC 6 p1) ∨ (E = "java/lang/IllegalArgumentException" ∧ zHas g aC 6 p1 ∧ ¬ (p2 = 108 ∨ p2 = 119 ∨ (p2 = 102 ∧ 0 ≤ p3 ∧ p3 ≤ 7)))) ∧ u = (L, κ, g)) ∧ zB D tc (zA [] L sz) [] u t) (zA [] L sz)) 2 12 (zA [] L sz) := by
  refine vx_ofW (cc := cX8_governor) (maxL := 6) (ret := (some .char)) (by decide) rfl ?_
  intro p e s m args below meth c s₁ B hml hxt hv
  obtain ⟨rfl, rfl, hK, hE, hI⟩ := hv.opn
  have hx := B.exec
  have hb := B.bytes
  have hr := B.returns
  have hts := atoms_spec (ws := wsX8_governor) B.pre
  have hown : s.vm.findClass RX8 = some m.cls := findClass_of_methodNamed B.named
  have hlocks := B.notSynchronized
  have hout : ∀ (i : Nat), ∀ x ∈ c.exceptionTable.toList, covers x i = false := fun i x hx9 => (hxt x hx9).elim
  have hM : zM p s m c cX8_governor _ wsX8_governor RX8 D tc := ⟨hx, hb, hts, hown, hK⟩
  have hinX3 : ∀ w ∈ wsX30, w ∈ wsX8_governor := by decide +kernel
  have hl := lv_entry ([.ref p0, .int p1, .int p2, .int p3]) (n := 6) (Nat.le_of_ble_eq_true rfl)
  rw [lg_entry_eq]
  generalize (lg_sl ([.ref p0, .int p1, .int p2, .int p3]) ++ List.replicate (6 - (lg_sl ([.ref p0, .int p1, .int p2, .int p3])).length) Slot.unset).toArray = ls at hl ⊢
  have hl : lv_has ls 6 [(0, .ref p0), (1, .int p1), (2, .int p2), (3, .int p3)] := hl
  refine lv_aload_n hx hb dX8_governor_0 rfl (lv_at hl 0 rfl) ?_
  refine lv_iload_n hx hb dX8_governor_1 rfl (lv_at hl 1 rfl) ?_
  refine z_xq hI (vx_runV (As := [.int p1]) (rest := []) ⟨hx, hb, hml, hown, hts⟩ (c_X8_coreAt l hnt _ _ _ _ _ _ _ p0 hk0 p1 aC hC) (cwV 1 hts gX8_governor_X8_coreAt rfl rfl rfl (by decide +kernel) ⟨Nat.le_of_ble_eq_true rfl, Nat.le_of_ble_eq_true rfl⟩) (z_preV hK hE hI [] rfl rfl (z_recv hK hI hk0 rfl rfl)) rfl rfl hl.1 rfl (lv_room (Nat.le_of_ble_eq_true rfl)) dX8_governor_2 ⟨Nat.le_of_ble_eq_true rfl, Nat.le_of_ble_eq_true rfl⟩) (fun E ce q9 u H locs hw hI he1 he2 he3 => ?_) (fun v1 u H locs hw2 hI => ?_)
  · obtain ⟨hxp, rfl⟩ := hw
    exact z_pass hK hI hout hlocks he1 he2 he3 (by first | exact ⟨hxp, rfl⟩ | exact ⟨Or.inl hxp, rfl⟩ | exact ⟨Or.inr hxp, rfl⟩ | exact ⟨Or.inr (Or.inl hxp), rfl⟩ | exact ⟨Or.inr (Or.inr hxp), rfl⟩) (Nat.le_of_ble_eq_true rfl) (Nat.le_of_ble_eq_true rfl)
  obtain ⟨r3, rfl, hr4, hq5, rfl⟩ := hw2
  show W p l e (headSpec wsX8_governor ({ frames := 7, cells := 2, slots := 12, locals := 120 })).room s m ([.ref p0, .int p1, .int p2, .int p3] : List Value).toArray below meth c _ _ 1 6 (vx_MQ below (va_Qi (fun (r : Int32) (u : zS) => ∃ a : Nat, κ a = 5 ∧ vp_in p1 6 ∧ g aC p1.toNatClampNeg = .ref a ∧ g a 3 = .int r ∧ (p2 = 108 ∨ p2 = 119 ∨ (p2 = 102 ∧ 0 ≤ p3 ∧ p3 ≤ 7)) ∧ u = (L, κ, zup g a 3 (.int p2))) (fun (u : zS) (t : State) => zB D tc (zA [] L s.heap.size) [] u t) (zA [] L s.heap.size)) (vx_X (fun u : zS => True) (fun (E : String) (u : zS) (t : State) => (((E = "java/lang/IndexOutOfBoundsException" ∧ ¬ zHas g aC 6 p1) ∨ (E = "java/lang/IllegalArgumentException" ∧ zHas g aC 6 p1 ∧ ¬ (p2 = 108 ∨ p2 = 119 ∨ (p2 = 102 ∧ 0 ≤ p3 ∧ p3 ≤ 7)))) ∧ u = (L, κ, g)) ∧ zB D tc (zA [] L s.heap.size) [] u t) (zA [] L s.heap.size)) ([.ref p0, .int p1, .int p2, .int p3] : List Value).toArray s 2 12 (zA [] L s.heap.size)) (F0 m 5 ls (.ref r3 :: []))
  refine lv_astore (lv' := [(4, .ref r3), (0, .ref p0), (1, .int p1), (2, .int p2), (3, .int p3)]) hx hb dX8_governor_5 hl (by decide) rfl (fun ls hl => ?_)
  refine lv_iload_n hx hb dX8_governor_7 rfl (lv_at hl 3 rfl) ?_
  refine lv_bipush (v := 102) hx hb dX8_governor_8 (by decide) ?_
  refine lv_icmp_eq (tgt := 35) hx hb dX8_governor_10 (by decide) (fun c6 => ?_) (fun c6 => ?_)
  · skip
    refine lv_iload_n hx hb dX8_governor_35 rfl (lv_at hl 3 rfl) ?_
    refine lv_bipush (v := 102) hx hb dX8_governor_36 (by decide) ?_
    refine lv_icmp_ne (tgt := 61) hx hb dX8_governor_38 (by decide) (fun c7 => ?_) (fun c7 => ?_)
    · skip
      refine lv_aload hx hb dX8_governor_61 (lv_at hl 0 rfl) ?_
      refine z_get (k := 5) (j := 3) hM hI hr4 rfl rfl hinX3 rfl (by decide) (by decide +kernel) (fun _ h9 => h9) dX8_governor_63 (fun v8 hv9 => ?_)
      obtain ⟨hg11, i10, rfl, hf12⟩ := hv9
      refine lv_istore (lv' := [(5, .int i10), (4, .ref r3), (0, .ref p0), (1, .int p1), (2, .int p2), (3, .int p3)]) hx hb dX8_governor_66 hl (by decide) rfl (fun ls hl => ?_)
      refine lv_aload hx hb dX8_governor_68 (lv_at hl 1 rfl) ?_
      refine lv_iload_n hx hb dX8_governor_70 rfl (lv_at hl 4 rfl) ?_
      refine z_put (g' := (zup g r3 3 (.int p2))) (k := 5) (j := 3) hM hI hr4 rfl rfl hinX3 tyX3 tyX3_ok nmX3 rfl (by decide) (by decide +kernel) (fun _ h9 => h9) rfl rfl (z_cn (by assumption)) (by assumption) ⟨(zup_self _ _ _ _).symm, _, rfl, (by assumption)⟩ (fun b i h => zup_ne h) dX8_governor_71 (fun H locs hI => ?_)
      refine lv_aload hx hb dX8_governor_74 (lv_at hl 1 rfl) ?_
      refine lv_iload_n hx hb dX8_governor_76 rfl (lv_at hl 5 rfl) ?_
      refine z_put (g' := (zup g r3 3 (.int p2))) (k := 5) (j := 4) hM hI hr4 rfl rfl hinX3 tyX3 tyX3_ok nmX3 rfl (by decide) (by decide +kernel) (fun _ h9 => h9) rfl rfl rfl rfl ⟨_, rfl⟩ (fun _ _ _ => rfl) dX8_governor_77 (fun H locs hI => ?_)
      refine lv_iload hx hb dX8_governor_80 (lv_at hl 0 rfl) ?_
      refine vx_ret ?_
      refine W.widen (k := 2) (n := 12) (Nat.le_of_ble_eq_true rfl) (Nat.le_of_ble_eq_true rfl) ?_
      exact W.zret (v := i10) hx hb hr (z_cn (by assumption)) (fun t ht hW => ⟨⟨_, (L, κ, (zup g r3 3 (.int p2))), rfl, ⟨_, by assumption, hq5.1, hq5.2, hg11.symm, by first | exact Or.inl (by assumption) | exact Or.inr (Or.inl (by assumption)) | exact Or.inr (Or.inr ⟨by assumption, Classical.not_not.mp (fun h => absurd (hw9.mpr h) c9)⟩) | contradiction, rfl⟩, z_end hK hI ht hW⟩, z_F hI ht⟩) (z_locs hI) dX8_governor_82
    · skip
      refine lv_iconst (v := 0) hx hb dX8_governor_41 (by decide) ?_
      refine lv_iload_n hx hb dX8_governor_42 rfl (lv_at hl 4 rfl) ?_
      refine lv_bipush (v := 7) hx hb dX8_governor_43 (by decide) ?_
      refine vp_callSi (W.runS (As := [.int 0, .int p3, .int 7]) (rest := []) ⟨hx, hb, hml, hown, hts⟩ (c_X8_isFrom l _ _ _ _ _ _ _ 0 p3 7) (va_cwS 3 hts gX8_governor_X8_isFrom rfl rfl rfl (by decide +kernel) ⟨Nat.le_of_ble_eq_true rfl, Nat.le_of_ble_eq_true rfl⟩) (z_pre hK hE hI [] rfl rfl) rfl rfl hl.1 rfl (lv_room (Nat.le_of_ble_eq_true rfl)) dX8_governor_45 ⟨Nat.le_of_ble_eq_true rfl, Nat.le_of_ble_eq_true rfl⟩) (fun v13 hw14 => ?_)
      refine lv_if_ne (tgt := 61) hx hb dX8_governor_48 (by decide) (fun c15 => ?_) (fun c15 => ?_)
      · skip
        refine lv_aload hx hb dX8_governor_61 (lv_at hl 0 rfl) ?_
        refine z_get (k := 5) (j := 3) hM hI hr4 rfl rfl hinX3 rfl (by decide) (by decide +kernel) (fun _ h9 => h9) dX8_governor_63 (fun v16 hv17 => ?_)
        obtain ⟨hg19, i18, rfl, hf20⟩ := hv17
        refine lv_istore (lv' := [(5, .int i18), (4, .ref r3), (0, .ref p0), (1, .int p1), (2, .int p2), (3, .int p3)]) hx hb dX8_governor_66 hl (by decide) rfl (fun ls hl => ?_)
        refine lv_aload hx hb dX8_governor_68 (lv_at hl 1 rfl) ?_
        refine lv_iload_n hx hb dX8_governor_70 rfl (lv_at hl 4 rfl) ?_
        refine z_put (g' := (zup g r3 3 (.int p2))) (k := 5) (j := 3) hM hI hr4 rfl rfl hinX3 tyX3 tyX3_ok nmX3 rfl (by decide) (by decide +kernel) (fun _ h9 => h9) rfl rfl (z_cn (by assumption)) (by assumption) ⟨(zup_self _ _ _ _).symm, _, rfl, (by assumption)⟩ (fun b i h => zup_ne h) dX8_governor_71 (fun H locs hI => ?_)
        refine lv_aload hx hb dX8_governor_74 (lv_at hl 1 rfl) ?_
        refine lv_iload_n hx hb dX8_governor_76 rfl (lv_at hl 5 rfl) ?_
        refine z_put (g' := (zup g r3 3 (.int p2))) (k := 5) (j := 4) hM hI hr4 rfl rfl hinX3 tyX3 tyX3_ok nmX3 rfl (by decide) (by decide +kernel) (fun _ h9 => h9) rfl rfl rfl rfl ⟨_, rfl⟩ (fun _ _ _ => rfl) dX8_governor_77 (fun H locs hI => ?_)
        refine lv_iload hx hb dX8_governor_80 (lv_at hl 0 rfl) ?_
        refine vx_ret ?_
        refine W.widen (k := 2) (n := 12) (Nat.le_of_ble_eq_true rfl) (Nat.le_of_ble_eq_true rfl) ?_
        exact W.zret (v := i18) hx hb hr (z_cn (by assumption)) (fun t ht hW => ⟨⟨_, (L, κ, (zup g r3 3 (.int p2))), rfl, ⟨_, by assumption, hq5.1, hq5.2, hg19.symm, by first | exact Or.inl (by assumption) | exact Or.inr (Or.inl (by assumption)) | exact Or.inr (Or.inr ⟨by assumption, Classical.not_not.mp (fun h => absurd (hw14.mpr h) c15)⟩) | contradiction, rfl⟩, z_end hK hI ht hW⟩, z_F hI ht⟩) (z_locs hI) dX8_governor_82
      · skip
        refine z_throw (ik := 71) (is := 125) (ic := 75) (cls := "java/lang/IllegalArgumentException") (text := "the speed is out of range") (L0 := L) ["java/lang/RuntimeException", "java/lang/Exception"] (by decide) hM hE hI hnt (by decide) (by decide +kernel) (by decide +kernel) (by decide +kernel) (by decide +kernel) (by decide +kernel) (by decide +kernel) (hl.1.trans hml.symm) dX8_governor_51 dX8_governor_54 dX8_governor_55 dX8_governor_57 dX8_governor_60 hout (Nat.le_of_ble_eq_true rfl) (Nat.le_of_ble_eq_true rfl) (Nat.le_of_ble_eq_true rfl) (Nat.le_of_ble_eq_true rfl) hlocks ⟨Or.inr ⟨rfl, ⟨hq5.1, _, hq5.2⟩, fun h => h.elim (fun h => absurd (c7.symm.trans h) (by decide)) (fun h => h.elim (fun h => absurd (c7.symm.trans h) (by decide)) (fun h => hw14.mp c15 h.2))⟩, rfl⟩ (Nat.le_of_ble_eq_true rfl) (Nat.le_of_ble_eq_true rfl)
  · skip
    refine lv_iload_n hx hb dX8_governor_13 rfl (lv_at hl 3 rfl) ?_
    refine lv_bipush (v := 108) hx hb dX8_governor_14 (by decide) ?_
    refine lv_icmp_eq (tgt := 35) hx hb dX8_governor_16 (by decide) (fun c21 => ?_) (fun c21 => ?_)
    · skip
      refine lv_iload_n hx hb dX8_governor_35 rfl (lv_at hl 3 rfl) ?_
      refine lv_bipush (v := 102) hx hb dX8_governor_36 (by decide) ?_
      refine lv_icmp_ne (tgt := 61) hx hb dX8_governor_38 (by decide) (fun c22 => ?_) (fun c22 => ?_)
      · skip
        refine lv_aload hx hb dX8_governor_61 (lv_at hl 0 rfl) ?_
        refine z_get (k := 5) (j := 3) hM hI hr4 rfl rfl hinX3 rfl (by decide) (by decide +kernel) (fun _ h9 => h9) dX8_governor_63 (fun v23 hv24 => ?_)
        obtain ⟨hg26, i25, rfl, hf27⟩ := hv24
        refine lv_istore (lv' := [(5, .int i25), (4, .ref r3), (0, .ref p0), (1, .int p1), (2, .int p2), (3, .int p3)]) hx hb dX8_governor_66 hl (by decide) rfl (fun ls hl => ?_)
        refine lv_aload hx hb dX8_governor_68 (lv_at hl 1 rfl) ?_
        refine lv_iload_n hx hb dX8_governor_70 rfl (lv_at hl 4 rfl) ?_
        refine z_put (g' := (zup g r3 3 (.int p2))) (k := 5) (j := 3) hM hI hr4 rfl rfl hinX3 tyX3 tyX3_ok nmX3 rfl (by decide) (by decide +kernel) (fun _ h9 => h9) rfl rfl (z_cn (by assumption)) (by assumption) ⟨(zup_self _ _ _ _).symm, _, rfl, (by assumption)⟩ (fun b i h => zup_ne h) dX8_governor_71 (fun H locs hI => ?_)
        refine lv_aload hx hb dX8_governor_74 (lv_at hl 1 rfl) ?_
        refine lv_iload_n hx hb dX8_governor_76 rfl (lv_at hl 5 rfl) ?_
        refine z_put (g' := (zup g r3 3 (.int p2))) (k := 5) (j := 4) hM hI hr4 rfl rfl hinX3 tyX3 tyX3_ok nmX3 rfl (by decide) (by decide +kernel) (fun _ h9 => h9) rfl rfl rfl rfl ⟨_, rfl⟩ (fun _ _ _ => rfl) dX8_governor_77 (fun H locs hI => ?_)
        refine lv_iload hx hb dX8_governor_80 (lv_at hl 0 rfl) ?_
        refine vx_ret ?_
        refine W.widen (k := 2) (n := 12) (Nat.le_of_ble_eq_true rfl) (Nat.le_of_ble_eq_true rfl) ?_
        exact W.zret (v := i25) hx hb hr (z_cn (by assumption)) (fun t ht hW => ⟨⟨_, (L, κ, (zup g r3 3 (.int p2))), rfl, ⟨_, by assumption, hq5.1, hq5.2, hg26.symm, by first | exact Or.inl (by assumption) | exact Or.inr (Or.inl (by assumption)) | exact Or.inr (Or.inr ⟨by assumption, Classical.not_not.mp (fun h => absurd (hw14.mpr h) c15)⟩) | contradiction, rfl⟩, z_end hK hI ht hW⟩, z_F hI ht⟩) (z_locs hI) dX8_governor_82
      · skip
        refine lv_iconst (v := 0) hx hb dX8_governor_41 (by decide) ?_
        refine lv_iload_n hx hb dX8_governor_42 rfl (lv_at hl 4 rfl) ?_
        refine lv_bipush (v := 7) hx hb dX8_governor_43 (by decide) ?_
        refine vp_callSi (W.runS (As := [.int 0, .int p3, .int 7]) (rest := []) ⟨hx, hb, hml, hown, hts⟩ (c_X8_isFrom l _ _ _ _ _ _ _ 0 p3 7) (va_cwS 3 hts gX8_governor_X8_isFrom rfl rfl rfl (by decide +kernel) ⟨Nat.le_of_ble_eq_true rfl, Nat.le_of_ble_eq_true rfl⟩) (z_pre hK hE hI [] rfl rfl) rfl rfl hl.1 rfl (lv_room (Nat.le_of_ble_eq_true rfl)) dX8_governor_45 ⟨Nat.le_of_ble_eq_true rfl, Nat.le_of_ble_eq_true rfl⟩) (fun v28 hw29 => ?_)
        refine lv_if_ne (tgt := 61) hx hb dX8_governor_48 (by decide) (fun c30 => ?_) (fun c30 => ?_)
        · skip
          refine lv_aload hx hb dX8_governor_61 (lv_at hl 0 rfl) ?_
          refine z_get (k := 5) (j := 3) hM hI hr4 rfl rfl hinX3 rfl (by decide) (by decide +kernel) (fun _ h9 => h9) dX8_governor_63 (fun v31 hv32 => ?_)
          obtain ⟨hg34, i33, rfl, hf35⟩ := hv32
          refine lv_istore (lv' := [(5, .int i33), (4, .ref r3), (0, .ref p0), (1, .int p1), (2, .int p2), (3, .int p3)]) hx hb dX8_governor_66 hl (by decide) rfl (fun ls hl => ?_)
          refine lv_aload hx hb dX8_governor_68 (lv_at hl 1 rfl) ?_
          refine lv_iload_n hx hb dX8_governor_70 rfl (lv_at hl 4 rfl) ?_
          refine z_put (g' := (zup g r3 3 (.int p2))) (k := 5) (j := 3) hM hI hr4 rfl rfl hinX3 tyX3 tyX3_ok nmX3 rfl (by decide) (by decide +kernel) (fun _ h9 => h9) rfl rfl (z_cn (by assumption)) (by assumption) ⟨(zup_self _ _ _ _).symm, _, rfl, (by assumption)⟩ (fun b i h => zup_ne h) dX8_governor_71 (fun H locs hI => ?_)
          refine lv_aload hx hb dX8_governor_74 (lv_at hl 1 rfl) ?_
          refine lv_iload_n hx hb dX8_governor_76 rfl (lv_at hl 5 rfl) ?_
          refine z_put (g' := (zup g r3 3 (.int p2))) (k := 5) (j := 4) hM hI hr4 rfl rfl hinX3 tyX3 tyX3_ok nmX3 rfl (by decide) (by decide +kernel) (fun _ h9 => h9) rfl rfl rfl rfl ⟨_, rfl⟩ (fun _ _ _ => rfl) dX8_governor_77 (fun H locs hI => ?_)
          refine lv_iload hx hb dX8_governor_80 (lv_at hl 0 rfl) ?_
          refine vx_ret ?_
          refine W.widen (k := 2) (n := 12) (Nat.le_of_ble_eq_true rfl) (Nat.le_of_ble_eq_true rfl) ?_
          exact W.zret (v := i33) hx hb hr (z_cn (by assumption)) (fun t ht hW => ⟨⟨_, (L, κ, (zup g r3 3 (.int p2))), rfl, ⟨_, by assumption, hq5.1, hq5.2, hg34.symm, by first | exact Or.inl (by assumption) | exact Or.inr (Or.inl (by assumption)) | exact Or.inr (Or.inr ⟨by assumption, Classical.not_not.mp (fun h => absurd (hw29.mpr h) c30)⟩) | contradiction, rfl⟩, z_end hK hI ht hW⟩, z_F hI ht⟩) (z_locs hI) dX8_governor_82
        · skip
          refine z_throw (ik := 71) (is := 125) (ic := 75) (cls := "java/lang/IllegalArgumentException") (text := "the speed is out of range") (L0 := L) ["java/lang/RuntimeException", "java/lang/Exception"] (by decide) hM hE hI hnt (by decide) (by decide +kernel) (by decide +kernel) (by decide +kernel) (by decide +kernel) (by decide +kernel) (by decide +kernel) (hl.1.trans hml.symm) dX8_governor_51 dX8_governor_54 dX8_governor_55 dX8_governor_57 dX8_governor_60 hout (Nat.le_of_ble_eq_true rfl) (Nat.le_of_ble_eq_true rfl) (Nat.le_of_ble_eq_true rfl) (Nat.le_of_ble_eq_true rfl) hlocks ⟨Or.inr ⟨rfl, ⟨hq5.1, _, hq5.2⟩, fun h => h.elim (fun h => absurd (c22.symm.trans h) (by decide)) (fun h => h.elim (fun h => absurd (c22.symm.trans h) (by decide)) (fun h => hw29.mp c30 h.2))⟩, rfl⟩ (Nat.le_of_ble_eq_true rfl) (Nat.le_of_ble_eq_true rfl)
    · skip
      refine lv_iload_n hx hb dX8_governor_19 rfl (lv_at hl 3 rfl) ?_
      refine lv_bipush (v := 119) hx hb dX8_governor_20 (by decide) ?_
      refine lv_icmp_eq (tgt := 35) hx hb dX8_governor_22 (by decide) (fun c36 => ?_) (fun c36 => ?_)
      · skip
        refine lv_iload_n hx hb dX8_governor_35 rfl (lv_at hl 3 rfl) ?_
        refine lv_bipush (v := 102) hx hb dX8_governor_36 (by decide) ?_
        refine lv_icmp_ne (tgt := 61) hx hb dX8_governor_38 (by decide) (fun c37 => ?_) (fun c37 => ?_)
        · skip
          refine lv_aload hx hb dX8_governor_61 (lv_at hl 0 rfl) ?_
          refine z_get (k := 5) (j := 3) hM hI hr4 rfl rfl hinX3 rfl (by decide) (by decide +kernel) (fun _ h9 => h9) dX8_governor_63 (fun v38 hv39 => ?_)
          obtain ⟨hg41, i40, rfl, hf42⟩ := hv39
          refine lv_istore (lv' := [(5, .int i40), (4, .ref r3), (0, .ref p0), (1, .int p1), (2, .int p2), (3, .int p3)]) hx hb dX8_governor_66 hl (by decide) rfl (fun ls hl => ?_)
          refine lv_aload hx hb dX8_governor_68 (lv_at hl 1 rfl) ?_
          refine lv_iload_n hx hb dX8_governor_70 rfl (lv_at hl 4 rfl) ?_
          refine z_put (g' := (zup g r3 3 (.int p2))) (k := 5) (j := 3) hM hI hr4 rfl rfl hinX3 tyX3 tyX3_ok nmX3 rfl (by decide) (by decide +kernel) (fun _ h9 => h9) rfl rfl (z_cn (by assumption)) (by assumption) ⟨(zup_self _ _ _ _).symm, _, rfl, (by assumption)⟩ (fun b i h => zup_ne h) dX8_governor_71 (fun H locs hI => ?_)
          refine lv_aload hx hb dX8_governor_74 (lv_at hl 1 rfl) ?_
          refine lv_iload_n hx hb dX8_governor_76 rfl (lv_at hl 5 rfl) ?_
          refine z_put (g' := (zup g r3 3 (.int p2))) (k := 5) (j := 4) hM hI hr4 rfl rfl hinX3 tyX3 tyX3_ok nmX3 rfl (by decide) (by decide +kernel) (fun _ h9 => h9) rfl rfl rfl rfl ⟨_, rfl⟩ (fun _ _ _ => rfl) dX8_governor_77 (fun H locs hI => ?_)
          refine lv_iload hx hb dX8_governor_80 (lv_at hl 0 rfl) ?_
          refine vx_ret ?_
          refine W.widen (k := 2) (n := 12) (Nat.le_of_ble_eq_true rfl) (Nat.le_of_ble_eq_true rfl) ?_
          exact W.zret (v := i40) hx hb hr (z_cn (by assumption)) (fun t ht hW => ⟨⟨_, (L, κ, (zup g r3 3 (.int p2))), rfl, ⟨_, by assumption, hq5.1, hq5.2, hg41.symm, by first | exact Or.inl (by assumption) | exact Or.inr (Or.inl (by assumption)) | exact Or.inr (Or.inr ⟨by assumption, Classical.not_not.mp (fun h => absurd (hw29.mpr h) c30)⟩) | contradiction, rfl⟩, z_end hK hI ht hW⟩, z_F hI ht⟩) (z_locs hI) dX8_governor_82
        · skip
          refine lv_iconst (v := 0) hx hb dX8_governor_41 (by decide) ?_
          refine lv_iload_n hx hb dX8_governor_42 rfl (lv_at hl 4 rfl) ?_
          refine lv_bipush (v := 7) hx hb dX8_governor_43 (by decide) ?_
          refine vp_callSi (W.runS (As := [.int 0, .int p3, .int 7]) (rest := []) ⟨hx, hb, hml, hown, hts⟩ (c_X8_isFrom l _ _ _ _ _ _ _ 0 p3 7) (va_cwS 3 hts gX8_governor_X8_isFrom rfl rfl rfl (by decide +kernel) ⟨Nat.le_of_ble_eq_true rfl, Nat.le_of_ble_eq_true rfl⟩) (z_pre hK hE hI [] rfl rfl) rfl rfl hl.1 rfl (lv_room (Nat.le_of_ble_eq_true rfl)) dX8_governor_45 ⟨Nat.le_of_ble_eq_true rfl, Nat.le_of_ble_eq_true rfl⟩) (fun v43 hw44 => ?_)
          refine lv_if_ne (tgt := 61) hx hb dX8_governor_48 (by decide) (fun c45 => ?_) (fun c45 => ?_)
          · skip
            refine lv_aload hx hb dX8_governor_61 (lv_at hl 0 rfl) ?_
            refine z_get (k := 5) (j := 3) hM hI hr4 rfl rfl hinX3 rfl (by decide) (by decide +kernel) (fun _ h9 => h9) dX8_governor_63 (fun v46 hv47 => ?_)
            obtain ⟨hg49, i48, rfl, hf50⟩ := hv47
            refine lv_istore (lv' := [(5, .int i48), (4, .ref r3), (0, .ref p0), (1, .int p1), (2, .int p2), (3, .int p3)]) hx hb dX8_governor_66 hl (by decide) rfl (fun ls hl => ?_)
            refine lv_aload hx hb dX8_governor_68 (lv_at hl 1 rfl) ?_
            refine lv_iload_n hx hb dX8_governor_70 rfl (lv_at hl 4 rfl) ?_
            refine z_put (g' := (zup g r3 3 (.int p2))) (k := 5) (j := 3) hM hI hr4 rfl rfl hinX3 tyX3 tyX3_ok nmX3 rfl (by decide) (by decide +kernel) (fun _ h9 => h9) rfl rfl (z_cn (by assumption)) (by assumption) ⟨(zup_self _ _ _ _).symm, _, rfl, (by assumption)⟩ (fun b i h => zup_ne h) dX8_governor_71 (fun H locs hI => ?_)
            refine lv_aload hx hb dX8_governor_74 (lv_at hl 1 rfl) ?_
            refine lv_iload_n hx hb dX8_governor_76 rfl (lv_at hl 5 rfl) ?_
            refine z_put (g' := (zup g r3 3 (.int p2))) (k := 5) (j := 4) hM hI hr4 rfl rfl hinX3 tyX3 tyX3_ok nmX3 rfl (by decide) (by decide +kernel) (fun _ h9 => h9) rfl rfl rfl rfl ⟨_, rfl⟩ (fun _ _ _ => rfl) dX8_governor_77 (fun H locs hI => ?_)
            refine lv_iload hx hb dX8_governor_80 (lv_at hl 0 rfl) ?_
            refine vx_ret ?_
            refine W.widen (k := 2) (n := 12) (Nat.le_of_ble_eq_true rfl) (Nat.le_of_ble_eq_true rfl) ?_
            exact W.zret (v := i48) hx hb hr (z_cn (by assumption)) (fun t ht hW => ⟨⟨_, (L, κ, (zup g r3 3 (.int p2))), rfl, ⟨_, by assumption, hq5.1, hq5.2, hg49.symm, by first | exact Or.inl (by assumption) | exact Or.inr (Or.inl (by assumption)) | exact Or.inr (Or.inr ⟨by assumption, Classical.not_not.mp (fun h => absurd (hw44.mpr h) c45)⟩) | contradiction, rfl⟩, z_end hK hI ht hW⟩, z_F hI ht⟩) (z_locs hI) dX8_governor_82
          · skip
            refine z_throw (ik := 71) (is := 125) (ic := 75) (cls := "java/lang/IllegalArgumentException") (text := "the speed is out of range") (L0 := L) ["java/lang/RuntimeException", "java/lang/Exception"] (by decide) hM hE hI hnt (by decide) (by decide +kernel) (by decide +kernel) (by decide +kernel) (by decide +kernel) (by decide +kernel) (by decide +kernel) (hl.1.trans hml.symm) dX8_governor_51 dX8_governor_54 dX8_governor_55 dX8_governor_57 dX8_governor_60 hout (Nat.le_of_ble_eq_true rfl) (Nat.le_of_ble_eq_true rfl) (Nat.le_of_ble_eq_true rfl) (Nat.le_of_ble_eq_true rfl) hlocks ⟨Or.inr ⟨rfl, ⟨hq5.1, _, hq5.2⟩, fun h => h.elim (fun h => absurd (c37.symm.trans h) (by decide)) (fun h => h.elim (fun h => absurd (c37.symm.trans h) (by decide)) (fun h => hw44.mp c45 h.2))⟩, rfl⟩ (Nat.le_of_ble_eq_true rfl) (Nat.le_of_ble_eq_true rfl)
      · skip
        refine z_throw (ik := 71) (is := 123) (ic := 75) (cls := "java/lang/IllegalArgumentException") (text := "no such governor") (L0 := L) ["java/lang/RuntimeException", "java/lang/Exception"] (by decide) hM hE hI hnt (by decide) (by decide +kernel) (by decide +kernel) (by decide +kernel) (by decide +kernel) (by decide +kernel) (by decide +kernel) (hl.1.trans hml.symm) dX8_governor_25 dX8_governor_28 dX8_governor_29 dX8_governor_31 dX8_governor_34 hout (Nat.le_of_ble_eq_true rfl) (Nat.le_of_ble_eq_true rfl) (Nat.le_of_ble_eq_true rfl) (Nat.le_of_ble_eq_true rfl) hlocks ⟨Or.inr ⟨rfl, ⟨hq5.1, _, hq5.2⟩, fun h => h.elim (fun h => c21 h) (fun h => h.elim (fun h => c36 h) (fun h => c6 h.1))⟩, rfl⟩ (Nat.le_of_ble_eq_true rfl) (Nat.le_of_ble_eq_true rfl)

set_option maxHeartbeats 4000000 in
set_option maxRecDepth 100000 in
theorem c_X8_wall (l : Launch) (hnt : l.stackTraces = false) (D : va_G) (tc : Nat → ClassId) (z0 : Nat) (L : List Nat) (κ : Nat → Nat) (g : Nat → Nat → Value) (sz : Nat) (p0 : Nat) (hk0 : κ p0 = 10) (p1 : Int32) (sp : Nat) (hS9 : g p0 4 = .ref sp) : vx_Met l yX8_wall wsX8_wall ({ frames := 6, cells := 1, slots := 6, locals := 98 }) (zPc D tc z0 [.ref p0, .int p1] [] (L, κ, g) sz) (va_Qi (fun (r : Int32) (u : zS) => g sp 0 = .int r ∧ (0 ≤ p1 ∧ p1 ≤ 999) ∧ u = (L, κ, zup g sp 0 (.int p1))) (fun (u : zS) (t : State) => zB D tc (zA [] L sz) [] u t) (zA [] L sz)) (vx_X (fun u : zS => True) (fun (E : String) (u : zS) (t : State) => ((E = "java/lang/IllegalArgumentException" ∧ ¬ (0 ≤ p1 ∧ p1 ≤ 999)) ∧ u = (L, κ, g)) ∧ zB D tc (zA [] L sz) [] u t) (zA [] L sz)) 1 6 (zA [] L sz) := by
  refine vx_ofW (cc := cX8_wall) (maxL := 3) (ret := (some .int)) (by decide) rfl ?_
  intro p e s m args below meth c s₁ B hml hxt hv
  obtain ⟨rfl, rfl, hK, hE, hI⟩ := hv.opn
  have hx := B.exec
  have hb := B.bytes
  have hr := B.returns
  have hts := atoms_spec (ws := wsX8_wall) B.pre
  have hown : s.vm.findClass RX8 = some m.cls := findClass_of_methodNamed B.named
  have hlocks := B.notSynchronized
  have hout : ∀ (i : Nat), ∀ x ∈ c.exceptionTable.toList, covers x i = false := fun i x hx9 => (hxt x hx9).elim
  have hM : zM p s m c cX8_wall _ wsX8_wall RX8 D tc := ⟨hx, hb, hts, hown, hK⟩
  have hinX8 : ∀ w ∈ wsX80, w ∈ wsX8_wall := by decide +kernel
  have hinX6 : ∀ w ∈ wsX60, w ∈ wsX8_wall := by decide +kernel
  have hl := lv_entry ([.ref p0, .int p1]) (n := 3) (Nat.le_of_ble_eq_true rfl)
  rw [lg_entry_eq]
  generalize (lg_sl ([.ref p0, .int p1]) ++ List.replicate (3 - (lg_sl ([.ref p0, .int p1])).length) Slot.unset).toArray = ls at hl ⊢
  have hl : lv_has ls 3 [(0, .ref p0), (1, .int p1)] := hl
  refine lv_iconst (v := 0) hx hb dX8_wall_0 (by decide) ?_
  refine lv_iload_n hx hb dX8_wall_1 rfl (lv_at hl 1 rfl) ?_
  refine lv_sipush (v := 999) hx hb dX8_wall_2 (by decide) ?_
  refine vp_callSi (W.runS (As := [.int 0, .int p1, .int 999]) (rest := []) ⟨hx, hb, hml, hown, hts⟩ (c_X8_isFrom l _ _ _ _ _ _ _ 0 p1 999) (va_cwS 3 hts gX8_wall_X8_isFrom rfl rfl rfl (by decide +kernel) ⟨Nat.le_of_ble_eq_true rfl, Nat.le_of_ble_eq_true rfl⟩) (z_pre hK hE hI [] rfl rfl) rfl rfl hl.1 rfl (lv_room (Nat.le_of_ble_eq_true rfl)) dX8_wall_5 ⟨Nat.le_of_ble_eq_true rfl, Nat.le_of_ble_eq_true rfl⟩) (fun v1 hw2 => ?_)
  refine lv_if_ne (tgt := 21) hx hb dX8_wall_8 (by decide) (fun c3 => ?_) (fun c3 => ?_)
  · skip
    refine lv_aload_n hx hb dX8_wall_21 rfl (lv_at hl 0 rfl) ?_
    refine z_get (k := 10) (j := 4) hM hI hk0 rfl rfl hinX8 rfl (by decide) (by decide +kernel) (fun _ h9 => h9) dX8_wall_22 (fun v4 hv5 => ?_)
    obtain ⟨hg7, i6, rfl, hr8⟩ := hv5
    obtain rfl : sp = i6 := Value.ref.inj ((hS9).symm.trans hg7.symm)
    refine z_get (k := 8) (j := 0) hM hI hr8 rfl rfl hinX6 rfl (by decide) (by decide +kernel) (fun _ h9 => h9) dX8_wall_25 (fun v9 hv10 => ?_)
    obtain ⟨hg12, i11, rfl⟩ := hv10
    refine lv_istore_n (lv' := [(2, .int i11), (0, .ref p0), (1, .int p1)]) hx hb dX8_wall_28 rfl hl (by decide) rfl (fun ls hl => ?_)
    refine lv_aload_n hx hb dX8_wall_29 rfl (lv_at hl 1 rfl) ?_
    refine z_get (k := 10) (j := 4) hM hI hk0 rfl rfl hinX8 rfl (by decide) (by decide +kernel) (fun _ h9 => h9) dX8_wall_30 (fun v13 hv14 => ?_)
    obtain ⟨hg16, i15, rfl, hr17⟩ := hv14
    obtain rfl : sp = i15 := Value.ref.inj ((hS9).symm.trans hg16.symm)
    refine lv_iload_n hx hb dX8_wall_33 rfl (lv_at hl 2 rfl) ?_
    refine z_put (g' := (zup g sp 0 (.int p1))) (k := 8) (j := 0) hM hI hr17 rfl rfl hinX6 tyX6 tyX6_ok nmX6 rfl (by decide) (by decide +kernel) (fun _ h9 => h9) rfl rfl rfl rfl ⟨(zup_self _ _ _ _).symm, _, rfl⟩ (fun b i h => zup_ne h) dX8_wall_34 (fun H locs hI => ?_)
    refine lv_iload_n hx hb dX8_wall_37 rfl (lv_at hl 0 rfl) ?_
    refine vx_ret ?_
    refine W.widen (k := 1) (n := 6) (Nat.le_of_ble_eq_true rfl) (Nat.le_of_ble_eq_true rfl) ?_
    exact W.iret (v := i11) hx hb hr (fun t ht hW => ⟨⟨_, (L, κ, (zup g sp 0 (.int p1))), rfl, ⟨hg12.symm, (Classical.not_not.mp (fun h => c3 (hw2.mpr h))), rfl⟩, z_end hK hI ht hW⟩, z_F hI ht⟩) (z_locs hI) dX8_wall_38
  · skip
    refine z_throw (ik := 71) (is := 95) (ic := 75) (cls := "java/lang/IllegalArgumentException") (text := "a number out of range") (L0 := L) ["java/lang/RuntimeException", "java/lang/Exception"] (by decide) hM hE hI hnt (by decide) (by decide +kernel) (by decide +kernel) (by decide +kernel) (by decide +kernel) (by decide +kernel) (by decide +kernel) (hl.1.trans hml.symm) dX8_wall_11 dX8_wall_14 dX8_wall_15 dX8_wall_17 dX8_wall_20 hout (Nat.le_of_ble_eq_true rfl) (Nat.le_of_ble_eq_true rfl) (Nat.le_of_ble_eq_true rfl) (Nat.le_of_ble_eq_true rfl) hlocks ⟨⟨rfl, hw2.mp c3⟩, rfl⟩ (Nat.le_of_ble_eq_true rfl) (Nat.le_of_ble_eq_true rfl)

set_option maxHeartbeats 4000000 in
set_option maxRecDepth 100000 in
theorem c_X8_request (l : Launch) (hnt : l.stackTraces = false) (D : va_G) (tc : Nat → ClassId) (z0 : Nat) (L : List Nat) (κ : Nat → Nat) (g : Nat → Nat → Value) (sz : Nat) (p0 : Nat) (hk0 : κ p0 = 10) (p1 : Int32) (p2 : Int32) (rq : Nat) (hR : g p0 5 = .ref rq) (n9 k9 : Int32) (hn9 : g rq 0 = .int n9) (hk9 : g rq 1 = .int k9) : vx_Met l yX8_request wsX8_request ({ frames := 6, cells := 1, slots := 6, locals := 98 }) (zPc D tc z0 [.ref p0, .int p1, .int p2] [] (L, κ, g) sz) (va_Qi (fun (r : Int32) (u : zS) => (1 ≤ p1 ∧ p1 ≤ 9999) ∧ (0 ≤ p2 ∧ p2 ≤ 7) ∧ k9 < p1 ∧ r = n9 + 1 ∧ u = (L, κ, zup (zup (zup g rq 0 (.int (n9 + 1))) rq 1 (.int p1)) rq 4 (.int p1))) (fun (u : zS) (t : State) => zB D tc (zA [] L sz) [] u t) (zA [] L sz)) (vx_X (fun u : zS => True) (fun (E : String) (u : zS) (t : State) => ((E = "java/lang/IllegalArgumentException" ∧ ¬ (1 ≤ p1 ∧ p1 ≤ 9999) ∧ u = (L, κ, zup g rq 6 (.int 110))) ∨ (E = "java/lang/IllegalArgumentException" ∧ (1 ≤ p1 ∧ p1 ≤ 9999) ∧ ¬ (0 ≤ p2 ∧ p2 ≤ 7) ∧ u = (L, κ, zup g rq 6 (.int 118))) ∨ (E = "java/lang/UnsupportedOperationException" ∧ (1 ≤ p1 ∧ p1 ≤ 9999) ∧ (0 ≤ p2 ∧ p2 ≤ 7) ∧ p1 ≤ k9 ∧ u = (L, κ, zup g rq 6 (.int 115)))) ∧ zB D tc (zA [] L sz) [] u t) (zA [] L sz)) 1 6 (zA [] L sz) := by
  refine vx_ofW (cc := cX8_request) (maxL := 3) (ret := (some .int)) (by decide) rfl ?_
  intro p e s m args below meth c s₁ B hml hxt hv
  obtain ⟨rfl, rfl, hK, hE, hI⟩ := hv.opn
  have hx := B.exec
  have hb := B.bytes
  have hr := B.returns
  have hts := atoms_spec (ws := wsX8_request) B.pre
  have hown : s.vm.findClass RX8 = some m.cls := findClass_of_methodNamed B.named
  have hlocks := B.notSynchronized
  have hout : ∀ (i : Nat), ∀ x ∈ c.exceptionTable.toList, covers x i = false := fun i x hx9 => (hxt x hx9).elim
  have hM : zM p s m c cX8_request _ wsX8_request RX8 D tc := ⟨hx, hb, hts, hown, hK⟩
  have hinX8 : ∀ w ∈ wsX80, w ∈ wsX8_request := by decide +kernel
  have hinX5 : ∀ w ∈ wsX50, w ∈ wsX8_request := by decide +kernel
  have hl := lv_entry ([.ref p0, .int p1, .int p2]) (n := 3) (Nat.le_of_ble_eq_true rfl)
  rw [lg_entry_eq]
  generalize (lg_sl ([.ref p0, .int p1, .int p2]) ++ List.replicate (3 - (lg_sl ([.ref p0, .int p1, .int p2])).length) Slot.unset).toArray = ls at hl ⊢
  have hl : lv_has ls 3 [(0, .ref p0), (1, .int p1), (2, .int p2)] := hl
  refine lv_iconst (v := 1) hx hb dX8_request_0 (by decide) ?_
  refine lv_iload_n hx hb dX8_request_1 rfl (lv_at hl 1 rfl) ?_
  refine lv_sipush (v := 9999) hx hb dX8_request_2 (by decide) ?_
  refine vp_callSi (W.runS (As := [.int 1, .int p1, .int 9999]) (rest := []) ⟨hx, hb, hml, hown, hts⟩ (c_X8_isFrom l _ _ _ _ _ _ _ 1 p1 9999) (va_cwS 3 hts gX8_request_X8_isFrom rfl rfl rfl (by decide +kernel) ⟨Nat.le_of_ble_eq_true rfl, Nat.le_of_ble_eq_true rfl⟩) (z_pre hK hE hI [] rfl rfl) rfl rfl hl.1 rfl (lv_room (Nat.le_of_ble_eq_true rfl)) dX8_request_5 ⟨Nat.le_of_ble_eq_true rfl, Nat.le_of_ble_eq_true rfl⟩) (fun v1 hw2 => ?_)
  refine lv_if_ne (tgt := 30) hx hb dX8_request_8 (by decide) (fun c3 => ?_) (fun c3 => ?_)
  · skip
    refine lv_iconst (v := 0) hx hb dX8_request_30 (by decide) ?_
    refine lv_iload_n hx hb dX8_request_31 rfl (lv_at hl 2 rfl) ?_
    refine lv_bipush (v := 7) hx hb dX8_request_32 (by decide) ?_
    refine vp_callSi (W.runS (As := [.int 0, .int p2, .int 7]) (rest := []) ⟨hx, hb, hml, hown, hts⟩ (c_X8_isFrom l _ _ _ _ _ _ _ 0 p2 7) (va_cwS 3 hts gX8_request_X8_isFrom rfl rfl rfl (by decide +kernel) ⟨Nat.le_of_ble_eq_true rfl, Nat.le_of_ble_eq_true rfl⟩) (z_pre hK hE hI [] rfl rfl) rfl rfl hl.1 rfl (lv_room (Nat.le_of_ble_eq_true rfl)) dX8_request_34 ⟨Nat.le_of_ble_eq_true rfl, Nat.le_of_ble_eq_true rfl⟩) (fun v4 hw5 => ?_)
    refine lv_if_ne (tgt := 59) hx hb dX8_request_37 (by decide) (fun c6 => ?_) (fun c6 => ?_)
    · skip
      refine lv_iload_n hx hb dX8_request_59 rfl (lv_at hl 1 rfl) ?_
      refine lv_aload_n hx hb dX8_request_60 rfl (lv_at hl 0 rfl) ?_
      refine z_get (k := 10) (j := 5) hM hI hk0 rfl rfl hinX8 rfl (by decide) (by decide +kernel) (fun _ h9 => h9) dX8_request_61 (fun v7 hv8 => ?_)
      obtain ⟨hg10, i9, rfl, hr11⟩ := hv8
      obtain rfl : rq = i9 := Value.ref.inj ((hR).symm.trans hg10.symm)
      refine z_get (k := 7) (j := 1) hM hI hr11 rfl rfl hinX5 rfl (by decide) (by decide +kernel) (fun _ h9 => h9) dX8_request_64 (fun v12 hv13 => ?_)
      obtain ⟨hg15, i14, rfl⟩ := hv13
      obtain rfl : k9 = i14 := Value.int.inj ((hk9).symm.trans hg15.symm)
      refine lv_icmp_gt (tgt := 89) hx hb dX8_request_67 (by decide) (fun c16 => ?_) (fun c16 => ?_)
      · skip
        refine lv_aload_n hx hb dX8_request_89 rfl (lv_at hl 0 rfl) ?_
        refine z_get (k := 10) (j := 5) hM hI hk0 rfl rfl hinX8 rfl (by decide) (by decide +kernel) (fun _ h9 => h9) dX8_request_90 (fun v17 hv18 => ?_)
        obtain ⟨hg20, i19, rfl, hr21⟩ := hv18
        obtain rfl : rq = i19 := Value.ref.inj ((hR).symm.trans hg20.symm)
        refine lv_iload_n hx hb dX8_request_93 rfl (lv_at hl 1 rfl) ?_
        refine lv_iload_n hx hb dX8_request_94 rfl (lv_at hl 2 rfl) ?_
        refine z_cv hI (va_runV (As := [.int p1, .int p2]) (rest := []) ⟨hx, hb, hml, hown, hts⟩ (c_X5_take l _ _ _ _ _ _ _ rq hr21 p1 p2 n9 hn9) (cwV 2 hts gX8_request_X5_take rfl rfl rfl (by decide +kernel) ⟨Nat.le_of_ble_eq_true rfl, Nat.le_of_ble_eq_true rfl⟩) (z_preV hK hE hI [] rfl rfl (z_recv hK hI hr21 rfl rfl)) rfl rfl hl.1 rfl (lv_room (Nat.le_of_ble_eq_true rfl)) dX8_request_95 ⟨Nat.le_of_ble_eq_true rfl, Nat.le_of_ble_eq_true rfl⟩) (fun u H locs hw23 hI => ?_)
        obtain rfl := hw23
        refine lv_aload_n hx hb dX8_request_98 rfl (lv_at hl 0 rfl) ?_
        refine z_get (k := 10) (j := 5) hM hI hk0 rfl rfl hinX8 rfl (by decide) (by decide +kernel) (fun _ h9 => h9) dX8_request_99 (fun v24 hv25 => ?_)
        obtain ⟨hg27, i26, rfl, hr28⟩ := hv25
        obtain rfl : rq = i26 := Value.ref.inj ((((zup_ne (Or.inr (by decide))).trans ((zup_ne (Or.inr (by decide))).trans ((zup_ne (Or.inr (by decide))).trans hR)))).symm.trans hg27.symm)
        refine z_get (k := 7) (j := 0) hM hI hr28 rfl rfl hinX5 rfl (by decide) (by decide +kernel) (fun _ h9 => h9) dX8_request_102 (fun v29 hv30 => ?_)
        obtain ⟨hg32, i31, rfl⟩ := hv30
        refine vx_ret ?_
        refine W.widen (k := 1) (n := 6) (Nat.le_of_ble_eq_true rfl) (Nat.le_of_ble_eq_true rfl) ?_
        exact W.iret (v := i31) hx hb hr (fun t ht hW => ⟨⟨_, (L, κ, (zup (zup (zup g rq 0 (.int (n9 + 1))) rq 1 (.int p1)) rq 4 (.int p1))), rfl, ⟨(Classical.not_not.mp (fun h => c3 (hw2.mpr h))), (Classical.not_not.mp (fun h => c6 (hw5.mpr h))), c16, (by have h9 := hg32; simp [zup] at h9; exact h9), rfl⟩, z_end hK hI ht hW⟩, z_F hI ht⟩) (z_locs hI) dX8_request_105
      · skip
        refine lv_aload_n hx hb dX8_request_70 rfl (lv_at hl 0 rfl) ?_
        refine z_get (k := 10) (j := 5) hM hI hk0 rfl rfl hinX8 rfl (by decide) (by decide +kernel) (fun _ h9 => h9) dX8_request_71 (fun v33 hv34 => ?_)
        obtain ⟨hg36, i35, rfl, hr37⟩ := hv34
        obtain rfl : rq = i35 := Value.ref.inj ((hR).symm.trans hg36.symm)
        refine lv_bipush (v := 115) hx hb dX8_request_74 (by decide) ?_
        refine z_put (g' := (zup g rq 6 (.int 115))) (k := 7) (j := 6) hM hI hr37 rfl rfl hinX5 tyX5 tyX5_ok nmX5 rfl (by decide) (by decide +kernel) (fun _ h9 => h9) rfl rfl (by decide) (by decide) ⟨(zup_self _ _ _ _).symm, _, rfl, by decide⟩ (fun b i h => zup_ne h) dX8_request_76 (fun H locs hI => ?_)
        refine z_throw (ik := 115) (is := 241) (ic := 119) (cls := "java/lang/UnsupportedOperationException") (text := "stale") (L0 := L) ["java/lang/RuntimeException", "java/lang/Exception"] (by decide) hM hE hI hnt (by decide) (by decide +kernel) (by decide +kernel) (by decide +kernel) (by decide +kernel) (by decide +kernel) (by decide +kernel) (hl.1.trans hml.symm) dX8_request_79 dX8_request_82 dX8_request_83 dX8_request_85 dX8_request_88 hout (Nat.le_of_ble_eq_true rfl) (Nat.le_of_ble_eq_true rfl) (Nat.le_of_ble_eq_true rfl) (Nat.le_of_ble_eq_true rfl) hlocks (Or.inr (Or.inr ⟨rfl, (Classical.not_not.mp (fun h => c3 (hw2.mpr h))), (Classical.not_not.mp (fun h => c6 (hw5.mpr h))), Int32.not_lt.mp c16, rfl⟩)) (Nat.le_of_ble_eq_true rfl) (Nat.le_of_ble_eq_true rfl)
    · skip
      refine lv_aload_n hx hb dX8_request_40 rfl (lv_at hl 0 rfl) ?_
      refine z_get (k := 10) (j := 5) hM hI hk0 rfl rfl hinX8 rfl (by decide) (by decide +kernel) (fun _ h9 => h9) dX8_request_41 (fun v38 hv39 => ?_)
      obtain ⟨hg41, i40, rfl, hr42⟩ := hv39
      obtain rfl : rq = i40 := Value.ref.inj ((hR).symm.trans hg41.symm)
      refine lv_bipush (v := 118) hx hb dX8_request_44 (by decide) ?_
      refine z_put (g' := (zup g rq 6 (.int 118))) (k := 7) (j := 6) hM hI hr42 rfl rfl hinX5 tyX5 tyX5_ok nmX5 rfl (by decide) (by decide +kernel) (fun _ h9 => h9) rfl rfl (by decide) (by decide) ⟨(zup_self _ _ _ _).symm, _, rfl, by decide⟩ (fun b i h => zup_ne h) dX8_request_46 (fun H locs hI => ?_)
      refine z_throw (ik := 71) (is := 125) (ic := 75) (cls := "java/lang/IllegalArgumentException") (text := "the speed is out of range") (L0 := L) ["java/lang/RuntimeException", "java/lang/Exception"] (by decide) hM hE hI hnt (by decide) (by decide +kernel) (by decide +kernel) (by decide +kernel) (by decide +kernel) (by decide +kernel) (by decide +kernel) (hl.1.trans hml.symm) dX8_request_49 dX8_request_52 dX8_request_53 dX8_request_55 dX8_request_58 hout (Nat.le_of_ble_eq_true rfl) (Nat.le_of_ble_eq_true rfl) (Nat.le_of_ble_eq_true rfl) (Nat.le_of_ble_eq_true rfl) hlocks (Or.inr (Or.inl ⟨rfl, (Classical.not_not.mp (fun h => c3 (hw2.mpr h))), hw5.mp c6, rfl⟩)) (Nat.le_of_ble_eq_true rfl) (Nat.le_of_ble_eq_true rfl)
  · skip
    refine lv_aload_n hx hb dX8_request_11 rfl (lv_at hl 0 rfl) ?_
    refine z_get (k := 10) (j := 5) hM hI hk0 rfl rfl hinX8 rfl (by decide) (by decide +kernel) (fun _ h9 => h9) dX8_request_12 (fun v43 hv44 => ?_)
    obtain ⟨hg46, i45, rfl, hr47⟩ := hv44
    obtain rfl : rq = i45 := Value.ref.inj ((hR).symm.trans hg46.symm)
    refine lv_bipush (v := 110) hx hb dX8_request_15 (by decide) ?_
    refine z_put (g' := (zup g rq 6 (.int 110))) (k := 7) (j := 6) hM hI hr47 rfl rfl hinX5 tyX5 tyX5_ok nmX5 rfl (by decide) (by decide +kernel) (fun _ h9 => h9) rfl rfl (by decide) (by decide) ⟨(zup_self _ _ _ _).symm, _, rfl, by decide⟩ (fun b i h => zup_ne h) dX8_request_17 (fun H locs hI => ?_)
    refine z_throw (ik := 71) (is := 95) (ic := 75) (cls := "java/lang/IllegalArgumentException") (text := "a number out of range") (L0 := L) ["java/lang/RuntimeException", "java/lang/Exception"] (by decide) hM hE hI hnt (by decide) (by decide +kernel) (by decide +kernel) (by decide +kernel) (by decide +kernel) (by decide +kernel) (by decide +kernel) (hl.1.trans hml.symm) dX8_request_20 dX8_request_23 dX8_request_24 dX8_request_26 dX8_request_29 hout (Nat.le_of_ble_eq_true rfl) (Nat.le_of_ble_eq_true rfl) (Nat.le_of_ble_eq_true rfl) (Nat.le_of_ble_eq_true rfl) hlocks (Or.inl ⟨rfl, hw2.mp c3, rfl⟩) (Nat.le_of_ble_eq_true rfl) (Nat.le_of_ble_eq_true rfl)

set_option maxHeartbeats 4000000 in
set_option maxRecDepth 100000 in
theorem c_X8_move (l : Launch) (hnt : l.stackTraces = false) (D : va_G) (tc : Nat → ClassId) (z0 : Nat) (L : List Nat) (κ : Nat → Nat) (g : Nat → Nat → Value) (sz : Nat) (p0 : Nat) (hk0 : κ p0 = 10) (p1 : Int32) (p2 : Int32) (aT : Nat) (hT : g p0 2 = .ref aT) (aC : Nat) (hC : g p0 1 = .ref aC) : vx_Met l yX8_move wsX8_move ({ frames := 7, cells := 3, slots := 18, locals := 120 }) (zPc D tc z0 [.ref p0, .int p1, .int p2] [] (L, κ, g) sz) (va_Qi (fun (r : Int32) (u : zS) => ∃ a : Nat, κ a = 9 ∧ vp_in p1 8 ∧ g aT p1.toNatClampNeg = .ref a ∧ zHas g aC 6 p2 ∧ g a 1 = .int r ∧ ¬ r = p2 ∧ u = (L, κ, zup g a 1 (.int p2))) (fun (u : zS) (t : State) => zB D tc (zA [] L sz) [] u t) (zA [] L sz)) (vx_X (fun u : zS => True) (fun (E : String) (u : zS) (t : State) => (((E = "java/lang/IndexOutOfBoundsException" ∧ (¬ zHas g aT 8 p1 ∨ ¬ zHas g aC 6 p2)) ∨ (E = "java/lang/UnsupportedOperationException" ∧ zHas g aC 6 p2 ∧ vp_in p1 8 ∧ ∃ a : Nat, g aT p1.toNatClampNeg = .ref a ∧ g a 1 = .int p2)) ∧ u = (L, κ, g)) ∧ zB D tc (zA [] L sz) [] u t) (zA [] L sz)) 3 18 (zA [] L sz) := by
  refine vx_ofW (cc := cX8_move) (maxL := 5) (ret := (some .int)) (by decide) rfl ?_
  intro p e s m args below meth c s₁ B hml hxt hv
  obtain ⟨rfl, rfl, hK, hE, hI⟩ := hv.opn
  have hx := B.exec
  have hb := B.bytes
  have hr := B.returns
  have hts := atoms_spec (ws := wsX8_move) B.pre
  have hown : s.vm.findClass RX8 = some m.cls := findClass_of_methodNamed B.named
  have hlocks := B.notSynchronized
  have hout : ∀ (i : Nat), ∀ x ∈ c.exceptionTable.toList, covers x i = false := fun i x hx9 => (hxt x hx9).elim
  have hM : zM p s m c cX8_move _ wsX8_move RX8 D tc := ⟨hx, hb, hts, hown, hK⟩
  have hinX7 : ∀ w ∈ wsX70, w ∈ wsX8_move := by decide +kernel
  have hl := lv_entry ([.ref p0, .int p1, .int p2]) (n := 5) (Nat.le_of_ble_eq_true rfl)
  rw [lg_entry_eq]
  generalize (lg_sl ([.ref p0, .int p1, .int p2]) ++ List.replicate (5 - (lg_sl ([.ref p0, .int p1, .int p2])).length) Slot.unset).toArray = ls at hl ⊢
  have hl : lv_has ls 5 [(0, .ref p0), (1, .int p1), (2, .int p2)] := hl
  refine lv_aload_n hx hb dX8_move_0 rfl (lv_at hl 0 rfl) ?_
  refine lv_iload_n hx hb dX8_move_1 rfl (lv_at hl 1 rfl) ?_
  refine z_xq hI (vx_runV (As := [.int p1]) (rest := []) ⟨hx, hb, hml, hown, hts⟩ (c_X8_taskAt l hnt _ _ _ _ _ _ _ p0 hk0 p1 aT hT) (cwV 1 hts gX8_move_X8_taskAt rfl rfl rfl (by decide +kernel) ⟨Nat.le_of_ble_eq_true rfl, Nat.le_of_ble_eq_true rfl⟩) (z_preV hK hE hI [] rfl rfl (z_recv hK hI hk0 rfl rfl)) rfl rfl hl.1 rfl (lv_room (Nat.le_of_ble_eq_true rfl)) dX8_move_2 ⟨Nat.le_of_ble_eq_true rfl, Nat.le_of_ble_eq_true rfl⟩) (fun E ce q9 u H locs hw hI he1 he2 he3 => ?_) (fun v1 u H locs hw2 hI => ?_)
  · obtain ⟨hxp, rfl⟩ := hw
    exact z_pass hK hI hout hlocks he1 he2 he3 ⟨Or.inl ⟨hxp.1, Or.inl hxp.2⟩, rfl⟩ (Nat.le_of_ble_eq_true rfl) (Nat.le_of_ble_eq_true rfl)
  obtain ⟨r3, rfl, hr4, hq5, rfl⟩ := hw2
  show W p l e (headSpec wsX8_move ({ frames := 7, cells := 3, slots := 18, locals := 120 })).room s m ([.ref p0, .int p1, .int p2] : List Value).toArray below meth c _ _ 1 6 (vx_MQ below (va_Qi (fun (r : Int32) (u : zS) => ∃ a : Nat, κ a = 9 ∧ vp_in p1 8 ∧ g aT p1.toNatClampNeg = .ref a ∧ zHas g aC 6 p2 ∧ g a 1 = .int r ∧ ¬ r = p2 ∧ u = (L, κ, zup g a 1 (.int p2))) (fun (u : zS) (t : State) => zB D tc (zA [] L s.heap.size) [] u t) (zA [] L s.heap.size)) (vx_X (fun u : zS => True) (fun (E : String) (u : zS) (t : State) => (((E = "java/lang/IndexOutOfBoundsException" ∧ (¬ zHas g aT 8 p1 ∨ ¬ zHas g aC 6 p2)) ∨ (E = "java/lang/UnsupportedOperationException" ∧ zHas g aC 6 p2 ∧ vp_in p1 8 ∧ ∃ a : Nat, g aT p1.toNatClampNeg = .ref a ∧ g a 1 = .int p2)) ∧ u = (L, κ, g)) ∧ zB D tc (zA [] L s.heap.size) [] u t) (zA [] L s.heap.size)) ([.ref p0, .int p1, .int p2] : List Value).toArray s 3 18 (zA [] L s.heap.size)) (F0 m 5 ls (.ref r3 :: []))
  refine lv_astore_n (lv' := [(3, .ref r3), (0, .ref p0), (1, .int p1), (2, .int p2)]) hx hb dX8_move_5 rfl hl (by decide) rfl (fun ls hl => ?_)
  refine lv_aload_n hx hb dX8_move_6 rfl (lv_at hl 1 rfl) ?_
  refine lv_iload_n hx hb dX8_move_7 rfl (lv_at hl 3 rfl) ?_
  refine z_xq hI (vx_runV (As := [.int p2]) (rest := []) ⟨hx, hb, hml, hown, hts⟩ (c_X8_coreAt l hnt _ _ _ _ _ _ _ p0 hk0 p2 aC hC) (cwV 1 hts gX8_move_X8_coreAt rfl rfl rfl (by decide +kernel) ⟨Nat.le_of_ble_eq_true rfl, Nat.le_of_ble_eq_true rfl⟩) (z_preV hK hE hI [] rfl rfl (z_recv hK hI hk0 rfl rfl)) rfl rfl hl.1 rfl (lv_room (Nat.le_of_ble_eq_true rfl)) dX8_move_8 ⟨Nat.le_of_ble_eq_true rfl, Nat.le_of_ble_eq_true rfl⟩) (fun E ce q9 u H locs hw hI he1 he2 he3 => ?_) (fun v6 u H locs hw7 hI => ?_)
  · obtain ⟨hxp, rfl⟩ := hw
    exact z_pass hK hI hout hlocks he1 he2 he3 ⟨Or.inl ⟨hxp.1, Or.inr hxp.2⟩, rfl⟩ (Nat.le_of_ble_eq_true rfl) (Nat.le_of_ble_eq_true rfl)
  obtain ⟨r8, rfl, hr9, hq10, rfl⟩ := hw7
  show W p l e (headSpec wsX8_move ({ frames := 7, cells := 3, slots := 18, locals := 120 })).room s m ([.ref p0, .int p1, .int p2] : List Value).toArray below meth c _ _ 2 12 (vx_MQ below (va_Qi (fun (r : Int32) (u : zS) => ∃ a : Nat, κ a = 9 ∧ vp_in p1 8 ∧ g aT p1.toNatClampNeg = .ref a ∧ zHas g aC 6 p2 ∧ g a 1 = .int r ∧ ¬ r = p2 ∧ u = (L, κ, zup g a 1 (.int p2))) (fun (u : zS) (t : State) => zB D tc (zA [] L s.heap.size) [] u t) (zA [] L s.heap.size)) (vx_X (fun u : zS => True) (fun (E : String) (u : zS) (t : State) => (((E = "java/lang/IndexOutOfBoundsException" ∧ (¬ zHas g aT 8 p1 ∨ ¬ zHas g aC 6 p2)) ∨ (E = "java/lang/UnsupportedOperationException" ∧ zHas g aC 6 p2 ∧ vp_in p1 8 ∧ ∃ a : Nat, g aT p1.toNatClampNeg = .ref a ∧ g a 1 = .int p2)) ∧ u = (L, κ, g)) ∧ zB D tc (zA [] L s.heap.size) [] u t) (zA [] L s.heap.size)) ([.ref p0, .int p1, .int p2] : List Value).toArray s 3 18 (zA [] L s.heap.size)) (F0 m 11 ls (.ref r8 :: []))
  refine lv_pop hx hb dX8_move_11 rfl ?_
  refine lv_aload_n hx hb dX8_move_12 rfl (lv_at hl 0 rfl) ?_
  refine z_get (k := 9) (j := 1) hM hI hr4 rfl rfl hinX7 rfl (by decide) (by decide +kernel) (fun _ h9 => h9) dX8_move_13 (fun v11 hv12 => ?_)
  obtain ⟨hg14, i13, rfl⟩ := hv12
  refine lv_iload_n hx hb dX8_move_16 rfl (lv_at hl 3 rfl) ?_
  refine lv_icmp_ne (tgt := 30) hx hb dX8_move_17 (by decide) (fun c15 => ?_) (fun c15 => ?_)
  · skip
    refine lv_aload_n hx hb dX8_move_30 rfl (lv_at hl 0 rfl) ?_
    refine z_get (k := 9) (j := 1) hM hI hr4 rfl rfl hinX7 rfl (by decide) (by decide +kernel) (fun _ h9 => h9) dX8_move_31 (fun v16 hv17 => ?_)
    obtain ⟨hg19, i18, rfl⟩ := hv17
    refine lv_istore (lv' := [(4, .int i18), (3, .ref r3), (0, .ref p0), (1, .int p1), (2, .int p2)]) hx hb dX8_move_34 hl (by decide) rfl (fun ls hl => ?_)
    refine lv_aload_n hx hb dX8_move_36 rfl (lv_at hl 1 rfl) ?_
    refine lv_iload_n hx hb dX8_move_37 rfl (lv_at hl 4 rfl) ?_
    refine z_put (g' := (zup g r3 1 (.int p2))) (k := 9) (j := 1) hM hI hr4 rfl rfl hinX7 tyX7 tyX7_ok nmX7 rfl (by decide) (by decide +kernel) (fun _ h9 => h9) rfl rfl rfl rfl ⟨(zup_self _ _ _ _).symm, _, rfl⟩ (fun b i h => zup_ne h) dX8_move_38 (fun H locs hI => ?_)
    refine lv_aload_n hx hb dX8_move_41 rfl (lv_at hl 1 rfl) ?_
    refine lv_iconst (v := 5) hx hb dX8_move_42 (by decide) ?_
    refine z_put (g' := (zup g r3 1 (.int p2))) (k := 9) (j := 3) hM hI hr4 rfl rfl hinX7 tyX7 tyX7_ok nmX7 rfl (by decide) (by decide +kernel) (fun _ h9 => h9) rfl rfl rfl rfl ⟨_, rfl⟩ (fun _ _ _ => rfl) dX8_move_43 (fun H locs hI => ?_)
    refine lv_iload hx hb dX8_move_46 (lv_at hl 0 rfl) ?_
    refine vx_ret ?_
    refine W.widen (k := 3) (n := 18) (Nat.le_of_ble_eq_true rfl) (Nat.le_of_ble_eq_true rfl) ?_
    exact W.iret (v := i18) hx hb hr (fun t ht hW => ⟨⟨_, (L, κ, (zup g r3 1 (.int p2))), rfl, ⟨_, by assumption, hq5.1, hq5.2, ⟨hq10.1, _, hq10.2⟩, hg19.symm, (fun h => c15 (by rw [← h]; exact Value.int.inj (hg14.trans hg19.symm))), rfl⟩, z_end hK hI ht hW⟩, z_F hI ht⟩) (z_locs hI) dX8_move_48
  · skip
    refine z_throw (ik := 115) (is := 117) (ic := 119) (cls := "java/lang/UnsupportedOperationException") (text := "it is there") (L0 := L) ["java/lang/RuntimeException", "java/lang/Exception"] (by decide) hM hE hI hnt (by decide) (by decide +kernel) (by decide +kernel) (by decide +kernel) (by decide +kernel) (by decide +kernel) (by decide +kernel) (hl.1.trans hml.symm) dX8_move_20 dX8_move_23 dX8_move_24 dX8_move_26 dX8_move_29 hout (Nat.le_of_ble_eq_true rfl) (Nat.le_of_ble_eq_true rfl) (Nat.le_of_ble_eq_true rfl) (Nat.le_of_ble_eq_true rfl) hlocks ⟨Or.inr ⟨rfl, ⟨hq10.1, _, hq10.2⟩, hq5.1, _, hq5.2, by rw [← c15]; exact hg14.symm⟩, rfl⟩ (Nat.le_of_ble_eq_true rfl) (Nat.le_of_ble_eq_true rfl)

set_option maxHeartbeats 4000000 in
set_option maxRecDepth 100000 in
theorem c_X8_oneTick (l : Launch) (D : va_G) (tc : Nat → ClassId) (z0 : Nat) (L : List Nat) (κ : Nat → Nat) (g : Nat → Nat → Value) (sz : Nat) (p0 : Nat) (hk0 : κ p0 = 10) (t9 : Int32) (ht9 : g p0 8 = .int t9) (rq : Nat) (hR : g p0 5 = .ref rq) (w9 : Int32) (hw9 : g rq 4 = .int w9) (h9 : Int32) (hh9 : g rq 2 = .int h9) (hne : rq ≠ p0) : Met l yX8_oneTick wsX8_oneTick ({ frames := 5, cells := 0, slots := 0, locals := 116 }) (zPc D tc z0 [.ref p0] [] (L, κ, g) sz) (va_Qv (fun (u : zS) => ∃ g2 : Nat → Nat → Value, u = (L, κ, g2) ∧ zTk p0 rq 8 2 4 g g2 (t9 + 1) (if w9 ≤ 0 then h9 else w9) (if w9 ≤ 0 then w9 else 0)) (fun (u : zS) (t : State) => zB D tc (zA [] L sz) [] u t) (zA [] L sz)) 0 0 (zA [] L sz) := by
  refine Met.ofW (cc := cX8_oneTick) (maxL := 1) (ret := none) (by decide) rfl ?_
  intro p e s m args below meth c s₁ B hml hv
  obtain ⟨rfl, rfl, hK, hE, hI⟩ := hv.opn
  have hx := B.exec
  have hb := B.bytes
  have hr := B.returns
  have hts := atoms_spec (ws := wsX8_oneTick) B.pre
  have hown : s.vm.findClass RX8 = some m.cls := findClass_of_methodNamed B.named
  have hlocks := B.notSynchronized
  have hM : zM p s m c cX8_oneTick _ wsX8_oneTick RX8 D tc := ⟨hx, hb, hts, hown, hK⟩
  have hinX8 : ∀ w ∈ wsX80, w ∈ wsX8_oneTick := by decide +kernel
  have hl := lv_entry ([.ref p0]) (n := 1) (Nat.le_of_ble_eq_true rfl)
  rw [lg_entry_eq]
  generalize (lg_sl ([.ref p0]) ++ List.replicate (1 - (lg_sl ([.ref p0])).length) Slot.unset).toArray = ls at hl ⊢
  have hl : lv_has ls 1 [(0, .ref p0)] := hl
  refine lv_aload_n hx hb dX8_oneTick_0 rfl (lv_at hl 0 rfl) ?_
  refine lv_dup hx hb dX8_oneTick_1 rfl ?_
  refine z_get (k := 10) (j := 8) hM hI hk0 rfl rfl hinX8 rfl (by decide) (by decide +kernel) (fun _ h9 => h9) dX8_oneTick_2 (fun v1 hv2 => ?_)
  obtain ⟨hg4, i3, rfl⟩ := hv2
  obtain rfl : t9 = i3 := Value.int.inj ((ht9).symm.trans hg4.symm)
  refine lv_iconst (v := 1) hx hb dX8_oneTick_5 (by decide) ?_
  refine lv_iadd hx hb dX8_oneTick_6 ?_
  refine lv_topi (fun v5 e6 => ?_)
  refine z_put (g' := (zup g p0 8 (.int v5))) (k := 10) (j := 8) hM hI hk0 rfl rfl hinX8 tyX8 tyX8_ok nmX8 rfl (by decide) (by decide +kernel) (fun _ h9 => h9) rfl rfl rfl rfl ⟨(zup_self _ _ _ _).symm, _, rfl⟩ (fun b i h => zup_ne h) dX8_oneTick_7 (fun H locs hI => ?_)
  refine lv_aload_n hx hb dX8_oneTick_10 rfl (lv_at hl 0 rfl) ?_
  refine z_get (k := 10) (j := 5) hM hI hk0 rfl rfl hinX8 rfl (by decide) (by decide +kernel) (fun _ h9 => h9) dX8_oneTick_11 (fun v7 hv8 => ?_)
  obtain ⟨hg10, i9, rfl, hr11⟩ := hv8
  obtain rfl : rq = i9 := Value.ref.inj ((((zup_ne (Or.inr (by decide))).trans hR)).symm.trans hg10.symm)
  refine z_cv hI (va_runV (As := []) (rest := []) ⟨hx, hb, hml, hown, hts⟩ (c_X5_beginToHold l _ _ _ _ _ _ _ rq hr11 w9 ((zup_ne (Or.inr (by decide))).trans hw9)) (cwV 0 hts gX8_oneTick_X5_beginToHold rfl rfl rfl (by decide +kernel) ⟨Nat.le_of_ble_eq_true rfl, Nat.le_of_ble_eq_true rfl⟩) (z_preV hK hE hI [] rfl rfl (z_recv hK hI hr11 rfl rfl)) rfl rfl hl.1 rfl (lv_room (Nat.le_of_ble_eq_true rfl)) dX8_oneTick_14 ⟨Nat.le_of_ble_eq_true rfl, Nat.le_of_ble_eq_true rfl⟩) (fun u H locs hw13 hI => ?_)
  obtain rfl := hw13
  refine lv_aload_n hx hb dX8_oneTick_17 rfl (lv_at hl 0 rfl) ?_
  refine z_cv hI (va_runV (As := []) (rest := []) ⟨hx, hb, hml, hown, hts⟩ (c_X8_beginCores l _ _ _ _ _ _ _ p0 hk0) (cwV 0 hts gX8_oneTick_X8_beginCores rfl rfl rfl (by decide +kernel) ⟨Nat.le_of_ble_eq_true rfl, Nat.le_of_ble_eq_true rfl⟩) (z_preV hK hE hI [] rfl rfl (z_recv hK hI hk0 rfl rfl)) rfl rfl hl.1 rfl (lv_room (Nat.le_of_ble_eq_true rfl)) dX8_oneTick_18 ⟨Nat.le_of_ble_eq_true rfl, Nat.le_of_ble_eq_true rfl⟩) (fun u H locs hw15 hI => ?_)
  obtain rfl := hw15
  refine lv_aload_n hx hb dX8_oneTick_21 rfl (lv_at hl 0 rfl) ?_
  refine z_cv hI (va_runV (As := []) (rest := []) ⟨hx, hb, hml, hown, hts⟩ (c_X8_sleepAndWake l _ _ _ _ _ _ _ p0 hk0) (cwV 0 hts gX8_oneTick_X8_sleepAndWake rfl rfl rfl (by decide +kernel) ⟨Nat.le_of_ble_eq_true rfl, Nat.le_of_ble_eq_true rfl⟩) (z_preV hK hE hI [] rfl rfl (z_recv hK hI hk0 rfl rfl)) rfl rfl hl.1 rfl (lv_room (Nat.le_of_ble_eq_true rfl)) dX8_oneTick_22 ⟨Nat.le_of_ble_eq_true rfl, Nat.le_of_ble_eq_true rfl⟩) (fun u H locs hw17 hI => ?_)
  obtain rfl := hw17
  refine lv_aload_n hx hb dX8_oneTick_25 rfl (lv_at hl 0 rfl) ?_
  refine z_cv hI (va_runV (As := []) (rest := []) ⟨hx, hb, hml, hown, hts⟩ (c_X8_wishAndClamp l _ _ _ _ _ _ _ p0 hk0) (cwV 0 hts gX8_oneTick_X8_wishAndClamp rfl rfl rfl (by decide +kernel) ⟨Nat.le_of_ble_eq_true rfl, Nat.le_of_ble_eq_true rfl⟩) (z_preV hK hE hI [] rfl rfl (z_recv hK hI hk0 rfl rfl)) rfl rfl hl.1 rfl (lv_room (Nat.le_of_ble_eq_true rfl)) dX8_oneTick_26 ⟨Nat.le_of_ble_eq_true rfl, Nat.le_of_ble_eq_true rfl⟩) (fun u H locs hw19 hI => ?_)
  obtain rfl := hw19
  refine lv_aload_n hx hb dX8_oneTick_29 rfl (lv_at hl 0 rfl) ?_
  refine z_cv hI (va_runV (As := []) (rest := []) ⟨hx, hb, hml, hown, hts⟩ (c_X8_driveRails l _ _ _ _ _ _ _ p0 hk0) (cwV 0 hts gX8_oneTick_X8_driveRails rfl rfl rfl (by decide +kernel) ⟨Nat.le_of_ble_eq_true rfl, Nat.le_of_ble_eq_true rfl⟩) (z_preV hK hE hI [] rfl rfl (z_recv hK hI hk0 rfl rfl)) rfl rfl hl.1 rfl (lv_room (Nat.le_of_ble_eq_true rfl)) dX8_oneTick_30 ⟨Nat.le_of_ble_eq_true rfl, Nat.le_of_ble_eq_true rfl⟩) (fun u H locs hw21 hI => ?_)
  obtain rfl := hw21
  refine lv_aload_n hx hb dX8_oneTick_33 rfl (lv_at hl 0 rfl) ?_
  refine z_cv hI (va_runV (As := []) (rest := []) ⟨hx, hb, hml, hown, hts⟩ (c_X8_letCoresRun l _ _ _ _ _ _ _ p0 hk0) (cwV 0 hts gX8_oneTick_X8_letCoresRun rfl rfl rfl (by decide +kernel) ⟨Nat.le_of_ble_eq_true rfl, Nat.le_of_ble_eq_true rfl⟩) (z_preV hK hE hI [] rfl rfl (z_recv hK hI hk0 rfl rfl)) rfl rfl hl.1 rfl (lv_room (Nat.le_of_ble_eq_true rfl)) dX8_oneTick_34 ⟨Nat.le_of_ble_eq_true rfl, Nat.le_of_ble_eq_true rfl⟩) (fun u H locs hw23 hI => ?_)
  obtain rfl := hw23
  refine lv_aload_n hx hb dX8_oneTick_37 rfl (lv_at hl 0 rfl) ?_
  refine z_cv hI (va_runV (As := []) (rest := []) ⟨hx, hb, hml, hown, hts⟩ (c_X8_heatCores l _ _ _ _ _ _ _ p0 hk0) (cwV 0 hts gX8_oneTick_X8_heatCores rfl rfl rfl (by decide +kernel) ⟨Nat.le_of_ble_eq_true rfl, Nat.le_of_ble_eq_true rfl⟩) (z_preV hK hE hI [] rfl rfl (z_recv hK hI hk0 rfl rfl)) rfl rfl hl.1 rfl (lv_room (Nat.le_of_ble_eq_true rfl)) dX8_oneTick_38 ⟨Nat.le_of_ble_eq_true rfl, Nat.le_of_ble_eq_true rfl⟩) (fun u H locs hw25 hI => ?_)
  obtain rfl := hw25
  refine lv_aload_n hx hb dX8_oneTick_41 rfl (lv_at hl 0 rfl) ?_
  refine z_cv hI (va_runV (As := []) (rest := []) ⟨hx, hb, hml, hown, hts⟩ (c_X8_flowToCase l _ _ _ _ _ _ _ p0 hk0) (cwV 0 hts gX8_oneTick_X8_flowToCase rfl rfl rfl (by decide +kernel) ⟨Nat.le_of_ble_eq_true rfl, Nat.le_of_ble_eq_true rfl⟩) (z_preV hK hE hI [] rfl rfl (z_recv hK hI hk0 rfl rfl)) rfl rfl hl.1 rfl (lv_room (Nat.le_of_ble_eq_true rfl)) dX8_oneTick_42 ⟨Nat.le_of_ble_eq_true rfl, Nat.le_of_ble_eq_true rfl⟩) (fun u H locs hw27 hI => ?_)
  obtain rfl := hw27
  refine lv_aload_n hx hb dX8_oneTick_45 rfl (lv_at hl 0 rfl) ?_
  refine z_get (k := 10) (j := 3) hM hI hk0 rfl rfl hinX8 rfl (by decide) (by decide +kernel) (fun _ h9 => h9) dX8_oneTick_46 (fun v28 hv29 => ?_)
  obtain ⟨hg31, i30, rfl, hr32⟩ := hv29
  refine lv_aload_n hx hb dX8_oneTick_49 rfl (lv_at hl 0 rfl) ?_
  refine z_get (k := 10) (j := 7) hM hI hk0 rfl rfl hinX8 rfl (by decide) (by decide +kernel) (fun _ h9 => h9) dX8_oneTick_50 (fun v33 hv34 => ?_)
  obtain ⟨i35, rfl, hr36⟩ := hv34
  refine z_cv hI (va_runV (As := [.ref i35]) (rest := []) ⟨hx, hb, hml, hown, hts⟩ (c_X2_giveToAir l _ _ _ _ _ _ _ i30 hr32 i35 hr36) (cwV 1 hts gX8_oneTick_X2_giveToAir rfl rfl rfl (by decide +kernel) ⟨Nat.le_of_ble_eq_true rfl, Nat.le_of_ble_eq_true rfl⟩) (z_preV hK hE hI [] rfl rfl (z_recv hK hI hr32 rfl rfl)) rfl rfl hl.1 rfl (lv_room (Nat.le_of_ble_eq_true rfl)) dX8_oneTick_53 ⟨Nat.le_of_ble_eq_true rfl, Nat.le_of_ble_eq_true rfl⟩) (fun u H locs hw38 hI => ?_)
  obtain rfl := hw38
  refine lv_aload_n hx hb dX8_oneTick_56 rfl (lv_at hl 0 rfl) ?_
  refine z_get (k := 10) (j := 3) hM hI hk0 rfl rfl hinX8 rfl (by decide) (by decide +kernel) (fun _ h9 => h9) dX8_oneTick_57 (fun v39 hv40 => ?_)
  obtain ⟨hg42, i41, rfl, hr43⟩ := hv40
  refine z_cv hI (va_runV (As := []) (rest := []) ⟨hx, hb, hml, hown, hts⟩ (c_X2_stepFan l _ _ _ _ _ _ _ i41 hr43) (cwV 0 hts gX8_oneTick_X2_stepFan rfl rfl rfl (by decide +kernel) ⟨Nat.le_of_ble_eq_true rfl, Nat.le_of_ble_eq_true rfl⟩) (z_preV hK hE hI [] rfl rfl (z_recv hK hI hr43 rfl rfl)) rfl rfl hl.1 rfl (lv_room (Nat.le_of_ble_eq_true rfl)) dX8_oneTick_60 ⟨Nat.le_of_ble_eq_true rfl, Nat.le_of_ble_eq_true rfl⟩) (fun u H locs hw45 hI => ?_)
  obtain rfl := hw45
  refine lv_aload_n hx hb dX8_oneTick_63 rfl (lv_at hl 0 rfl) ?_
  refine z_get (k := 10) (j := 7) hM hI hk0 rfl rfl hinX8 rfl (by decide) (by decide +kernel) (fun _ h9 => h9) dX8_oneTick_64 (fun v46 hv47 => ?_)
  obtain ⟨i48, rfl, hr49⟩ := hv47
  refine lv_aload_n hx hb dX8_oneTick_67 rfl (lv_at hl 0 rfl) ?_
  refine z_get (k := 10) (j := 3) hM hI hk0 rfl rfl hinX8 rfl (by decide) (by decide +kernel) (fun _ h9 => h9) dX8_oneTick_68 (fun v50 hv51 => ?_)
  obtain ⟨hg53, i52, rfl, hr54⟩ := hv51
  refine z_ci hI (va_runV (As := []) (rest := [.ref i48]) ⟨hx, hb, hml, hown, hts⟩ (c_X2_runFan l _ _ _ _ _ _ _ i52 hr54) (cwV 0 hts gX8_oneTick_X2_runFan rfl rfl rfl (by decide +kernel) ⟨Nat.le_of_ble_eq_true rfl, Nat.le_of_ble_eq_true rfl⟩) (z_preV hK hE hI [] rfl rfl (z_recv hK hI hr54 rfl rfl)) rfl rfl hl.1 rfl (lv_room (Nat.le_of_ble_eq_true rfl)) dX8_oneTick_71 ⟨Nat.le_of_ble_eq_true rfl, Nat.le_of_ble_eq_true rfl⟩) (fun v55 u H locs hw56 hI => ?_)
  obtain rfl := hw56
  refine z_cv hI (va_runV (As := [.int v55]) (rest := []) ⟨hx, hb, hml, hown, hts⟩ (c_X0_become l _ _ _ _ _ _ _ i48 hr49 v55) (cwV 1 hts gX8_oneTick_X0_become rfl rfl rfl (by decide +kernel) ⟨Nat.le_of_ble_eq_true rfl, Nat.le_of_ble_eq_true rfl⟩) (z_preV hK hE hI [] rfl rfl (z_recv hK hI hr49 rfl rfl)) rfl rfl hl.1 rfl (lv_room (Nat.le_of_ble_eq_true rfl)) dX8_oneTick_74 ⟨Nat.le_of_ble_eq_true rfl, Nat.le_of_ble_eq_true rfl⟩) (fun u H locs hw58 hI => ?_)
  obtain rfl := hw58
  refine lv_aload_n hx hb dX8_oneTick_77 rfl (lv_at hl 0 rfl) ?_
  refine z_get (k := 10) (j := 6) hM hI hk0 rfl rfl hinX8 rfl (by decide) (by decide +kernel) (fun _ h9 => h9) dX8_oneTick_78 (fun v59 hv60 => ?_)
  obtain ⟨i61, rfl, hr62⟩ := hv60
  refine lv_aload_n hx hb dX8_oneTick_81 rfl (lv_at hl 0 rfl) ?_
  refine z_get (k := 10) (j := 7) hM hI hk0 rfl rfl hinX8 rfl (by decide) (by decide +kernel) (fun _ h9 => h9) dX8_oneTick_82 (fun v63 hv64 => ?_)
  obtain ⟨i65, rfl, hr66⟩ := hv64
  refine z_cv hI (va_runV (As := [.ref i65]) (rest := []) ⟨hx, hb, hml, hown, hts⟩ (c_X0_add l _ _ _ _ _ _ _ i61 hr62 i65 hr66) (cwV 1 hts gX8_oneTick_X0_add rfl rfl rfl (by decide +kernel) ⟨Nat.le_of_ble_eq_true rfl, Nat.le_of_ble_eq_true rfl⟩) (z_preV hK hE hI [] rfl rfl (z_recv hK hI hr62 rfl rfl)) rfl rfl hl.1 rfl (lv_room (Nat.le_of_ble_eq_true rfl)) dX8_oneTick_85 ⟨Nat.le_of_ble_eq_true rfl, Nat.le_of_ble_eq_true rfl⟩) (fun u H locs hw68 hI => ?_)
  obtain rfl := hw68
  refine lv_aload_n hx hb dX8_oneTick_88 rfl (lv_at hl 0 rfl) ?_
  refine z_get (k := 10) (j := 4) hM hI hk0 rfl rfl hinX8 rfl (by decide) (by decide +kernel) (fun _ h9 => h9) dX8_oneTick_89 (fun v69 hv70 => ?_)
  obtain ⟨hg72, i71, rfl, hr73⟩ := hv70
  refine lv_aload_n hx hb dX8_oneTick_92 rfl (lv_at hl 0 rfl) ?_
  refine z_get (k := 10) (j := 6) hM hI hk0 rfl rfl hinX8 rfl (by decide) (by decide +kernel) (fun _ h9 => h9) dX8_oneTick_93 (fun v74 hv75 => ?_)
  obtain ⟨i76, rfl, hr77⟩ := hv75
  refine z_cv hI (va_runV (As := [.ref i76]) (rest := []) ⟨hx, hb, hml, hown, hts⟩ (c_X6_give l _ _ _ _ _ _ _ i71 hr73 i76 hr77) (cwV 1 hts gX8_oneTick_X6_give rfl rfl rfl (by decide +kernel) ⟨Nat.le_of_ble_eq_true rfl, Nat.le_of_ble_eq_true rfl⟩) (z_preV hK hE hI [] rfl rfl (z_recv hK hI hr73 rfl rfl)) rfl rfl hl.1 rfl (lv_room (Nat.le_of_ble_eq_true rfl)) dX8_oneTick_96 ⟨Nat.le_of_ble_eq_true rfl, Nat.le_of_ble_eq_true rfl⟩) (fun u H locs hw79 hI => ?_)
  obtain rfl := hw79
  exact W.vret hx hb hr (fun t ht hW => ⟨⟨(L, κ, (if w9 ≤ 0 then (zup g p0 8 (.int v5)) else zup (zup (zup g p0 8 (.int v5)) rq 2 (.int w9)) rq 4 (.int 0))), rfl, ⟨_, rfl, by subst_vars; exact zTk_of (by decide) (by decide) (by decide) hne hh9 hw9⟩, z_end hK hI ht hW⟩, z_F hI ht⟩) (z_locs hI) dX8_oneTick_99

set_option maxHeartbeats 4000000 in
set_option maxRecDepth 100000 in
theorem c_X8_pass (l : Launch) (hnt : l.stackTraces = false) (D : va_G) (tc : Nat → ClassId) (z0 : Nat) (L : List Nat) (κ : Nat → Nat) (g : Nat → Nat → Value) (sz : Nat) (p0 : Nat) (hk0 : κ p0 = 10) (p1 : Int32) (t9 : Int32) (ht9 : g p0 8 = .int t9) (rq : Nat) (hR : g p0 5 = .ref rq) (w9 : Int32) (hw9 : g rq 4 = .int w9) (h9 : Int32) (hh9 : g rq 2 = .int h9) (hne : rq ≠ p0) : vx_Met l yX8_pass wsX8_pass ({ frames := 6, cells := 1, slots := 6, locals := 136 }) (zPc D tc z0 [.ref p0, .int p1] [] (L, κ, g) sz) (va_Qi (fun (r : Int32) (u : zS) => (1 ≤ p1 ∧ p1 ≤ 100) ∧ ¬ 9999 < t9 + p1 ∧ r = t9 + p1 ∧ ∃ g2 : Nat → Nat → Value, u = (L, κ, g2) ∧ zTk p0 rq 8 2 4 g g2 (t9 + p1) (if w9 ≤ 0 then h9 else w9) (if w9 ≤ 0 then w9 else 0)) (fun (u : zS) (t : State) => zB D tc (zA [] L sz) [] u t) (zA [] L sz)) (vx_X (fun u : zS => True) (fun (E : String) (u : zS) (t : State) => (((E = "java/lang/IllegalArgumentException" ∧ ¬ (1 ≤ p1 ∧ p1 ≤ 100)) ∨ (E = "java/lang/IllegalStateException" ∧ (1 ≤ p1 ∧ p1 ≤ 100) ∧ 9999 < t9 + p1)) ∧ u = (L, κ, g)) ∧ zB D tc (zA [] L sz) [] u t) (zA [] L sz)) 1 6 (zA [] L sz) := by
  refine vx_ofW (cc := cX8_pass) (maxL := 3) (ret := (some .int)) (by decide) rfl ?_
  intro p e s m args below meth c s₁ B hml hxt hv
  obtain ⟨rfl, rfl, hK, hE, hI⟩ := hv.opn
  have hx := B.exec
  have hb := B.bytes
  have hr := B.returns
  have hts := atoms_spec (ws := wsX8_pass) B.pre
  have hown : s.vm.findClass RX8 = some m.cls := findClass_of_methodNamed B.named
  have hlocks := B.notSynchronized
  have hout : ∀ (i : Nat), ∀ x ∈ c.exceptionTable.toList, covers x i = false := fun i x hx9 => (hxt x hx9).elim
  have hM : zM p s m c cX8_pass _ wsX8_pass RX8 D tc := ⟨hx, hb, hts, hown, hK⟩
  have hinX8 : ∀ w ∈ wsX80, w ∈ wsX8_pass := by decide +kernel
  have hl := lv_entry ([.ref p0, .int p1]) (n := 3) (Nat.le_of_ble_eq_true rfl)
  rw [lg_entry_eq]
  generalize (lg_sl ([.ref p0, .int p1]) ++ List.replicate (3 - (lg_sl ([.ref p0, .int p1])).length) Slot.unset).toArray = ls at hl ⊢
  have hl : lv_has ls 3 [(0, .ref p0), (1, .int p1)] := hl
  refine lv_iconst (v := 1) hx hb dX8_pass_0 (by decide) ?_
  refine lv_iload_n hx hb dX8_pass_1 rfl (lv_at hl 1 rfl) ?_
  refine lv_bipush (v := 100) hx hb dX8_pass_2 (by decide) ?_
  refine vp_callSi (W.runS (As := [.int 1, .int p1, .int 100]) (rest := []) ⟨hx, hb, hml, hown, hts⟩ (c_X8_isFrom l _ _ _ _ _ _ _ 1 p1 100) (va_cwS 3 hts gX8_pass_X8_isFrom rfl rfl rfl (by decide +kernel) ⟨Nat.le_of_ble_eq_true rfl, Nat.le_of_ble_eq_true rfl⟩) (z_pre hK hE hI [] rfl rfl) rfl rfl hl.1 rfl (lv_room (Nat.le_of_ble_eq_true rfl)) dX8_pass_4 ⟨Nat.le_of_ble_eq_true rfl, Nat.le_of_ble_eq_true rfl⟩) (fun v1 hw2 => ?_)
  refine lv_if_ne (tgt := 20) hx hb dX8_pass_7 (by decide) (fun c3 => ?_) (fun c3 => ?_)
  · skip
    refine lv_aload_n hx hb dX8_pass_20 rfl (lv_at hl 0 rfl) ?_
    refine z_get (k := 10) (j := 8) hM hI hk0 rfl rfl hinX8 rfl (by decide) (by decide +kernel) (fun _ h9 => h9) dX8_pass_21 (fun v4 hv5 => ?_)
    obtain ⟨hg7, i6, rfl⟩ := hv5
    obtain rfl : t9 = i6 := Value.int.inj ((ht9).symm.trans hg7.symm)
    refine lv_iload_n hx hb dX8_pass_24 rfl (lv_at hl 1 rfl) ?_
    refine lv_iadd hx hb dX8_pass_25 ?_
    refine lv_topi (fun v8 e9 => ?_)
    refine lv_sipush (v := 9999) hx hb dX8_pass_26 (by decide) ?_
    refine lv_icmp_le (tgt := 42) hx hb dX8_pass_29 (by decide) (fun c10 => ?_) (fun c10 => ?_)
    · skip
      obtain ⟨hlo9, hhi9⟩ := (Classical.not_not.mp (fun h => c3 (hw2.mpr h)))
      obtain ⟨n9, hn9, hp9⟩ := nI_of2 (M := 100) (n := 100) (by decide) (z_nn hlo9) hhi9
      refine lv_iconst (v := 0) hx hb dX8_pass_42 (by decide) ?_
      refine lv_istore_n (lv' := [(2, .int 0), (0, .ref p0), (1, .int p1)]) hx hb dX8_pass_43 rfl hl (by decide) rfl (fun ls hl => ?_)
      have hL44 : ∀ (n : Nat) (H : Heap) (locs : List Loc)   (i12 : Nat) (hi : i12 ≤ n9) (hn : n9 - i12 < n)  (g11 : Nat → Nat → Value) (hk9 : zTk p0 rq 8 2 4 g g11 (t9 + nI i12) (if i12 = 0 ∨ w9 ≤ 0 then h9 else w9) (if i12 = 0 ∨ w9 ≤ 0 then w9 else 0))  (hI : zI D tc (zA [] L s.heap.size) s.heap [] L κ g11 H locs) (ls : Array Slot) (hl : lv_has ls 3 [(0, .ref p0), (1, .int p1), (2, .int ((nI i12)))]), W p l e (headSpec wsX8_pass ({ frames := 6, cells := 1, slots := 6, locals := 136 })).room s m ([.ref p0, .int p1] : List Value).toArray below meth c H locs 0 0 (vx_MQ below (va_Qi (fun (r : Int32) (u : zS) => (1 ≤ p1 ∧ p1 ≤ 100) ∧ ¬ 9999 < t9 + p1 ∧ r = t9 + p1 ∧ ∃ g2 : Nat → Nat → Value, u = (L, κ, g2) ∧ zTk p0 rq 8 2 4 g g2 (t9 + p1) (if w9 ≤ 0 then h9 else w9) (if w9 ≤ 0 then w9 else 0)) (fun (u : zS) (t : State) => zB D tc (zA [] L s.heap.size) [] u t) (zA [] L s.heap.size)) (vx_X (fun u : zS => True) (fun (E : String) (u : zS) (t : State) => (((E = "java/lang/IllegalArgumentException" ∧ ¬ (1 ≤ p1 ∧ p1 ≤ 100)) ∨ (E = "java/lang/IllegalStateException" ∧ (1 ≤ p1 ∧ p1 ≤ 100) ∧ 9999 < t9 + p1)) ∧ u = (L, κ, g)) ∧ zB D tc (zA [] L s.heap.size) [] u t) (zA [] L s.heap.size)) ([.ref p0, .int p1] : List Value).toArray s 1 6 (zA [] L s.heap.size)) (F0 m 44 ls []) := by
        intro n
        induction n with
        | zero => intro H locs i12 hi hn g11 hk9 hI ls hl; exact absurd hn (Nat.not_lt_zero _)
        | succ n ih =>
          intro H locs i12 hi hn g11 hk9 hI ls hl
          refine lv_iload_n hx hb dX8_pass_44 rfl (lv_at hl 2 rfl) ?_
          refine lv_iload_n hx hb dX8_pass_45 rfl (lv_at hl 1 rfl) ?_
          refine lv_icmp_ge (tgt := 59) hx hb dX8_pass_46 (by decide) (fun c13 => ?_) (fun c13 => ?_)
          · skip
            rw [hp9] at c13
            have hgec13 : n9 ≤ i12 := z_ge (by omega) (by omega) c13
            refine lv_aload_n hx hb dX8_pass_59 rfl (lv_at hl 0 rfl) ?_
            refine z_get (k := 10) (j := 8) hM hI hk0 rfl rfl hinX8 rfl (by decide) (by decide +kernel) (fun _ h9 => h9) dX8_pass_60 (fun v14 hv15 => ?_)
            obtain ⟨hg17, i16, rfl⟩ := hv15
            refine vx_ret ?_
            refine W.widen (k := 1) (n := 6) (Nat.le_of_ble_eq_true rfl) (Nat.le_of_ble_eq_true rfl) ?_
            exact W.iret (v := i16) hx hb hr (fun t ht hW => ⟨⟨_, (L, κ, g11), rfl, (z_passend hn9 hp9 hlo9 hhi9 c10 hk9 (by omega) hg17 (by assumption)), z_end hK hI ht hW⟩, z_F hI ht⟩) (z_locs hI) dX8_pass_63
          · skip
            rw [hp9] at c13
            have hltc13 : i12 < n9 := z_lt (by omega) c13
            refine lv_aload_n hx hb dX8_pass_49 rfl (lv_at hl 0 rfl) ?_
            refine z_cv hI (va_runV (As := []) (rest := []) ⟨hx, hb, hml, hown, hts⟩ (c_X8_oneTick l _ _ _ _ _ _ _ p0 hk0 _ hk9.1 _ ((hk9.2.2.2 _ _ (fun h => absurd h.2 (by decide)) (fun h => hne h.1.symm)).trans hR) _ hk9.2.2.1 _ hk9.2.1 hne) (cwV 0 hts gX8_pass_X8_oneTick rfl rfl rfl (by decide +kernel) ⟨Nat.le_of_ble_eq_true rfl, Nat.le_of_ble_eq_true rfl⟩) (z_preV hK hE hI [] rfl rfl (z_recv hK hI hk0 rfl rfl)) rfl rfl hl.1 rfl (lv_room (Nat.le_of_ble_eq_true rfl)) dX8_pass_50 ⟨Nat.le_of_ble_eq_true rfl, Nat.le_of_ble_eq_true rfl⟩) (fun u H locs hw19 hI => ?_)
            obtain ⟨g8, rfl, hk8⟩ := hw19
            refine lv_iinc (v := nI (i12 + 1)) (lv' := [(2, .int ((nI (i12 + 1)))), (0, .ref p0), (1, .int p1)]) hx hb dX8_pass_53 hl (k := 2) rfl (z_inc i12) (by decide) rfl (fun ls hl => ?_)
            refine lv_goto (tgt := 44) hx hb dX8_pass_56 (by decide) ?_
            exact ih _ _ (i12 + 1) (by first | omega | (simp only [] at *; omega)) (by first | omega | (simp only [] at *; omega)) g8 (zTk_step (by decide) (by decide) (by decide) hne hk9 hk8) hI ls (lv_sub hl [1, 2, 0] rfl)
      exact hL44 (n9 + 1) _ _ 0 (by first | omega | (simp only [] at *; omega)) (by first | omega | (simp only [] at *; omega)) g (zTk_0 ht9 hh9 hw9) hI ls (lv_sub hl [1, 2, 0] rfl)
    · skip
      refine z_throw (ik := 81) (is := 134) (ic := 85) (cls := "java/lang/IllegalStateException") (text := "too many ticks") (L0 := L) ["java/lang/RuntimeException", "java/lang/Exception"] (by decide) hM hE hI hnt (by decide) (by decide +kernel) (by decide +kernel) (by decide +kernel) (by decide +kernel) (by decide +kernel) (by decide +kernel) (hl.1.trans hml.symm) dX8_pass_32 dX8_pass_35 dX8_pass_36 dX8_pass_38 dX8_pass_41 hout (Nat.le_of_ble_eq_true rfl) (Nat.le_of_ble_eq_true rfl) (Nat.le_of_ble_eq_true rfl) (Nat.le_of_ble_eq_true rfl) hlocks ⟨Or.inr ⟨rfl, (Classical.not_not.mp (fun h => c3 (hw2.mpr h))), (by subst_vars; exact Int32.not_le.mp c10)⟩, rfl⟩ (Nat.le_of_ble_eq_true rfl) (Nat.le_of_ble_eq_true rfl)
  · skip
    refine z_throw (ik := 71) (is := 95) (ic := 75) (cls := "java/lang/IllegalArgumentException") (text := "a number out of range") (L0 := L) ["java/lang/RuntimeException", "java/lang/Exception"] (by decide) hM hE hI hnt (by decide) (by decide +kernel) (by decide +kernel) (by decide +kernel) (by decide +kernel) (by decide +kernel) (by decide +kernel) (hl.1.trans hml.symm) dX8_pass_10 dX8_pass_13 dX8_pass_14 dX8_pass_16 dX8_pass_19 hout (Nat.le_of_ble_eq_true rfl) (Nat.le_of_ble_eq_true rfl) (Nat.le_of_ble_eq_true rfl) (Nat.le_of_ble_eq_true rfl) hlocks ⟨Or.inl ⟨rfl, hw2.mp c3⟩, rfl⟩ (Nat.le_of_ble_eq_true rfl) (Nat.le_of_ble_eq_true rfl)

