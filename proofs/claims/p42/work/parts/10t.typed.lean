set_option maxHeartbeats 4000000 in
set_option maxRecDepth 100000 in
theorem c_X0_upTo (l : Launch) (D : va_G) (tc : Nat → ClassId) (z0 : Nat) (L : List Nat) (κ : Nat → Nat) (g : Nat → Nat → Value) (sz : Nat) (p0 K0 A0 : Nat) (hK0 : zAK K0 A0) (hk0 : κ p0 = K0) (p1 : Int32) : Met l yX0_upTo wsX0_upTo ({ frames := 0, cells := 0, slots := 0, locals := 0 }) (zPc D tc z0 ([.ref p0, .int p1] : List Value) [] (L, κ, g) sz) (vp_Si (fun r : Int32 => True)) 0 0 (fun _ => False) := by
  refine Met.ofW (cc := cX0_upTo) (maxL := 2) (ret := (some .int)) (by decide) rfl ?_
  intro p e9 s m args below meth c s₁ B hml hv
  obtain ⟨rfl, rfl, hK, hE, hI⟩ := hv.opn
  have hx := B.exec
  have hb := B.bytes
  have hr := B.returns
  have hts := atoms_spec (ws := wsX0_upTo) B.pre
  have hown : s.vm.findClass RX0 = some m.cls := findClass_of_methodNamed B.named
  have hlocks := B.notSynchronized
  have hM : zM p s m c cX0_upTo _ wsX0_upTo RX0 D tc := ⟨hx, hb, hts, hown, hK⟩
  have hinX0 : ∀ w ∈ wsX00, w ∈ wsX0_upTo := by decide +kernel
  have hl := lv_entry ([.ref p0, .int p1] : List Value) (n := 2) (Nat.le_of_ble_eq_true rfl)
  rw [lg_entry_eq]
  generalize (lg_sl ([.ref p0, .int p1] : List Value) ++ List.replicate (2 - (lg_sl ([.ref p0, .int p1] : List Value)).length) Slot.unset).toArray = ls at hl ⊢
  have hl : lv_has ls 2 [(0, .ref p0), (1, .int p1)] := hl
  refine lv_aload_n hx hb dX0_upTo_0 rfl (lv_at hl 0 rfl) ?_
  refine z_get (k := K0) (j := 1) hM hI hk0 hK0.1 rfl hinX0 rfl (by decide) (by decide +kernel) (fun _ h9 => h9) dX0_upTo_1 (fun v9 hv9 => ?_)
  obtain ⟨-, i9, rfl⟩ := hv9
  refine lv_iconst (v := 1) hx hb dX0_upTo_4 (by decide) ?_
  refine lv_icmp_gt (tgt := 20) hx hb dX0_upTo_5 (by decide) (fun c1 => ?_) (fun c1 => ?_)
  · skip
    refine lv_iload_n hx hb dX0_upTo_20 rfl (lv_at hl 1 rfl) ?_
    refine lv_goto (tgt := 31) hx hb dX0_upTo_21 (by decide) ?_
    exact W.iret (v := p1) hx hb hr (fun t ht hW => ⟨_, rfl, trivial, ht⟩) (fun q h => by cases h) dX0_upTo_31
  · skip
    refine lv_aload_n hx hb dX0_upTo_8 rfl (lv_at hl 0 rfl) ?_
    refine z_get (k := K0) (j := 0) hM hI hk0 hK0.1 rfl hinX0 rfl (by decide) (by decide +kernel) (fun _ h9 => h9) dX0_upTo_9 (fun v9 hv9 => ?_)
    obtain ⟨-, r9, rfl, hr9⟩ := hv9
    refine lv_iconst (v := 0) hx hb dX0_upTo_12 (by decide) ?_
    refine z_lald hM hI hr9 hK0.2.1 hK0.2.2 (vp_in_c 0 16 (by decide)) dX0_upTo_13 (fun x hvx => ?_)
    refine lv_iload_n hx hb dX0_upTo_14 rfl (lv_at hl 1 rfl) ?_
    refine lv_i2l hx hb dX0_upTo_15 rfl ?_
    refine W.lcmp hx hb dX0_upTo_16 ?_
    refine lv_if_le (tgt := 24) hx hb dX0_upTo_17 (by decide) (fun c1 => ?_) (fun c1 => ?_)
    · skip
      refine lv_aload_n hx hb dX0_upTo_24 rfl (lv_at hl 0 rfl) ?_
      refine z_get (k := K0) (j := 0) hM hI hk0 hK0.1 rfl hinX0 rfl (by decide) (by decide +kernel) (fun _ h9 => h9) dX0_upTo_25 (fun v9 hv9 => ?_)
      obtain ⟨-, r9, rfl, hr9⟩ := hv9
      refine lv_iconst (v := 0) hx hb dX0_upTo_28 (by decide) ?_
      refine z_lald hM hI hr9 hK0.2.1 hK0.2.2 (vp_in_c 0 16 (by decide)) dX0_upTo_29 (fun x hvx => ?_)
      refine lv_l2i hx hb dX0_upTo_30 rfl ?_
      refine lv_topi (fun r er => ?_)
      exact W.iret (v := r) hx hb hr (fun t ht hW => ⟨_, rfl, trivial, ht⟩) (fun q h => by cases h) dX0_upTo_31
    · skip
      refine lv_iload_n hx hb dX0_upTo_20 rfl (lv_at hl 1 rfl) ?_
      refine lv_goto (tgt := 31) hx hb dX0_upTo_21 (by decide) ?_
      exact W.iret (v := p1) hx hb hr (fun t ht hW => ⟨_, rfl, trivial, ht⟩) (fun q h => by cases h) dX0_upTo_31

set_option maxHeartbeats 4000000 in
set_option maxRecDepth 100000 in
theorem c_X0_lowBits (l : Launch) (D : va_G) (tc : Nat → ClassId) (z0 : Nat) (L : List Nat) (κ : Nat → Nat) (g : Nat → Nat → Value) (sz : Nat) (p0 K0 A0 : Nat) (hK0 : zAK K0 A0) (hk0 : κ p0 = K0) : Met l yX0_lowBits wsX0_lowBits ({ frames := 0, cells := 0, slots := 0, locals := 0 }) (zPc D tc z0 ([.ref p0] : List Value) [] (L, κ, g) sz) (vp_Sl (fun r : Int64 => True)) 0 0 (fun _ => False) := by
  refine Met.ofW (cc := cX0_lowBits) (maxL := 1) (ret := (some .long)) (by decide) rfl ?_
  intro p e9 s m args below meth c s₁ B hml hv
  obtain ⟨rfl, rfl, hK, hE, hI⟩ := hv.opn
  have hx := B.exec
  have hb := B.bytes
  have hr := B.returns
  have hts := atoms_spec (ws := wsX0_lowBits) B.pre
  have hown : s.vm.findClass RX0 = some m.cls := findClass_of_methodNamed B.named
  have hlocks := B.notSynchronized
  have hM : zM p s m c cX0_lowBits _ wsX0_lowBits RX0 D tc := ⟨hx, hb, hts, hown, hK⟩
  have hinX0 : ∀ w ∈ wsX00, w ∈ wsX0_lowBits := by decide +kernel
  have hl := lv_entry ([.ref p0] : List Value) (n := 1) (Nat.le_of_ble_eq_true rfl)
  rw [lg_entry_eq]
  generalize (lg_sl ([.ref p0] : List Value) ++ List.replicate (1 - (lg_sl ([.ref p0] : List Value)).length) Slot.unset).toArray = ls at hl ⊢
  have hl : lv_has ls 1 [(0, .ref p0)] := hl
  refine lv_aload_n hx hb dX0_lowBits_0 rfl (lv_at hl 0 rfl) ?_
  refine z_get (k := K0) (j := 0) hM hI hk0 hK0.1 rfl hinX0 rfl (by decide) (by decide +kernel) (fun _ h9 => h9) dX0_lowBits_1 (fun v9 hv9 => ?_)
  obtain ⟨-, r9, rfl, hr9⟩ := hv9
  refine lv_iconst (v := 0) hx hb dX0_lowBits_4 (by decide) ?_
  refine z_lald hM hI hr9 hK0.2.1 hK0.2.2 (vp_in_c 0 16 (by decide)) dX0_lowBits_5 (fun x0 hvx => ?_)
  refine lv_aload_n hx hb dX0_lowBits_6 rfl (lv_at hl 0 rfl) ?_
  refine z_get (k := K0) (j := 0) hM hI hk0 hK0.1 rfl hinX0 rfl (by decide) (by decide +kernel) (fun _ h9 => h9) dX0_lowBits_7 (fun v9 hv9 => ?_)
  obtain ⟨-, r9, rfl, hr9⟩ := hv9
  refine lv_iconst (v := 1) hx hb dX0_lowBits_10 (by decide) ?_
  refine z_lald hM hI hr9 hK0.2.1 hK0.2.2 (vp_in_c 1 16 (by decide)) dX0_lowBits_11 (fun x1 hvx => ?_)
  refine lv_bipush (v := 32) hx hb dX0_lowBits_12 (by decide) ?_
  refine lv_lshl hx hb dX0_lowBits_14 rfl ?_
  refine lv_ladd hx hb dX0_lowBits_15 ?_
  refine lv_topl (fun r er => ?_)
  exact W.lret (v := r) hx hb hr (fun t ht hW => ⟨_, rfl, trivial, ht⟩) (fun q h => by cases h) dX0_lowBits_16
