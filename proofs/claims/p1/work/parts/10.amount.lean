set_option maxHeartbeats 4000000 in
set_option maxRecDepth 100000 in
theorem c_X0_dropZeros (l : Launch) (D : va_G) (tc : Nat → ClassId) (z0 : Nat) (L : List Nat) (κ : Nat → Nat) (g : Nat → Nat → Value) (sz : Nat) (p0 : Nat) (hk0 : κ p0 = 2) : Met l yX0_dropZeros wsX0_dropZeros ({ frames := 0, cells := 0, slots := 0, locals := 0 }) (zPc D tc z0 [.ref p0] [] (L, κ, g) sz) (va_Qv (fun (u : zS) => u = (L, κ, g)) (fun (u : zS) (t : State) => zB D tc (zA [] L sz) [] u t) (zA [] L sz)) 0 0 (zA [] L sz) := by
  refine Met.ofW (cc := cX0_dropZeros) (maxL := 1) (ret := none) (by decide) rfl ?_
  intro p e s m args below meth c s₁ B hml hv
  obtain ⟨rfl, rfl, hK, hE, hI⟩ := hv.opn
  have hx := B.exec
  have hb := B.bytes
  have hr := B.returns
  have hts := atoms_spec (ws := wsX0_dropZeros) B.pre
  have hown : s.vm.findClass RX0 = some m.cls := findClass_of_methodNamed B.named
  have hlocks := B.notSynchronized
  have hM : zM p s m c cX0_dropZeros _ wsX0_dropZeros RX0 D tc := ⟨hx, hb, hts, hown, hK⟩
  have hinX0 : ∀ w ∈ wsX00, w ∈ wsX0_dropZeros := by decide +kernel
  have hl := lv_entry ([.ref p0]) (n := 1) (Nat.le_of_ble_eq_true rfl)
  rw [lg_entry_eq]
  generalize (lg_sl ([.ref p0]) ++ List.replicate (1 - (lg_sl ([.ref p0])).length) Slot.unset).toArray = ls at hl ⊢
  have hl : lv_has ls 1 [(0, .ref p0)] := hl
  have hL : ∀ (n : Nat) (H : Heap) (locs : List Loc) (f : Nat → va_E) (i : Nat) (hi : i < 17) (hn : i < n) (hf : zF f p0 1 = .int (nI i)) (hI : zIF D tc (zA [] L s.heap.size) s.heap [] L κ g f H locs) (ls : Array Slot) (hl : lv_has ls 1 [(0, .ref p0)]), W p l e (headSpec wsX0_dropZeros ({ frames := 0, cells := 0, slots := 0, locals := 0 })).room s m (([.ref p0] : List Value).toArray) below meth c H locs 0 0 (MQ below (va_Qv (fun (u : zS) => u = (L, κ, g)) (fun (u : zS) (t : State) => zB D tc (zA [] L s.heap.size) [] u t) (zA [] L s.heap.size)) (([.ref p0] : List Value).toArray) s 0 0 (zA [] L s.heap.size)) (F0 m 0 ls []) := by
    intro n
    induction n with
    | zero => intro H locs f i hi hn; exact absurd hn (Nat.not_lt_zero _)
    | succ n ih =>
      intro H locs f i hi hn hf hI ls hl
      refine lv_aload_n hx hb dX0_dropZeros_0 rfl (lv_at hl 0 rfl) ?_
      refine z_getF (k := 2) (j := 1) hM hI hk0 rfl rfl hinX0 rfl (by decide) (by decide +kernel) (fun _ h9 => h9) dX0_dropZeros_1 (fun v1 h1 hv1 => ?_)
      obtain rfl := hf.symm.trans h1
      refine lv_if_le (tgt := 36) hx hb dX0_dropZeros_4 (by decide) (fun c1 => ?_) (fun c1 => ?_)
      · have hI := hI.to
        exact W.vret hx hb hr (fun t ht hW => ⟨⟨(L, κ, g), rfl, rfl, z_end hK hI ht hW⟩, z_F hI ht⟩) (z_locs hI) dX0_dropZeros_36
      · rcases i with _ | j
        · exact absurd (by decide) c1
        · refine lv_aload_n hx hb dX0_dropZeros_7 rfl (lv_at hl 0 rfl) ?_
          refine z_getF (k := 2) (j := 0) hM hI hk0 rfl rfl hinX0 rfl (by decide) (by decide +kernel) (fun _ h9 => h9) dX0_dropZeros_8 (fun v2 h2 hv2 => ?_)
          obtain ⟨r2, rfl, hr2⟩ := hv2
          refine lv_aload_n hx hb dX0_dropZeros_11 rfl (lv_at hl 0 rfl) ?_
          refine z_getF (k := 2) (j := 1) hM hI hk0 rfl rfl hinX0 rfl (by decide) (by decide +kernel) (fun _ h9 => h9) dX0_dropZeros_12 (fun v3 h3 hv3 => ?_)
          obtain rfl := hf.symm.trans h3
          refine lv_iconst (v := 1) hx hb dX0_dropZeros_15 (by decide) ?_
          refine lv_isub hx hb dX0_dropZeros_16 ?_
          rw [nI_pred]
          refine z_lald hM hI.to hr2 rfl rfl (vp_in_nI (by omega) (by omega)) dX0_dropZeros_17 (fun v4 hv4 => ?_)
          refine lv_lconst (v := 0) hx hb dX0_dropZeros_18 (by decide) ?_
          refine W.lcmp hx hb dX0_dropZeros_19 ?_
          refine lv_if_ne (tgt := 36) hx hb dX0_dropZeros_20 (by decide) (fun c2 => ?_) (fun c2 => ?_)
          · have hI := hI.to
            exact W.vret hx hb hr (fun t ht hW => ⟨⟨(L, κ, g), rfl, rfl, z_end hK hI ht hW⟩, z_F hI ht⟩) (z_locs hI) dX0_dropZeros_36
          · refine lv_aload_n hx hb dX0_dropZeros_23 rfl (lv_at hl 0 rfl) ?_
            refine lv_dup hx hb dX0_dropZeros_24 rfl ?_
            refine z_getF (k := 2) (j := 1) hM hI hk0 rfl rfl hinX0 rfl (by decide) (by decide +kernel) (fun _ h9 => h9) dX0_dropZeros_25 (fun v5 h5 hv5 => ?_)
            obtain rfl := hf.symm.trans h5
            refine lv_iconst (v := 1) hx hb dX0_dropZeros_28 (by decide) ?_
            refine lv_isub hx hb dX0_dropZeros_29 ?_
            rw [nI_pred]
            refine z_putF (k := 2) (j := 1) hM hI hk0 rfl rfl hinX0 tyX0 tyX0_ok nmX0 rfl (by decide) (by decide +kernel) (fun _ h9 => h9) rfl rfl rfl rfl ⟨j, by omega, rfl⟩ dX0_dropZeros_30 (fun f H locs hI hf => ?_)
            refine lv_goto (tgt := 0) hx hb dX0_dropZeros_33 (by decide) ?_
            exact ih _ _ _ j (by omega) (by omega) hf hI _ hl
  obtain ⟨f, hIF⟩ := hI.ex
  obtain ⟨i, hi, hf⟩ := z_fld hIF hk0 rfl (j := 1) (t := (4, 17)) rfl
  exact hL (i + 1) _ _ f i hi (by omega) hf hIF _ hl

set_option maxHeartbeats 4000000 in
set_option maxRecDepth 100000 in
theorem c_X0_reach (l : Launch) (D : va_G) (tc : Nat → ClassId) (z0 : Nat) (L : List Nat) (κ : Nat → Nat) (g : Nat → Nat → Value) (sz : Nat) (p0 : Nat) (hk0 : κ p0 = 2) (p1 : Nat) (hk1 : κ p1 = 2) : Met l yX0_reach wsX0_reach ({ frames := 1, cells := 0, slots := 0, locals := 22 }) (zPc D tc z0 [.ref p0, .ref p1] [] (L, κ, g) sz) (vp_Si (fun r : Int32 => ∃ k : Nat, k ≤ 16 ∧ r = nI k)) 0 0 (fun _ => False) := by
  refine Met.ofW (cc := cX0_reach) (maxL := 2) (ret := (some .int)) (by decide) rfl ?_
  intro p e s m args below meth c s₁ B hml hv
  obtain ⟨rfl, rfl, hK, hE, hI⟩ := hv.opn
  have hx := B.exec
  have hb := B.bytes
  have hr := B.returns
  have hts := atoms_spec (ws := wsX0_reach) B.pre
  have hown : s.vm.findClass RX0 = some m.cls := findClass_of_methodNamed B.named
  have hlocks := B.notSynchronized
  have hM : zM p s m c cX0_reach _ wsX0_reach RX0 D tc := ⟨hx, hb, hts, hown, hK⟩
  have hinX0 : ∀ w ∈ wsX00, w ∈ wsX0_reach := by decide +kernel
  have hl := lv_entry ([.ref p0, .ref p1]) (n := 2) (Nat.le_of_ble_eq_true rfl)
  rw [lg_entry_eq]
  generalize (lg_sl ([.ref p0, .ref p1]) ++ List.replicate (2 - (lg_sl ([.ref p0, .ref p1])).length) Slot.unset).toArray = ls at hl ⊢
  have hl : lv_has ls 2 [(0, .ref p0), (1, .ref p1)] := hl
  refine lv_aload_n hx hb dX0_reach_0 rfl (lv_at hl 0 rfl) ?_
  refine z_get (k := 2) (j := 0) hM hI hk0 rfl rfl hinX0 rfl (by decide) (by decide +kernel) (fun _ h9 => h9) dX0_reach_1 (fun v1 hv2 => ?_)
  obtain ⟨i3, rfl, hr4⟩ := hv2
  refine z_alen (v := 16) hM hI hr4 rfl rfl rfl (by decide) dX0_reach_4 ?_
  refine lv_aload_n hx hb dX0_reach_5 rfl (lv_at hl 0 rfl) ?_
  refine z_get (k := 2) (j := 1) hM hI hk0 rfl rfl hinX0 rfl (by decide) (by decide +kernel) (fun _ h9 => h9) dX0_reach_6 (fun v5 hv6 => ?_)
  obtain ⟨i7, hb8, rfl⟩ := hv6
  refine lv_aload_n hx hb dX0_reach_9 rfl (lv_at hl 1 rfl) ?_
  refine z_get (k := 2) (j := 1) hM hI hk1 rfl rfl hinX0 rfl (by decide) (by decide +kernel) (fun _ h9 => h9) dX0_reach_10 (fun v9 hv10 => ?_)
  obtain ⟨i11, hb12, rfl⟩ := hv10
  refine va_mmax hx hb (hml.trans hl.1.symm) hown (hts (.methodLink RX0 38 Lib.Math.max.name) (by decide +kernel)) (hts (.static Lib.Math.max.name) (by decide +kernel)) (hts (.initialized "java/lang/Math") (by decide +kernel)) (hts (.code Lib.Math.max.name Lib.Math.max.code 2 (some .int)) (by decide +kernel)) (Nat.le_of_ble_eq_true rfl) (Nat.le_of_ble_eq_true rfl) (Nat.le_of_ble_eq_true rfl) (Nat.le_of_ble_eq_true rfl) dX0_reach_13 ?_
  refine lv_topi (fun v13 e14 => ?_)
  obtain ⟨n15, hn16, rfl⟩ : ∃ n9 : Nat, n9 ≤ 16 ∧ v13 = nI n9 := by rw [e14]; split <;> exact ⟨_, by omega, rfl⟩
  refine va_mmin hx hb (hml.trans hl.1.symm) hown (hts (.methodLink RX0 44 Lib.Math.min.name) (by decide +kernel)) (hts (.static Lib.Math.min.name) (by decide +kernel)) (hts (.initialized "java/lang/Math") (by decide +kernel)) (hts (.code Lib.Math.min.name Lib.Math.min.code 2 (some .int)) (by decide +kernel)) (Nat.le_of_ble_eq_true rfl) (Nat.le_of_ble_eq_true rfl) (Nat.le_of_ble_eq_true rfl) (Nat.le_of_ble_eq_true rfl) dX0_reach_16 ?_
  refine lv_topi (fun v17 e18 => ?_)
  obtain ⟨n19, hn20, rfl⟩ : ∃ n9 : Nat, n9 ≤ 16 ∧ v17 = nI n9 := by rw [e18]; split <;> first | exact ⟨_, by omega, rfl⟩ | exact ⟨16, by omega, rfl⟩
  exact W.iret (v := (nI n19)) hx hb hr (fun t ht hW => ⟨_, rfl, ⟨n19, by omega, rfl⟩, ht⟩) (fun q h => by cases h) dX0_reach_19

set_option maxHeartbeats 4000000 in
set_option maxRecDepth 100000 in
theorem c_X0_upTo (l : Launch) (D : va_G) (tc : Nat → ClassId) (z0 : Nat) (L : List Nat) (κ : Nat → Nat) (g : Nat → Nat → Value) (sz : Nat) (p0 : Nat) (hk0 : κ p0 = 2) (p1 : Int32) : Met l yX0_upTo wsX0_upTo ({ frames := 0, cells := 0, slots := 0, locals := 0 }) (zPc D tc z0 [.ref p0, .int p1] [] (L, κ, g) sz) (vp_Si (fun r : Int32 => True)) 0 0 (fun _ => False) := by
  refine Met.ofW (cc := cX0_upTo) (maxL := 2) (ret := (some .int)) (by decide) rfl ?_
  intro p e s m args below meth c s₁ B hml hv
  obtain ⟨rfl, rfl, hK, hE, hI⟩ := hv.opn
  have hx := B.exec
  have hb := B.bytes
  have hr := B.returns
  have hts := atoms_spec (ws := wsX0_upTo) B.pre
  have hown : s.vm.findClass RX0 = some m.cls := findClass_of_methodNamed B.named
  have hlocks := B.notSynchronized
  have hM : zM p s m c cX0_upTo _ wsX0_upTo RX0 D tc := ⟨hx, hb, hts, hown, hK⟩
  have hinX0 : ∀ w ∈ wsX00, w ∈ wsX0_upTo := by decide +kernel
  have hl := lv_entry ([.ref p0, .int p1]) (n := 2) (Nat.le_of_ble_eq_true rfl)
  rw [lg_entry_eq]
  generalize (lg_sl ([.ref p0, .int p1]) ++ List.replicate (2 - (lg_sl ([.ref p0, .int p1])).length) Slot.unset).toArray = ls at hl ⊢
  have hl : lv_has ls 2 [(0, .ref p0), (1, .int p1)] := hl
  refine lv_aload_n hx hb dX0_upTo_0 rfl (lv_at hl 0 rfl) ?_
  refine z_get (k := 2) (j := 1) hM hI hk0 rfl rfl hinX0 rfl (by decide) (by decide +kernel) (fun _ h9 => h9) dX0_upTo_1 (fun v1 hv2 => ?_)
  obtain ⟨i3, hb4, rfl⟩ := hv2
  refine lv_iconst (v := 1) hx hb dX0_upTo_4 (by decide) ?_
  refine lv_icmp_gt (tgt := 20) hx hb dX0_upTo_5 (by decide) (fun c5 => ?_) (fun c5 => ?_)
  · skip
    refine lv_iload_n hx hb dX0_upTo_20 rfl (lv_at hl 1 rfl) ?_
    refine lv_goto (tgt := 31) hx hb dX0_upTo_21 (by decide) ?_
    exact W.iret (v := p1) hx hb hr (fun t ht hW => ⟨_, rfl, trivial, ht⟩) (fun q h => by cases h) dX0_upTo_31
  · skip
    refine lv_aload_n hx hb dX0_upTo_8 rfl (lv_at hl 0 rfl) ?_
    refine z_get (k := 2) (j := 0) hM hI hk0 rfl rfl hinX0 rfl (by decide) (by decide +kernel) (fun _ h9 => h9) dX0_upTo_9 (fun v6 hv7 => ?_)
    obtain ⟨i8, rfl, hr9⟩ := hv7
    refine lv_iconst (v := 0) hx hb dX0_upTo_12 (by decide) ?_
    refine z_lald hM hI hr9 rfl rfl (vp_in_c 0 16 (by decide)) dX0_upTo_13 (fun v10 hv11 => ?_)
    refine lv_iload_n hx hb dX0_upTo_14 rfl (lv_at hl 1 rfl) ?_
    refine lv_i2l hx hb dX0_upTo_15 rfl ?_
    refine lv_topl (fun v12 e13 => ?_)
    refine W.lcmp hx hb dX0_upTo_16 ?_
    refine lv_topi (fun v14 e15 => ?_)
    refine lv_if_le (tgt := 24) hx hb dX0_upTo_17 (by decide) (fun c16 => ?_) (fun c16 => ?_)
    · skip
      refine lv_aload_n hx hb dX0_upTo_24 rfl (lv_at hl 0 rfl) ?_
      refine z_get (k := 2) (j := 0) hM hI hk0 rfl rfl hinX0 rfl (by decide) (by decide +kernel) (fun _ h9 => h9) dX0_upTo_25 (fun v17 hv18 => ?_)
      obtain ⟨i19, rfl, hr20⟩ := hv18
      refine lv_iconst (v := 0) hx hb dX0_upTo_28 (by decide) ?_
      refine z_lald hM hI hr20 rfl rfl (vp_in_c 0 16 (by decide)) dX0_upTo_29 (fun v21 hv22 => ?_)
      refine lv_l2i hx hb dX0_upTo_30 rfl ?_
      refine lv_topi (fun v23 e24 => ?_)
      exact W.iret (v := v23) hx hb hr (fun t ht hW => ⟨_, rfl, trivial, ht⟩) (fun q h => by cases h) dX0_upTo_31
    · skip
      refine lv_iload_n hx hb dX0_upTo_20 rfl (lv_at hl 1 rfl) ?_
      refine lv_goto (tgt := 31) hx hb dX0_upTo_21 (by decide) ?_
      exact W.iret (v := p1) hx hb hr (fun t ht hW => ⟨_, rfl, trivial, ht⟩) (fun q h => by cases h) dX0_upTo_31

set_option maxHeartbeats 4000000 in
set_option maxRecDepth 100000 in
theorem c_X0_lowBits (l : Launch) (D : va_G) (tc : Nat → ClassId) (z0 : Nat) (L : List Nat) (κ : Nat → Nat) (g : Nat → Nat → Value) (sz : Nat) (p0 : Nat) (hk0 : κ p0 = 2) : Met l yX0_lowBits wsX0_lowBits ({ frames := 0, cells := 0, slots := 0, locals := 0 }) (zPc D tc z0 [.ref p0] [] (L, κ, g) sz) (vp_Sl (fun r : Int64 => True)) 0 0 (fun _ => False) := by
  refine Met.ofW (cc := cX0_lowBits) (maxL := 1) (ret := (some .long)) (by decide) rfl ?_
  intro p e s m args below meth c s₁ B hml hv
  obtain ⟨rfl, rfl, hK, hE, hI⟩ := hv.opn
  have hx := B.exec
  have hb := B.bytes
  have hr := B.returns
  have hts := atoms_spec (ws := wsX0_lowBits) B.pre
  have hown : s.vm.findClass RX0 = some m.cls := findClass_of_methodNamed B.named
  have hlocks := B.notSynchronized
  have hM : zM p s m c cX0_lowBits _ wsX0_lowBits RX0 D tc := ⟨hx, hb, hts, hown, hK⟩
  have hinX0 : ∀ w ∈ wsX00, w ∈ wsX0_lowBits := by decide +kernel
  have hl := lv_entry ([.ref p0]) (n := 1) (Nat.le_of_ble_eq_true rfl)
  rw [lg_entry_eq]
  generalize (lg_sl ([.ref p0]) ++ List.replicate (1 - (lg_sl ([.ref p0])).length) Slot.unset).toArray = ls at hl ⊢
  have hl : lv_has ls 1 [(0, .ref p0)] := hl
  refine lv_aload_n hx hb dX0_lowBits_0 rfl (lv_at hl 0 rfl) ?_
  refine z_get (k := 2) (j := 0) hM hI hk0 rfl rfl hinX0 rfl (by decide) (by decide +kernel) (fun _ h9 => h9) dX0_lowBits_1 (fun v1 hv2 => ?_)
  obtain ⟨i3, rfl, hr4⟩ := hv2
  refine lv_iconst (v := 0) hx hb dX0_lowBits_4 (by decide) ?_
  refine z_lald hM hI hr4 rfl rfl (vp_in_c 0 16 (by decide)) dX0_lowBits_5 (fun v5 hv6 => ?_)
  refine lv_aload_n hx hb dX0_lowBits_6 rfl (lv_at hl 0 rfl) ?_
  refine z_get (k := 2) (j := 0) hM hI hk0 rfl rfl hinX0 rfl (by decide) (by decide +kernel) (fun _ h9 => h9) dX0_lowBits_7 (fun v7 hv8 => ?_)
  obtain ⟨i9, rfl, hr10⟩ := hv8
  refine lv_iconst (v := 1) hx hb dX0_lowBits_10 (by decide) ?_
  refine z_lald hM hI hr10 rfl rfl (vp_in_c 1 16 (by decide)) dX0_lowBits_11 (fun v11 hv12 => ?_)
  refine lv_bipush (v := 32) hx hb dX0_lowBits_12 (by decide) ?_
  refine lv_lshl hx hb dX0_lowBits_14 rfl ?_
  refine lv_topl (fun v13 e14 => ?_)
  refine lv_ladd hx hb dX0_lowBits_15 ?_
  refine lv_topl (fun v15 e16 => ?_)
  exact W.lret (v := v15) hx hb hr (fun t ht hW => ⟨_, rfl, trivial, ht⟩) (fun q h => by cases h) dX0_lowBits_16

set_option maxHeartbeats 4000000 in
set_option maxRecDepth 100000 in
theorem c_X0_isLess (l : Launch) (D : va_G) (tc : Nat → ClassId) (z0 : Nat) (L : List Nat) (κ : Nat → Nat) (g : Nat → Nat → Value) (sz : Nat) (p0 : Nat) (hk0 : κ p0 = 2) (p1 : Nat) (hk1 : κ p1 = 2) : Met l yX0_isLess wsX0_isLess ({ frames := 2, cells := 0, slots := 0, locals := 43 }) (zPc D tc z0 [.ref p0, .ref p1] [] (L, κ, g) sz) (vp_Si (fun r : Int32 => r = 0 ∨ r = 1)) 0 0 (fun _ => False) := by
  refine Met.ofW (cc := cX0_isLess) (maxL := 3) (ret := (some .boolean)) (by decide) rfl ?_
  intro p e s m args below meth c s₁ B hml hv
  obtain ⟨rfl, rfl, hK, hE, hI⟩ := hv.opn
  have hx := B.exec
  have hb := B.bytes
  have hr := B.returns
  have hts := atoms_spec (ws := wsX0_isLess) B.pre
  have hown : s.vm.findClass RX0 = some m.cls := findClass_of_methodNamed B.named
  have hlocks := B.notSynchronized
  have hM : zM p s m c cX0_isLess _ wsX0_isLess RX0 D tc := ⟨hx, hb, hts, hown, hK⟩
  have hinX0 : ∀ w ∈ wsX00, w ∈ wsX0_isLess := by decide +kernel
  have hl := lv_entry ([.ref p0, .ref p1]) (n := 3) (Nat.le_of_ble_eq_true rfl)
  rw [lg_entry_eq]
  generalize (lg_sl ([.ref p0, .ref p1]) ++ List.replicate (3 - (lg_sl ([.ref p0, .ref p1])).length) Slot.unset).toArray = ls at hl ⊢
  have hl : lv_has ls 3 [(0, .ref p0), (1, .ref p1)] := hl
  refine lv_aload_n hx hb dX0_isLess_0 rfl (lv_at hl 0 rfl) ?_
  refine lv_aload_n hx hb dX0_isLess_1 rfl (lv_at hl 1 rfl) ?_
  refine vp_callSi (W.runV (As := [.ref p1]) (rest := []) ⟨hx, hb, hml, hown, hts⟩ (c_X0_reach l _ _ _ _ _ _ _ p0 hk0 p1 hk1) (cwV 1 hts gX0_isLess_X0_reach rfl rfl rfl (by decide +kernel) ⟨Nat.le_of_ble_eq_true rfl, Nat.le_of_ble_eq_true rfl⟩) (z_preV hK hE hI [] rfl rfl (z_recv hK hI hk0 rfl rfl)) rfl rfl hl.1 rfl (lv_room (Nat.le_of_ble_eq_true rfl)) dX0_isLess_2 ⟨Nat.le_of_ble_eq_true rfl, Nat.le_of_ble_eq_true rfl⟩) (fun v1 hw2 => ?_)
  obtain ⟨n3, hn4, rfl⟩ := hw2
  refine lv_iconst (v := 1) hx hb dX0_isLess_5 (by decide) ?_
  refine lv_isub hx hb dX0_isLess_6 ?_
  refine lv_topi (fun v5 e6 => ?_)
  obtain rfl : v5 = (nI n3 - 1) := by rw [e6]; rfl
  refine lv_istore_n (lv' := [(2, .int ((nI n3 - 1))), (0, .ref p0), (1, .ref p1)]) hx hb dX0_isLess_7 rfl hl (by decide) rfl (fun ls hl => ?_)
  have hL8 : ∀ (n : Nat)   (i7 : Nat) (hi : i7 ≤ 16) (hn : i7 < n)   (ls : Array Slot) (hl : lv_has ls 3 [(0, .ref p0), (1, .ref p1), (2, .int ((nI i7 - 1)))]), W p l e (headSpec wsX0_isLess ({ frames := 2, cells := 0, slots := 0, locals := 43 })).room s m ([.ref p0, .ref p1] : List Value).toArray below meth c s.heap [] 0 0 (MQ below (vp_Si (fun r : Int32 => r = 0 ∨ r = 1)) ([.ref p0, .ref p1] : List Value).toArray s 0 0 (fun _ => False)) (F0 m 8 ls []) := by
    intro n
    induction n with
    | zero => intro i7 hi hn ls hl; exact absurd hn (Nat.not_lt_zero _)
    | succ n ih =>
      intro i7 hi hn ls hl
      refine lv_iload_n hx hb dX0_isLess_8 rfl (lv_at hl 2 rfl) ?_
      refine lv_if_lt (tgt := 56) hx hb dX0_isLess_9 (by decide) (fun c8 => ?_) (fun c8 => ?_)
      · skip
        refine lv_iconst (v := 0) hx hb dX0_isLess_56 (by decide) ?_
        exact W.zret (v := 0) hx hb hr (by decide) (fun t ht hW => ⟨_, rfl, (Or.inl rfl), ht⟩) (fun q h => by cases h) dX0_isLess_57
      · skip
        rcases i7 with _ | j9
        · exact absurd (by decide) c8
        rw [nI_pred] at hl
        refine lv_aload_n hx hb dX0_isLess_12 rfl (lv_at hl 0 rfl) ?_
        refine z_get (k := 2) (j := 0) hM hI hk0 rfl rfl hinX0 rfl (by decide) (by decide +kernel) (fun _ h9 => h9) dX0_isLess_13 (fun v10 hv11 => ?_)
        obtain ⟨i12, rfl, hr13⟩ := hv11
        refine lv_iload_n hx hb dX0_isLess_16 rfl (lv_at hl 2 rfl) ?_
        refine z_lald hM hI hr13 rfl rfl (vp_in_nI (by omega) (by omega)) dX0_isLess_17 (fun v14 hv15 => ?_)
        refine lv_aload_n hx hb dX0_isLess_18 rfl (lv_at hl 1 rfl) ?_
        refine z_get (k := 2) (j := 0) hM hI hk1 rfl rfl hinX0 rfl (by decide) (by decide +kernel) (fun _ h9 => h9) dX0_isLess_19 (fun v16 hv17 => ?_)
        obtain ⟨i18, rfl, hr19⟩ := hv17
        refine lv_iload_n hx hb dX0_isLess_22 rfl (lv_at hl 2 rfl) ?_
        refine z_lald hM hI hr19 rfl rfl (vp_in_nI (by omega) (by omega)) dX0_isLess_23 (fun v20 hv21 => ?_)
        refine W.lcmp hx hb dX0_isLess_24 ?_
        refine lv_topi (fun v22 e23 => ?_)
        refine lv_if_eq (tgt := 50) hx hb dX0_isLess_25 (by decide) (fun c24 => ?_) (fun c24 => ?_)
        · skip
          refine lv_iinc (v := nI j9 - 1) (lv' := [(2, .int ((nI j9 - 1))), (0, .ref p0), (1, .ref p1)]) hx hb dX0_isLess_50 hl (k := 2) rfl (z_dec j9) (by decide) rfl (fun ls hl => ?_)
          refine lv_goto (tgt := 8) hx hb dX0_isLess_53 (by decide) ?_
          exact ih j9 (by first | omega | (simp only [] at *; omega)) (by first | omega | (simp only [] at *; omega)) ls (lv_sub hl [1, 2, 0] rfl)
        · skip
          refine lv_aload_n hx hb dX0_isLess_28 rfl (lv_at hl 0 rfl) ?_
          refine z_get (k := 2) (j := 0) hM hI hk0 rfl rfl hinX0 rfl (by decide) (by decide +kernel) (fun _ h9 => h9) dX0_isLess_29 (fun v25 hv26 => ?_)
          obtain ⟨i27, rfl, hr28⟩ := hv26
          refine lv_iload_n hx hb dX0_isLess_32 rfl (lv_at hl 2 rfl) ?_
          refine z_lald hM hI hr28 rfl rfl (vp_in_nI (by omega) (by omega)) dX0_isLess_33 (fun v29 hv30 => ?_)
          refine lv_aload_n hx hb dX0_isLess_34 rfl (lv_at hl 1 rfl) ?_
          refine z_get (k := 2) (j := 0) hM hI hk1 rfl rfl hinX0 rfl (by decide) (by decide +kernel) (fun _ h9 => h9) dX0_isLess_35 (fun v31 hv32 => ?_)
          obtain ⟨i33, rfl, hr34⟩ := hv32
          refine lv_iload_n hx hb dX0_isLess_38 rfl (lv_at hl 2 rfl) ?_
          refine z_lald hM hI hr34 rfl rfl (vp_in_nI (by omega) (by omega)) dX0_isLess_39 (fun v35 hv36 => ?_)
          refine W.lcmp hx hb dX0_isLess_40 ?_
          refine lv_topi (fun v37 e38 => ?_)
          refine lv_if_ge (tgt := 48) hx hb dX0_isLess_41 (by decide) (fun c39 => ?_) (fun c39 => ?_)
          · skip
            refine lv_iconst (v := 0) hx hb dX0_isLess_48 (by decide) ?_
            exact W.zret (v := 0) hx hb hr (by decide) (fun t ht hW => ⟨_, rfl, (Or.inl rfl), ht⟩) (fun q h => by cases h) dX0_isLess_49
          · skip
            refine lv_iconst (v := 1) hx hb dX0_isLess_44 (by decide) ?_
            refine lv_goto (tgt := 49) hx hb dX0_isLess_45 (by decide) ?_
            exact W.zret (v := 1) hx hb hr (by decide) (fun t ht hW => ⟨_, rfl, (Or.inr rfl), ht⟩) (fun q h => by cases h) dX0_isLess_49
  exact hL8 (n3 + 1) n3 (by first | omega | (simp only [] at *; omega)) (by first | omega | (simp only [] at *; omega)) ls (lv_sub hl [1, 2, 0] rfl)
