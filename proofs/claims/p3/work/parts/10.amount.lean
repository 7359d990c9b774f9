set_option maxHeartbeats 4000000 in
set_option maxRecDepth 100000 in
theorem c_X0_dropZeros (l : Launch) (D : va_G) (tc : Nat → ClassId) (z0 : Nat) (L : List Nat) (κ : Nat → Nat) (g : Nat → Nat → Value) (sz : Nat) (p0 : Nat) (hk0 : κ p0 = 2) : Met l yX0_dropZeros wsX0_dropZeros ({ frames := 0, cells := 0, slots := 0, locals := 0 }) (zPc D tc z0 [.ref p0] [] (L, κ, g) sz) (va_Qv (fun (u : zS) => u = (L, κ, g)) (fun (u : zS) (t : State) => zB D tc (zA [] L sz) [] u t) (zA [] L sz)) 0 0 (zA [] L sz) := by
  refine Met.ofW (cc := cX0_dropZeros) (maxL := 1) (ret := none) (by decide) rfl ?_
  intro p e s m args below meth c s₁ B hml hv
  obtain ⟨rfl, rfl, hK, hE, hI⟩ := hv.opn
  have hx := B.exec
  have hb := B.bytes
  have hr := B.returns
  have hts := atoms_spec (ws := wsX0_dropZeros) B.pre
  have hown : s.vm.findClass RX0 = some m.cls := findClass_of_methodNamed B.named
  have hlocks := B.notSynchronized
  have hM : zM p s m c cX0_dropZeros _ wsX0_dropZeros RX0 D tc := ⟨hx, hb, hts, hown, hK⟩
  have hinX0 : ∀ w ∈ wsX00, w ∈ wsX0_dropZeros := by decide +kernel
  have hl := lv_entry ([.ref p0]) (n := 1) (Nat.le_of_ble_eq_true rfl)
  rw [lg_entry_eq]
  generalize (lg_sl ([.ref p0]) ++ List.replicate (1 - (lg_sl ([.ref p0])).length) Slot.unset).toArray = ls at hl ⊢
  have hl : lv_has ls 1 [(0, .ref p0)] := hl
  have hL : ∀ (n : Nat) (H : Heap) (locs : List Loc) (f : Nat → va_E) (i : Nat) (hi : i < 17) (hn : i < n) (hf : zF f p0 1 = .int (nI i)) (hI : zIF D tc (zA [] L s.heap.size) s.heap [] L κ g f H locs) (ls : Array Slot) (hl : lv_has ls 1 [(0, .ref p0)]), W p l e (headSpec wsX0_dropZeros ({ frames := 0, cells := 0, slots := 0, locals := 0 })).room s m (([.ref p0] : List Value).toArray) below meth c H locs 0 0 (MQ below (va_Qv (fun (u : zS) => u = (L, κ, g)) (fun (u : zS) (t : State) => zB D tc (zA [] L s.heap.size) [] u t) (zA [] L s.heap.size)) (([.ref p0] : List Value).toArray) s 0 0 (zA [] L s.heap.size)) (F0 m 0 ls []) := by
    intro n
    induction n with
    | zero => intro H locs f i hi hn; exact absurd hn (Nat.not_lt_zero _)
    | succ n ih =>
      intro H locs f i hi hn hf hI ls hl
      refine lv_aload_n hx hb dX0_dropZeros_0 rfl (lv_at hl 0 rfl) ?_
      refine z_getF (k := 2) (j := 1) hM hI hk0 rfl rfl hinX0 rfl (by decide) (by decide +kernel) (fun _ h9 => h9) dX0_dropZeros_1 (fun v1 h1 hv1 => ?_)
      obtain rfl := hf.symm.trans h1
      refine lv_if_le (tgt := 36) hx hb dX0_dropZeros_4 (by decide) (fun c1 => ?_) (fun c1 => ?_)
      · have hI := hI.to
        exact W.vret hx hb hr (fun t ht hW => ⟨⟨(L, κ, g), rfl, rfl, z_end hK hI ht hW⟩, z_F hI ht⟩) (z_locs hI) dX0_dropZeros_36
      · rcases i with _ | j
        · exact absurd (by decide) c1
        · refine lv_aload_n hx hb dX0_dropZeros_7 rfl (lv_at hl 0 rfl) ?_
          refine z_getF (k := 2) (j := 0) hM hI hk0 rfl rfl hinX0 rfl (by decide) (by decide +kernel) (fun _ h9 => h9) dX0_dropZeros_8 (fun v2 h2 hv2 => ?_)
          obtain ⟨r2, rfl, hr2⟩ := hv2
          refine lv_aload_n hx hb dX0_dropZeros_11 rfl (lv_at hl 0 rfl) ?_
          refine z_getF (k := 2) (j := 1) hM hI hk0 rfl rfl hinX0 rfl (by decide) (by decide +kernel) (fun _ h9 => h9) dX0_dropZeros_12 (fun v3 h3 hv3 => ?_)
          obtain rfl := hf.symm.trans h3
          refine lv_iconst (v := 1) hx hb dX0_dropZeros_15 (by decide) ?_
          refine lv_isub hx hb dX0_dropZeros_16 ?_
          rw [nI_pred]
          refine z_lald hM hI.to hr2 rfl rfl (vp_in_nI (by omega) (by omega)) dX0_dropZeros_17 (fun v4 hv4 => ?_)
          refine lv_lconst (v := 0) hx hb dX0_dropZeros_18 (by decide) ?_
          refine W.lcmp hx hb dX0_dropZeros_19 ?_
          refine lv_if_ne (tgt := 36) hx hb dX0_dropZeros_20 (by decide) (fun c2 => ?_) (fun c2 => ?_)
          · have hI := hI.to
            exact W.vret hx hb hr (fun t ht hW => ⟨⟨(L, κ, g), rfl, rfl, z_end hK hI ht hW⟩, z_F hI ht⟩) (z_locs hI) dX0_dropZeros_36
          · refine lv_aload_n hx hb dX0_dropZeros_23 rfl (lv_at hl 0 rfl) ?_
            refine lv_dup hx hb dX0_dropZeros_24 rfl ?_
            refine z_getF (k := 2) (j := 1) hM hI hk0 rfl rfl hinX0 rfl (by decide) (by decide +kernel) (fun _ h9 => h9) dX0_dropZeros_25 (fun v5 h5 hv5 => ?_)
            obtain rfl := hf.symm.trans h5
            refine lv_iconst (v := 1) hx hb dX0_dropZeros_28 (by decide) ?_
            refine lv_isub hx hb dX0_dropZeros_29 ?_
            rw [nI_pred]
            refine z_putF (k := 2) (j := 1) hM hI hk0 rfl rfl hinX0 tyX0 tyX0_ok nmX0 rfl (by decide) (by decide +kernel) (fun _ h9 => h9) rfl rfl rfl rfl ⟨j, by omega, rfl⟩ dX0_dropZeros_30 (fun f H locs hI hf => ?_)
            refine lv_goto (tgt := 0) hx hb dX0_dropZeros_33 (by decide) ?_
            exact ih _ _ _ j (by omega) (by omega) hf hI _ hl
  obtain ⟨f, hIF⟩ := hI.ex
  obtain ⟨i, hi, hf⟩ := z_fld hIF hk0 rfl (j := 1) (t := (4, 17)) rfl
  exact hL (i + 1) _ _ f i hi (by omega) hf hIF _ hl
set_option maxHeartbeats 4000000 in
set_option maxRecDepth 100000 in
theorem c_X0_putOnTop (l : Launch) (D : va_G) (tc : Nat → ClassId) (z0 : Nat) (L : List Nat) (κ : Nat → Nat) (g : Nat → Nat → Value) (sz : Nat) (p0 : Nat) (hk0 : κ p0 = 2) (p1 : Int64) : Met l yX0_putOnTop wsX0_putOnTop ({ frames := 1, cells := 0, slots := 0, locals := 20 }) (zPc D tc z0 [.ref p0, .long p1] [] (L, κ, g) sz) (va_Qv (fun (u : zS) => u = (L, κ, g)) (fun (u : zS) (t : State) => zB D tc (zA [] L sz) [] u t) (zA [] L sz)) 0 0 (zA [] L sz) := by
  refine Met.ofW (cc := cX0_putOnTop) (maxL := 3) (ret := none) (by decide) rfl ?_
  intro p e s m args below meth c s₁ B hml hv
  obtain ⟨rfl, rfl, hK, hE, hI⟩ := hv.opn
  have hx := B.exec
  have hb := B.bytes
  have hr := B.returns
  have hts := atoms_spec (ws := wsX0_putOnTop) B.pre
  have hown : s.vm.findClass RX0 = some m.cls := findClass_of_methodNamed B.named
  have hlocks := B.notSynchronized
  have hM : zM p s m c cX0_putOnTop _ wsX0_putOnTop RX0 D tc := ⟨hx, hb, hts, hown, hK⟩
  have hinX0 : ∀ w ∈ wsX00, w ∈ wsX0_putOnTop := by decide +kernel
  have hl := lv_entry ([.ref p0, .long p1]) (n := 3) (Nat.le_of_ble_eq_true rfl)
  rw [lg_entry_eq]
  generalize (lg_sl ([.ref p0, .long p1]) ++ List.replicate (3 - (lg_sl ([.ref p0, .long p1])).length) Slot.unset).toArray = ls at hl ⊢
  have hl : lv_has ls 3 [(0, .ref p0), (1, .long p1)] := hl
  have hL38 : ∀ (H : Heap) (locs : List Loc) (hI : zI D tc (zA [] L s.heap.size) s.heap [] L κ g H locs), W p l e (headSpec wsX0_putOnTop ({ frames := 1, cells := 0, slots := 0, locals := 20 })).room s m (([.ref p0, .long p1] : List Value).toArray) below meth c H locs 0 0 (MQ below (va_Qv (fun (u : zS) => u = (L, κ, g)) (fun (u : zS) (t : State) => zB D tc (zA [] L s.heap.size) [] u t) (zA [] L s.heap.size)) (([.ref p0, .long p1] : List Value).toArray) s 0 0 (zA [] L s.heap.size)) (F0 m 38 ls []) := by
    intro H locs hI
    refine lv_aload_n hx hb dX0_putOnTop_38 rfl (lv_at hl 0 rfl) ?_
    refine z_cv hI (va_runV (As := []) (rest := []) ⟨hx, hb, hml, hown, hts⟩ (c_X0_dropZeros l _ _ _ _ _ _ _ p0 hk0) (cwV 0 hts gX0_putOnTop_X0_dropZeros rfl rfl rfl (by decide +kernel) ⟨Nat.le_of_ble_eq_true rfl, Nat.le_of_ble_eq_true rfl⟩) (z_preV hK hE hI [] rfl rfl (z_recv hK hI hk0 rfl rfl)) rfl rfl hl.1 rfl (lv_room (Nat.le_of_ble_eq_true rfl)) dX0_putOnTop_39 ⟨Nat.le_of_ble_eq_true rfl, Nat.le_of_ble_eq_true rfl⟩) (fun u H locs hw hI => ?_)
    obtain rfl := hw
    exact W.vret hx hb hr (fun t ht hW => ⟨⟨(L, κ, g), rfl, rfl, z_end hK hI ht hW⟩, z_F hI ht⟩) (z_locs hI) dX0_putOnTop_42
  refine lv_lload_n hx hb dX0_putOnTop_0 rfl (lv_at hl 1 rfl) ?_
  refine lv_lconst (v := 0) hx hb dX0_putOnTop_1 (by decide) ?_
  refine W.lcmp hx hb dX0_putOnTop_2 ?_
  refine lv_topi (fun v1 e1 => ?_)
  refine lv_if_le (tgt := 38) hx hb dX0_putOnTop_3 (by decide) (fun c1 => ?_) (fun c1 => ?_)
  · exact hL38 _ _ hI
  · obtain ⟨f, hIF⟩ := hI.ex
    refine lv_aload_n hx hb dX0_putOnTop_6 rfl (lv_at hl 0 rfl) ?_
    refine z_getF (k := 2) (j := 1) hM hIF hk0 rfl rfl hinX0 rfl (by decide) (by decide +kernel) (fun _ h9 => h9) dX0_putOnTop_7 (fun v2 h2 hv2 => ?_)
    obtain ⟨i, hi, rfl⟩ := hv2
    refine lv_aload_n hx hb dX0_putOnTop_10 rfl (lv_at hl 0 rfl) ?_
    refine z_getF (k := 2) (j := 0) hM hIF hk0 rfl rfl hinX0 rfl (by decide) (by decide +kernel) (fun _ h9 => h9) dX0_putOnTop_11 (fun v3 h3 hv3 => ?_)
    obtain ⟨r, rfl, hr3⟩ := hv3
    refine z_alen (v := 16) hM hI hr3 rfl rfl rfl (by decide) dX0_putOnTop_14 ?_
    refine lv_icmp_ge (tgt := 38) hx hb dX0_putOnTop_15 (by decide) (fun c2 => ?_) (fun c2 => ?_)
    · exact hL38 _ _ hI
    · have hi2 : i < 16 := z_lt (b := 16) (by omega) c2
      refine lv_aload_n hx hb dX0_putOnTop_18 rfl (lv_at hl 0 rfl) ?_
      refine z_getF (k := 2) (j := 0) hM hIF hk0 rfl rfl hinX0 rfl (by decide) (by decide +kernel) (fun _ h9 => h9) dX0_putOnTop_19 (fun v4 h4 hv4 => ?_)
      obtain rfl := h3.symm.trans h4
      refine lv_aload_n hx hb dX0_putOnTop_22 rfl (lv_at hl 0 rfl) ?_
      refine z_getF (k := 2) (j := 1) hM hIF hk0 rfl rfl hinX0 rfl (by decide) (by decide +kernel) (fun _ h9 => h9) dX0_putOnTop_23 (fun v5 h5 hv5 => ?_)
      obtain rfl := h2.symm.trans h5
      refine lv_lload_n hx hb dX0_putOnTop_26 rfl (lv_at hl 1 rfl) ?_
      refine z_lastF hM hIF hr3 rfl rfl (vp_in_nI hi2 (by omega)) dX0_putOnTop_27 (fun f1 H locs hIF1 hf1 => ?_)
      have h6 : zF f1 p0 1 = .int (nI i) := (hf1 p0 1 (fun h => by rw [h, hr3] at hk0; cases hk0)).trans h2
      refine lv_aload_n hx hb dX0_putOnTop_28 rfl (lv_at hl 0 rfl) ?_
      refine lv_dup hx hb dX0_putOnTop_29 rfl ?_
      refine z_getF (k := 2) (j := 1) hM hIF1 hk0 rfl rfl hinX0 rfl (by decide) (by decide +kernel) (fun _ h9 => h9) dX0_putOnTop_30 (fun v7 h7 hv7 => ?_)
      obtain rfl := h6.symm.trans h7
      refine lv_iconst (v := 1) hx hb dX0_putOnTop_33 (by decide) ?_
      refine lv_iadd hx hb dX0_putOnTop_34 ?_
      rw [nI_1]
      refine z_put (g' := g) (k := 2) (j := 1) hM hIF1.to hk0 rfl rfl hinX0 tyX0 tyX0_ok nmX0 rfl (by decide) (by decide +kernel) (fun _ h9 => h9) rfl rfl rfl rfl ⟨i + 1, by omega, rfl⟩ (fun _ _ _ => rfl) dX0_putOnTop_35 (fun H locs hI => ?_)
      exact hL38 _ _ hI

set_option maxHeartbeats 4000000 in
set_option maxRecDepth 100000 in
theorem c_X0_reach (l : Launch) (D : va_G) (tc : Nat → ClassId) (z0 : Nat) (L : List Nat) (κ : Nat → Nat) (g : Nat → Nat → Value) (sz : Nat) (p0 : Nat) (hk0 : κ p0 = 2) (p1 : Nat) (hk1 : κ p1 = 2) : Met l yX0_reach wsX0_reach ({ frames := 1, cells := 0, slots := 0, locals := 22 }) (zPc D tc z0 [.ref p0, .ref p1] [] (L, κ, g) sz) (vp_Si (fun r : Int32 => ∃ k : Nat, k ≤ 16 ∧ r = nI k)) 0 0 (fun _ => False) := by
  refine Met.ofW (cc := cX0_reach) (maxL := 2) (ret := (some .int)) (by decide) rfl ?_
  intro p e s m args below meth c s₁ B hml hv
  obtain ⟨rfl, rfl, hK, hE, hI⟩ := hv.opn
  have hx := B.exec
  have hb := B.bytes
  have hr := B.returns
  have hts := atoms_spec (ws := wsX0_reach) B.pre
  have hown : s.vm.findClass RX0 = some m.cls := findClass_of_methodNamed B.named
  have hlocks := B.notSynchronized
  have hM : zM p s m c cX0_reach _ wsX0_reach RX0 D tc := ⟨hx, hb, hts, hown, hK⟩
  have hinX0 : ∀ w ∈ wsX00, w ∈ wsX0_reach := by decide +kernel
  have hl := lv_entry ([.ref p0, .ref p1]) (n := 2) (Nat.le_of_ble_eq_true rfl)
  rw [lg_entry_eq]
  generalize (lg_sl ([.ref p0, .ref p1]) ++ List.replicate (2 - (lg_sl ([.ref p0, .ref p1])).length) Slot.unset).toArray = ls at hl ⊢
  have hl : lv_has ls 2 [(0, .ref p0), (1, .ref p1)] := hl
  refine lv_aload_n hx hb dX0_reach_0 rfl (lv_at hl 0 rfl) ?_
  refine z_get (k := 2) (j := 0) hM hI hk0 rfl rfl hinX0 rfl (by decide) (by decide +kernel) (fun _ h9 => h9) dX0_reach_1 (fun v1 hv2 => ?_)
  obtain ⟨i3, rfl, hr4⟩ := hv2
  refine z_alen (v := 16) hM hI hr4 rfl rfl rfl (by decide) dX0_reach_4 ?_
  refine lv_aload_n hx hb dX0_reach_5 rfl (lv_at hl 0 rfl) ?_
  refine z_get (k := 2) (j := 1) hM hI hk0 rfl rfl hinX0 rfl (by decide) (by decide +kernel) (fun _ h9 => h9) dX0_reach_6 (fun v5 hv6 => ?_)
  obtain ⟨i7, hb8, rfl⟩ := hv6
  refine lv_aload_n hx hb dX0_reach_9 rfl (lv_at hl 1 rfl) ?_
  refine z_get (k := 2) (j := 1) hM hI hk1 rfl rfl hinX0 rfl (by decide) (by decide +kernel) (fun _ h9 => h9) dX0_reach_10 (fun v9 hv10 => ?_)
  obtain ⟨i11, hb12, rfl⟩ := hv10
  refine va_mmax hx hb (hml.trans hl.1.symm) hown (hts (.methodLink RX0 38 Lib.Math.max.name) (by decide +kernel)) (hts (.static Lib.Math.max.name) (by decide +kernel)) (hts (.initialized "java/lang/Math") (by decide +kernel)) (hts (.code Lib.Math.max.name Lib.Math.max.code 2 (some .int)) (by decide +kernel)) (Nat.le_of_ble_eq_true rfl) (Nat.le_of_ble_eq_true rfl) (Nat.le_of_ble_eq_true rfl) (Nat.le_of_ble_eq_true rfl) dX0_reach_13 ?_
  refine lv_topi (fun v13 e14 => ?_)
  obtain ⟨n15, hn16, rfl⟩ : ∃ n9 : Nat, n9 ≤ 16 ∧ v13 = nI n9 := by rw [e14]; split <;> first | exact ⟨_, by omega, rfl⟩ | exact ⟨16, by omega, rfl⟩
  refine va_mmin hx hb (hml.trans hl.1.symm) hown (hts (.methodLink RX0 44 Lib.Math.min.name) (by decide +kernel)) (hts (.static Lib.Math.min.name) (by decide +kernel)) (hts (.initialized "java/lang/Math") (by decide +kernel)) (hts (.code Lib.Math.min.name Lib.Math.min.code 2 (some .int)) (by decide +kernel)) (Nat.le_of_ble_eq_true rfl) (Nat.le_of_ble_eq_true rfl) (Nat.le_of_ble_eq_true rfl) (Nat.le_of_ble_eq_true rfl) dX0_reach_16 ?_
  refine lv_topi (fun v17 e18 => ?_)
  obtain ⟨n19, hn20, rfl⟩ : ∃ n9 : Nat, n9 ≤ 16 ∧ v17 = nI n9 := by rw [e18]; split <;> first | exact ⟨_, by omega, rfl⟩ | exact ⟨16, by omega, rfl⟩
  exact W.iret (v := (nI n19)) hx hb hr (fun t ht hW => ⟨_, rfl, ⟨n19, by omega, rfl⟩, ht⟩) (fun q h => by cases h) dX0_reach_19

set_option maxHeartbeats 4000000 in
set_option maxRecDepth 100000 in
theorem c_X0_upTo (l : Launch) (D : va_G) (tc : Nat → ClassId) (z0 : Nat) (L : List Nat) (κ : Nat → Nat) (g : Nat → Nat → Value) (sz : Nat) (p0 : Nat) (hk0 : κ p0 = 2) (p1 : Int32) : Met l yX0_upTo wsX0_upTo ({ frames := 0, cells := 0, slots := 0, locals := 0 }) (zPc D tc z0 [.ref p0, .int p1] [] (L, κ, g) sz) (vp_Si (fun r : Int32 => True)) 0 0 (fun _ => False) := by
  refine Met.ofW (cc := cX0_upTo) (maxL := 2) (ret := (some .int)) (by decide) rfl ?_
  intro p e s m args below meth c s₁ B hml hv
  obtain ⟨rfl, rfl, hK, hE, hI⟩ := hv.opn
  have hx := B.exec
  have hb := B.bytes
  have hr := B.returns
  have hts := atoms_spec (ws := wsX0_upTo) B.pre
  have hown : s.vm.findClass RX0 = some m.cls := findClass_of_methodNamed B.named
  have hlocks := B.notSynchronized
  have hM : zM p s m c cX0_upTo _ wsX0_upTo RX0 D tc := ⟨hx, hb, hts, hown, hK⟩
  have hinX0 : ∀ w ∈ wsX00, w ∈ wsX0_upTo := by decide +kernel
  have hl := lv_entry ([.ref p0, .int p1]) (n := 2) (Nat.le_of_ble_eq_true rfl)
  rw [lg_entry_eq]
  generalize (lg_sl ([.ref p0, .int p1]) ++ List.replicate (2 - (lg_sl ([.ref p0, .int p1])).length) Slot.unset).toArray = ls at hl ⊢
  have hl : lv_has ls 2 [(0, .ref p0), (1, .int p1)] := hl
  refine lv_aload_n hx hb dX0_upTo_0 rfl (lv_at hl 0 rfl) ?_
  refine z_get (k := 2) (j := 1) hM hI hk0 rfl rfl hinX0 rfl (by decide) (by decide +kernel) (fun _ h9 => h9) dX0_upTo_1 (fun v1 hv2 => ?_)
  obtain ⟨i3, hb4, rfl⟩ := hv2
  refine lv_iconst (v := 1) hx hb dX0_upTo_4 (by decide) ?_
  refine lv_icmp_gt (tgt := 20) hx hb dX0_upTo_5 (by decide) (fun c5 => ?_) (fun c5 => ?_)
  · skip
    refine lv_iload_n hx hb dX0_upTo_20 rfl (lv_at hl 1 rfl) ?_
    refine lv_goto (tgt := 31) hx hb dX0_upTo_21 (by decide) ?_
    exact W.iret (v := p1) hx hb hr (fun t ht hW => ⟨_, rfl, trivial, ht⟩) (fun q h => by cases h) dX0_upTo_31
  · skip
    refine lv_aload_n hx hb dX0_upTo_8 rfl (lv_at hl 0 rfl) ?_
    refine z_get (k := 2) (j := 0) hM hI hk0 rfl rfl hinX0 rfl (by decide) (by decide +kernel) (fun _ h9 => h9) dX0_upTo_9 (fun v6 hv7 => ?_)
    obtain ⟨i8, rfl, hr9⟩ := hv7
    refine lv_iconst (v := 0) hx hb dX0_upTo_12 (by decide) ?_
    refine z_lald hM hI hr9 rfl rfl (vp_in_c 0 16 (by decide)) dX0_upTo_13 (fun v10 hv11 => ?_)
    refine lv_iload_n hx hb dX0_upTo_14 rfl (lv_at hl 1 rfl) ?_
    refine lv_i2l hx hb dX0_upTo_15 rfl ?_
    refine lv_topl (fun v12 e13 => ?_)
    refine W.lcmp hx hb dX0_upTo_16 ?_
    refine lv_topi (fun v14 e15 => ?_)
    refine lv_if_le (tgt := 24) hx hb dX0_upTo_17 (by decide) (fun c16 => ?_) (fun c16 => ?_)
    · skip
      refine lv_aload_n hx hb dX0_upTo_24 rfl (lv_at hl 0 rfl) ?_
      refine z_get (k := 2) (j := 0) hM hI hk0 rfl rfl hinX0 rfl (by decide) (by decide +kernel) (fun _ h9 => h9) dX0_upTo_25 (fun v17 hv18 => ?_)
      obtain ⟨i19, rfl, hr20⟩ := hv18
      refine lv_iconst (v := 0) hx hb dX0_upTo_28 (by decide) ?_
      refine z_lald hM hI hr20 rfl rfl (vp_in_c 0 16 (by decide)) dX0_upTo_29 (fun v21 hv22 => ?_)
      refine lv_l2i hx hb dX0_upTo_30 rfl ?_
      refine lv_topi (fun v23 e24 => ?_)
      exact W.iret (v := v23) hx hb hr (fun t ht hW => ⟨_, rfl, trivial, ht⟩) (fun q h => by cases h) dX0_upTo_31
    · skip
      refine lv_iload_n hx hb dX0_upTo_20 rfl (lv_at hl 1 rfl) ?_
      refine lv_goto (tgt := 31) hx hb dX0_upTo_21 (by decide) ?_
      exact W.iret (v := p1) hx hb hr (fun t ht hW => ⟨_, rfl, trivial, ht⟩) (fun q h => by cases h) dX0_upTo_31

set_option maxHeartbeats 4000000 in
set_option maxRecDepth 100000 in
theorem c_X0_lowBits (l : Launch) (D : va_G) (tc : Nat → ClassId) (z0 : Nat) (L : List Nat) (κ : Nat → Nat) (g : Nat → Nat → Value) (sz : Nat) (p0 : Nat) (hk0 : κ p0 = 2) : Met l yX0_lowBits wsX0_lowBits ({ frames := 0, cells := 0, slots := 0, locals := 0 }) (zPc D tc z0 [.ref p0] [] (L, κ, g) sz) (vp_Sl (fun r : Int64 => True)) 0 0 (fun _ => False) := by
  refine Met.ofW (cc := cX0_lowBits) (maxL := 1) (ret := (some .long)) (by decide) rfl ?_
  intro p e s m args below meth c s₁ B hml hv
  obtain ⟨rfl, rfl, hK, hE, hI⟩ := hv.opn
  have hx := B.exec
  have hb := B.bytes
  have hr := B.returns
  have hts := atoms_spec (ws := wsX0_lowBits) B.pre
  have hown : s.vm.findClass RX0 = some m.cls := findClass_of_methodNamed B.named
  have hlocks := B.notSynchronized
  have hM : zM p s m c cX0_lowBits _ wsX0_lowBits RX0 D tc := ⟨hx, hb, hts, hown, hK⟩
  have hinX0 : ∀ w ∈ wsX00, w ∈ wsX0_lowBits := by decide +kernel
  have hl := lv_entry ([.ref p0]) (n := 1) (Nat.le_of_ble_eq_true rfl)
  rw [lg_entry_eq]
  generalize (lg_sl ([.ref p0]) ++ List.replicate (1 - (lg_sl ([.ref p0])).length) Slot.unset).toArray = ls at hl ⊢
  have hl : lv_has ls 1 [(0, .ref p0)] := hl
  refine lv_aload_n hx hb dX0_lowBits_0 rfl (lv_at hl 0 rfl) ?_
  refine z_get (k := 2) (j := 0) hM hI hk0 rfl rfl hinX0 rfl (by decide) (by decide +kernel) (fun _ h9 => h9) dX0_lowBits_1 (fun v1 hv2 => ?_)
  obtain ⟨i3, rfl, hr4⟩ := hv2
  refine lv_iconst (v := 0) hx hb dX0_lowBits_4 (by decide) ?_
  refine z_lald hM hI hr4 rfl rfl (vp_in_c 0 16 (by decide)) dX0_lowBits_5 (fun v5 hv6 => ?_)
  refine lv_aload_n hx hb dX0_lowBits_6 rfl (lv_at hl 0 rfl) ?_
  refine z_get (k := 2) (j := 0) hM hI hk0 rfl rfl hinX0 rfl (by decide) (by decide +kernel) (fun _ h9 => h9) dX0_lowBits_7 (fun v7 hv8 => ?_)
  obtain ⟨i9, rfl, hr10⟩ := hv8
  refine lv_iconst (v := 1) hx hb dX0_lowBits_10 (by decide) ?_
  refine z_lald hM hI hr10 rfl rfl (vp_in_c 1 16 (by decide)) dX0_lowBits_11 (fun v11 hv12 => ?_)
  refine lv_bipush (v := 32) hx hb dX0_lowBits_12 (by decide) ?_
  refine lv_lshl hx hb dX0_lowBits_14 rfl ?_
  refine lv_topl (fun v13 e14 => ?_)
  refine lv_ladd hx hb dX0_lowBits_15 ?_
  refine lv_topl (fun v15 e16 => ?_)
  exact W.lret (v := v15) hx hb hr (fun t ht hW => ⟨_, rfl, trivial, ht⟩) (fun q h => by cases h) dX0_lowBits_16

set_option maxHeartbeats 4000000 in
set_option maxRecDepth 100000 in
theorem c_X0_isLess (l : Launch) (D : va_G) (tc : Nat → ClassId) (z0 : Nat) (L : List Nat) (κ : Nat → Nat) (g : Nat → Nat → Value) (sz : Nat) (p0 : Nat) (hk0 : κ p0 = 2) (p1 : Nat) (hk1 : κ p1 = 2) : Met l yX0_isLess wsX0_isLess ({ frames := 2, cells := 0, slots := 0, locals := 43 }) (zPc D tc z0 [.ref p0, .ref p1] [] (L, κ, g) sz) (vp_Si (fun r : Int32 => r = 0 ∨ r = 1)) 0 0 (fun _ => False) := by
  refine Met.ofW (cc := cX0_isLess) (maxL := 3) (ret := (some .boolean)) (by decide) rfl ?_
  intro p e s m args below meth c s₁ B hml hv
  obtain ⟨rfl, rfl, hK, hE, hI⟩ := hv.opn
  have hx := B.exec
  have hb := B.bytes
  have hr := B.returns
  have hts := atoms_spec (ws := wsX0_isLess) B.pre
  have hown : s.vm.findClass RX0 = some m.cls := findClass_of_methodNamed B.named
  have hlocks := B.notSynchronized
  have hM : zM p s m c cX0_isLess _ wsX0_isLess RX0 D tc := ⟨hx, hb, hts, hown, hK⟩
  have hinX0 : ∀ w ∈ wsX00, w ∈ wsX0_isLess := by decide +kernel
  have hl := lv_entry ([.ref p0, .ref p1]) (n := 3) (Nat.le_of_ble_eq_true rfl)
  rw [lg_entry_eq]
  generalize (lg_sl ([.ref p0, .ref p1]) ++ List.replicate (3 - (lg_sl ([.ref p0, .ref p1])).length) Slot.unset).toArray = ls at hl ⊢
  have hl : lv_has ls 3 [(0, .ref p0), (1, .ref p1)] := hl
  refine lv_aload_n hx hb dX0_isLess_0 rfl (lv_at hl 0 rfl) ?_
  refine lv_aload_n hx hb dX0_isLess_1 rfl (lv_at hl 1 rfl) ?_
  refine vp_callSi (W.runV (As := [.ref p1]) (rest := []) ⟨hx, hb, hml, hown, hts⟩ (c_X0_reach l _ _ _ _ _ _ _ p0 hk0 p1 hk1) (cwV 1 hts gX0_isLess_X0_reach rfl rfl rfl (by decide +kernel) ⟨Nat.le_of_ble_eq_true rfl, Nat.le_of_ble_eq_true rfl⟩) (z_preV hK hE hI [] rfl rfl (z_recv hK hI hk0 rfl rfl)) rfl rfl hl.1 rfl (lv_room (Nat.le_of_ble_eq_true rfl)) dX0_isLess_2 ⟨Nat.le_of_ble_eq_true rfl, Nat.le_of_ble_eq_true rfl⟩) (fun v1 hw2 => ?_)
  obtain ⟨n3, hn4, rfl⟩ := hw2
  refine lv_iconst (v := 1) hx hb dX0_isLess_5 (by decide) ?_
  refine lv_isub hx hb dX0_isLess_6 ?_
  refine lv_topi (fun v5 e6 => ?_)
  obtain rfl : v5 = (nI n3 - 1) := e6
  refine lv_istore_n (lv' := [(2, .int ((nI n3 - 1))), (0, .ref p0), (1, .ref p1)]) hx hb dX0_isLess_7 rfl hl (by decide) rfl (fun ls hl => ?_)
  have hL8 : ∀ (n : Nat)   (i7 : Nat) (hi : i7 ≤ 16) (hn : i7 < n)   (ls : Array Slot) (hl : lv_has ls 3 [(0, .ref p0), (1, .ref p1), (2, .int ((nI i7 - 1)))]), W p l e (headSpec wsX0_isLess ({ frames := 2, cells := 0, slots := 0, locals := 43 })).room s m ([.ref p0, .ref p1] : List Value).toArray below meth c s.heap [] 0 0 (MQ below (vp_Si (fun r : Int32 => r = 0 ∨ r = 1)) ([.ref p0, .ref p1] : List Value).toArray s 0 0 (fun _ => False)) (F0 m 8 ls []) := by
    intro n
    induction n with
    | zero => intro i7 hi hn ls hl; exact absurd hn (Nat.not_lt_zero _)
    | succ n ih =>
      intro i7 hi hn ls hl
      refine lv_iload_n hx hb dX0_isLess_8 rfl (lv_at hl 2 rfl) ?_
      refine lv_if_lt (tgt := 56) hx hb dX0_isLess_9 (by decide) (fun c8 => ?_) (fun c8 => ?_)
      · skip
        refine lv_iconst (v := 0) hx hb dX0_isLess_56 (by decide) ?_
        exact W.zret (v := 0) hx hb hr (by decide) (fun t ht hW => ⟨_, rfl, (Or.inl rfl), ht⟩) (fun q h => by cases h) dX0_isLess_57
      · skip
        rcases i7 with _ | j9
        · exact absurd (by decide) c8
        rw [nI_pred] at hl
        refine lv_aload_n hx hb dX0_isLess_12 rfl (lv_at hl 0 rfl) ?_
        refine z_get (k := 2) (j := 0) hM hI hk0 rfl rfl hinX0 rfl (by decide) (by decide +kernel) (fun _ h9 => h9) dX0_isLess_13 (fun v10 hv11 => ?_)
        obtain ⟨i12, rfl, hr13⟩ := hv11
        refine lv_iload_n hx hb dX0_isLess_16 rfl (lv_at hl 2 rfl) ?_
        refine z_lald hM hI hr13 rfl rfl (vp_in_nI (by omega) (by omega)) dX0_isLess_17 (fun v14 hv15 => ?_)
        refine lv_aload_n hx hb dX0_isLess_18 rfl (lv_at hl 1 rfl) ?_
        refine z_get (k := 2) (j := 0) hM hI hk1 rfl rfl hinX0 rfl (by decide) (by decide +kernel) (fun _ h9 => h9) dX0_isLess_19 (fun v16 hv17 => ?_)
        obtain ⟨i18, rfl, hr19⟩ := hv17
        refine lv_iload_n hx hb dX0_isLess_22 rfl (lv_at hl 2 rfl) ?_
        refine z_lald hM hI hr19 rfl rfl (vp_in_nI (by omega) (by omega)) dX0_isLess_23 (fun v20 hv21 => ?_)
        refine W.lcmp hx hb dX0_isLess_24 ?_
        refine lv_topi (fun v22 e23 => ?_)
        refine lv_if_eq (tgt := 50) hx hb dX0_isLess_25 (by decide) (fun c24 => ?_) (fun c24 => ?_)
        · skip
          refine lv_iinc (v := nI j9 - 1) (lv' := [(2, .int ((nI j9 - 1))), (0, .ref p0), (1, .ref p1)]) hx hb dX0_isLess_50 hl (k := 2) rfl (z_dec j9) (by decide) rfl (fun ls hl => ?_)
          refine lv_goto (tgt := 8) hx hb dX0_isLess_53 (by decide) ?_
          exact ih j9 (by first | omega | (simp only [] at *; omega)) (by first | omega | (simp only [] at *; omega)) ls (lv_sub hl [1, 2, 0] rfl)
        · skip
          refine lv_aload_n hx hb dX0_isLess_28 rfl (lv_at hl 0 rfl) ?_
          refine z_get (k := 2) (j := 0) hM hI hk0 rfl rfl hinX0 rfl (by decide) (by decide +kernel) (fun _ h9 => h9) dX0_isLess_29 (fun v25 hv26 => ?_)
          obtain ⟨i27, rfl, hr28⟩ := hv26
          refine lv_iload_n hx hb dX0_isLess_32 rfl (lv_at hl 2 rfl) ?_
          refine z_lald hM hI hr28 rfl rfl (vp_in_nI (by omega) (by omega)) dX0_isLess_33 (fun v29 hv30 => ?_)
          refine lv_aload_n hx hb dX0_isLess_34 rfl (lv_at hl 1 rfl) ?_
          refine z_get (k := 2) (j := 0) hM hI hk1 rfl rfl hinX0 rfl (by decide) (by decide +kernel) (fun _ h9 => h9) dX0_isLess_35 (fun v31 hv32 => ?_)
          obtain ⟨i33, rfl, hr34⟩ := hv32
          refine lv_iload_n hx hb dX0_isLess_38 rfl (lv_at hl 2 rfl) ?_
          refine z_lald hM hI hr34 rfl rfl (vp_in_nI (by omega) (by omega)) dX0_isLess_39 (fun v35 hv36 => ?_)
          refine W.lcmp hx hb dX0_isLess_40 ?_
          refine lv_topi (fun v37 e38 => ?_)
          refine lv_if_ge (tgt := 48) hx hb dX0_isLess_41 (by decide) (fun c39 => ?_) (fun c39 => ?_)
          · skip
            refine lv_iconst (v := 0) hx hb dX0_isLess_48 (by decide) ?_
            exact W.zret (v := 0) hx hb hr (by decide) (fun t ht hW => ⟨_, rfl, (Or.inl rfl), ht⟩) (fun q h => by cases h) dX0_isLess_49
          · skip
            refine lv_iconst (v := 1) hx hb dX0_isLess_44 (by decide) ?_
            refine lv_goto (tgt := 49) hx hb dX0_isLess_45 (by decide) ?_
            exact W.zret (v := 1) hx hb hr (by decide) (fun t ht hW => ⟨_, rfl, (Or.inr rfl), ht⟩) (fun q h => by cases h) dX0_isLess_49
  exact hL8 (n3 + 1) n3 (by first | omega | (simp only [] at *; omega)) (by first | omega | (simp only [] at *; omega)) ls (lv_sub hl [1, 2, 0] rfl)

set_option maxHeartbeats 4000000 in
set_option maxRecDepth 100000 in
theorem c_X0_become (l : Launch) (D : va_G) (tc : Nat → ClassId) (z0 : Nat) (L : List Nat) (κ : Nat → Nat) (g : Nat → Nat → Value) (sz : Nat) (p0 : Nat) (hk0 : κ p0 = 2) (p1 : Int32) : Met l yX0_become wsX0_become ({ frames := 2, cells := 0, slots := 0, locals := 43 }) (zPc D tc z0 [.ref p0, .int p1] [] (L, κ, g) sz) (va_Qv (fun (u : zS) => u = (L, κ, g)) (fun (u : zS) (t : State) => zB D tc (zA [] L sz) [] u t) (zA [] L sz)) 0 0 (zA [] L sz) := by
  refine Met.ofW (cc := cX0_become) (maxL := 4) (ret := none) (by decide) rfl ?_
  intro p e s m args below meth c s₁ B hml hv
  obtain ⟨rfl, rfl, hK, hE, hI⟩ := hv.opn
  have hx := B.exec
  have hb := B.bytes
  have hr := B.returns
  have hts := atoms_spec (ws := wsX0_become) B.pre
  have hown : s.vm.findClass RX0 = some m.cls := findClass_of_methodNamed B.named
  have hlocks := B.notSynchronized
  have hM : zM p s m c cX0_become _ wsX0_become RX0 D tc := ⟨hx, hb, hts, hown, hK⟩
  have hinX0 : ∀ w ∈ wsX00, w ∈ wsX0_become := by decide +kernel
  have hl := lv_entry ([.ref p0, .int p1]) (n := 4) (Nat.le_of_ble_eq_true rfl)
  rw [lg_entry_eq]
  generalize (lg_sl ([.ref p0, .int p1]) ++ List.replicate (4 - (lg_sl ([.ref p0, .int p1])).length) Slot.unset).toArray = ls at hl ⊢
  have hl : lv_has ls 4 [(0, .ref p0), (1, .int p1)] := hl
  refine lv_aload_n hx hb dX0_become_0 rfl (lv_at hl 0 rfl) ?_
  refine lv_aload_n hx hb dX0_become_1 rfl (lv_at hl 0 rfl) ?_
  refine vp_callSi (W.runV (As := [.ref p0]) (rest := []) ⟨hx, hb, hml, hown, hts⟩ (c_X0_reach l _ _ _ _ _ _ _ p0 hk0 p0 hk0) (cwV 1 hts gX0_become_X0_reach rfl rfl rfl (by decide +kernel) ⟨Nat.le_of_ble_eq_true rfl, Nat.le_of_ble_eq_true rfl⟩) (z_preV hK hE hI [] rfl rfl (z_recv hK hI hk0 rfl rfl)) rfl rfl hl.1 rfl (lv_room (Nat.le_of_ble_eq_true rfl)) dX0_become_2 ⟨Nat.le_of_ble_eq_true rfl, Nat.le_of_ble_eq_true rfl⟩) (fun v1 hw2 => ?_)
  obtain ⟨n3, hn4, rfl⟩ := hw2
  refine lv_istore_n (lv' := [(2, .int ((nI n3))), (0, .ref p0), (1, .int p1)]) hx hb dX0_become_5 rfl hl (by decide) rfl (fun ls hl => ?_)
  refine lv_iconst (v := 0) hx hb dX0_become_6 (by decide) ?_
  refine lv_istore_n (lv' := [(3, .int 0), (2, .int ((nI n3))), (0, .ref p0), (1, .int p1)]) hx hb dX0_become_7 rfl hl (by decide) rfl (fun ls hl => ?_)
  have hL8 : ∀ (n : Nat) (H : Heap) (locs : List Loc)   (i5 : Nat) (hi : i5 ≤ n3) (hn : n3 - i5 < n)   (hI : zI D tc (zA [] L s.heap.size) s.heap [] L κ g H locs) (ls : Array Slot) (hl : lv_has ls 4 [(2, .int ((nI n3))), (0, .ref p0), (1, .int p1), (3, .int ((nI i5)))]), W p l e (headSpec wsX0_become ({ frames := 2, cells := 0, slots := 0, locals := 43 })).room s m ([.ref p0, .int p1] : List Value).toArray below meth c H locs 0 0 (MQ below (va_Qv (fun (u : zS) => u = (L, κ, g)) (fun (u : zS) (t : State) => zB D tc (zA [] L s.heap.size) [] u t) (zA [] L s.heap.size)) ([.ref p0, .int p1] : List Value).toArray s 0 0 (zA [] L s.heap.size)) (F0 m 8 ls []) := by
    intro n
    induction n with
    | zero => intro H locs i5 hi hn hI ls hl; exact absurd hn (Nat.not_lt_zero _)
    | succ n ih =>
      intro H locs i5 hi hn hI ls hl
      refine lv_iload_n hx hb dX0_become_8 rfl (lv_at hl 3 rfl) ?_
      refine lv_iload_n hx hb dX0_become_9 rfl (lv_at hl 0 rfl) ?_
      refine lv_icmp_ge (tgt := 26) hx hb dX0_become_10 (by decide) (fun c6 => ?_) (fun c6 => ?_)
      · skip
        have hgec6 : n3 ≤ i5 := z_ge (by omega) (by omega) c6
        refine lv_aload_n hx hb dX0_become_26 rfl (lv_at hl 1 rfl) ?_
        refine z_get (k := 2) (j := 0) hM hI hk0 rfl rfl hinX0 rfl (by decide) (by decide +kernel) (fun _ h9 => h9) dX0_become_27 (fun v7 hv8 => ?_)
        obtain ⟨i9, rfl, hr10⟩ := hv8
        refine lv_iconst (v := 0) hx hb dX0_become_30 (by decide) ?_
        refine lv_iload_n hx hb dX0_become_31 rfl (lv_at hl 2 rfl) ?_
        refine lv_i2l hx hb dX0_become_32 rfl ?_
        refine lv_topl (fun v11 e12 => ?_)
        refine z_last (g' := g) hM hI hr10 rfl rfl (vp_in_c 0 16 (by decide)) ⟨_, rfl⟩ (fun _ _ _ => rfl) dX0_become_33 (fun H locs hI => ?_)
        refine lv_aload_n hx hb dX0_become_34 rfl (lv_at hl 1 rfl) ?_
        refine lv_iconst (v := 1) hx hb dX0_become_35 (by decide) ?_
        refine z_put (g' := g) (k := 2) (j := 1) hM hI hk0 rfl rfl hinX0 tyX0 tyX0_ok nmX0 rfl (by decide) (by decide +kernel) (fun _ h9 => h9) rfl rfl rfl rfl ⟨1, by decide, rfl⟩ (fun _ _ _ => rfl) dX0_become_36 (fun H locs hI => ?_)
        refine lv_aload_n hx hb dX0_become_39 rfl (lv_at hl 1 rfl) ?_
        refine z_cv hI (va_runV (As := []) (rest := []) ⟨hx, hb, hml, hown, hts⟩ (c_X0_dropZeros l _ _ _ _ _ _ _ p0 hk0) (cwV 0 hts gX0_become_X0_dropZeros rfl rfl rfl (by decide +kernel) ⟨Nat.le_of_ble_eq_true rfl, Nat.le_of_ble_eq_true rfl⟩) (z_preV hK hE hI [] rfl rfl (z_recv hK hI hk0 rfl rfl)) rfl rfl hl.1 rfl (lv_room (Nat.le_of_ble_eq_true rfl)) dX0_become_40 ⟨Nat.le_of_ble_eq_true rfl, Nat.le_of_ble_eq_true rfl⟩) (fun u H locs hw14 hI => ?_)
        obtain rfl := hw14
        exact W.vret hx hb hr (fun t ht hW => ⟨⟨(L, κ, g), rfl, rfl, z_end hK hI ht hW⟩, z_F hI ht⟩) (z_locs hI) dX0_become_43
      · skip
        have hltc6 : i5 < n3 := z_lt (by omega) c6
        refine lv_aload_n hx hb dX0_become_13 rfl (lv_at hl 1 rfl) ?_
        refine z_get (k := 2) (j := 0) hM hI hk0 rfl rfl hinX0 rfl (by decide) (by decide +kernel) (fun _ h9 => h9) dX0_become_14 (fun v15 hv16 => ?_)
        obtain ⟨i17, rfl, hr18⟩ := hv16
        refine lv_iload_n hx hb dX0_become_17 rfl (lv_at hl 3 rfl) ?_
        refine lv_lconst (v := 0) hx hb dX0_become_18 (by decide) ?_
        refine z_last (g' := g) hM hI hr18 rfl rfl (vp_in_nI (by omega) (by omega)) ⟨_, rfl⟩ (fun _ _ _ => rfl) dX0_become_19 (fun H locs hI => ?_)
        refine lv_iinc (v := nI (i5 + 1)) (lv' := [(3, .int ((nI (i5 + 1)))), (2, .int ((nI n3))), (0, .ref p0), (1, .int p1)]) hx hb dX0_become_20 hl (k := 3) rfl (z_inc i5) (by decide) rfl (fun ls hl => ?_)
        refine lv_goto (tgt := 8) hx hb dX0_become_23 (by decide) ?_
        exact ih _ _ (i5 + 1) (by first | omega | (simp only [] at *; omega)) (by first | omega | (simp only [] at *; omega)) hI ls (lv_sub hl [1, 2, 3, 0] rfl)
  exact hL8 (n3 + 1) _ _ 0 (by first | omega | (simp only [] at *; omega)) (by first | omega | (simp only [] at *; omega)) hI ls (lv_sub hl [1, 2, 3, 0] rfl)

set_option maxHeartbeats 4000000 in
set_option maxRecDepth 100000 in
theorem c_X0_takeAway (l : Launch) (D : va_G) (tc : Nat → ClassId) (z0 : Nat) (L : List Nat) (κ : Nat → Nat) (g : Nat → Nat → Value) (sz : Nat) (p0 : Nat) (hk0 : κ p0 = 2) (p1 : Nat) (hk1 : κ p1 = 2) : Met l yX0_takeAway wsX0_takeAway ({ frames := 2, cells := 0, slots := 0, locals := 43 }) (zPc D tc z0 [.ref p0, .ref p1] [] (L, κ, g) sz) (va_Qv (fun (u : zS) => u = (L, κ, g)) (fun (u : zS) (t : State) => zB D tc (zA [] L sz) [] u t) (zA [] L sz)) 0 0 (zA [] L sz) := by
  refine Met.ofW (cc := cX0_takeAway) (maxL := 6) (ret := none) (by decide) rfl ?_
  intro p e s m args below meth c s₁ B hml hv
  obtain ⟨rfl, rfl, hK, hE, hI⟩ := hv.opn
  have hx := B.exec
  have hb := B.bytes
  have hr := B.returns
  have hts := atoms_spec (ws := wsX0_takeAway) B.pre
  have hown : s.vm.findClass RX0 = some m.cls := findClass_of_methodNamed B.named
  have hlocks := B.notSynchronized
  have hM : zM p s m c cX0_takeAway _ wsX0_takeAway RX0 D tc := ⟨hx, hb, hts, hown, hK⟩
  have hinX0 : ∀ w ∈ wsX00, w ∈ wsX0_takeAway := by decide +kernel
  have hl := lv_entry ([.ref p0, .ref p1]) (n := 6) (Nat.le_of_ble_eq_true rfl)
  rw [lg_entry_eq]
  generalize (lg_sl ([.ref p0, .ref p1]) ++ List.replicate (6 - (lg_sl ([.ref p0, .ref p1])).length) Slot.unset).toArray = ls at hl ⊢
  have hl : lv_has ls 6 [(0, .ref p0), (1, .ref p1)] := hl
  refine lv_aload_n hx hb dX0_takeAway_0 rfl (lv_at hl 0 rfl) ?_
  refine lv_aload_n hx hb dX0_takeAway_1 rfl (lv_at hl 1 rfl) ?_
  refine vp_callSi (W.runV (As := [.ref p1]) (rest := []) ⟨hx, hb, hml, hown, hts⟩ (c_X0_reach l _ _ _ _ _ _ _ p0 hk0 p1 hk1) (cwV 1 hts gX0_takeAway_X0_reach rfl rfl rfl (by decide +kernel) ⟨Nat.le_of_ble_eq_true rfl, Nat.le_of_ble_eq_true rfl⟩) (z_preV hK hE hI [] rfl rfl (z_recv hK hI hk0 rfl rfl)) rfl rfl hl.1 rfl (lv_room (Nat.le_of_ble_eq_true rfl)) dX0_takeAway_2 ⟨Nat.le_of_ble_eq_true rfl, Nat.le_of_ble_eq_true rfl⟩) (fun v1 hw2 => ?_)
  obtain ⟨n3, hn4, rfl⟩ := hw2
  refine lv_istore_n (lv' := [(2, .int ((nI n3))), (0, .ref p0), (1, .ref p1)]) hx hb dX0_takeAway_5 rfl hl (by decide) rfl (fun ls hl => ?_)
  refine lv_lconst (v := 0) hx hb dX0_takeAway_6 (by decide) ?_
  refine lv_lstore_n (lv' := [(3, .long 0), (2, .int ((nI n3))), (0, .ref p0), (1, .ref p1)]) hx hb dX0_takeAway_7 rfl hl (by decide) rfl (fun ls hl => ?_)
  refine lv_iconst (v := 0) hx hb dX0_takeAway_8 (by decide) ?_
  refine lv_istore (lv' := [(5, .int 0), (3, .long 0), (2, .int ((nI n3))), (0, .ref p0), (1, .ref p1)]) hx hb dX0_takeAway_9 hl (by decide) rfl (fun ls hl => ?_)
  have hL11 : ∀ (n : Nat) (H : Heap) (locs : List Loc) (x5 : Int64)  (i6 : Nat) (hi : i6 ≤ n3) (hn : n3 - i6 < n)   (hI : zI D tc (zA [] L s.heap.size) s.heap [] L κ g H locs) (ls : Array Slot) (hl : lv_has ls 6 [(3, .long x5), (2, .int ((nI n3))), (0, .ref p0), (1, .ref p1), (5, .int ((nI i6)))]), W p l e (headSpec wsX0_takeAway ({ frames := 2, cells := 0, slots := 0, locals := 43 })).room s m ([.ref p0, .ref p1] : List Value).toArray below meth c H locs 0 0 (MQ below (va_Qv (fun (u : zS) => u = (L, κ, g)) (fun (u : zS) (t : State) => zB D tc (zA [] L s.heap.size) [] u t) (zA [] L s.heap.size)) ([.ref p0, .ref p1] : List Value).toArray s 0 0 (zA [] L s.heap.size)) (F0 m 11 ls []) := by
    intro n
    induction n with
    | zero => intro H locs x5 i6 hi hn hI ls hl; exact absurd hn (Nat.not_lt_zero _)
    | succ n ih =>
      intro H locs x5 i6 hi hn hI ls hl
      refine lv_iload hx hb dX0_takeAway_11 (lv_at hl 4 rfl) ?_
      refine lv_iload_n hx hb dX0_takeAway_13 rfl (lv_at hl 1 rfl) ?_
      refine lv_icmp_ge (tgt := 58) hx hb dX0_takeAway_14 (by decide) (fun c7 => ?_) (fun c7 => ?_)
      · skip
        have hgec7 : n3 ≤ i6 := z_ge (by omega) (by omega) c7
        refine lv_aload_n hx hb dX0_takeAway_58 rfl (lv_at hl 2 rfl) ?_
        refine z_cv hI (va_runV (As := []) (rest := []) ⟨hx, hb, hml, hown, hts⟩ (c_X0_dropZeros l _ _ _ _ _ _ _ p0 hk0) (cwV 0 hts gX0_takeAway_X0_dropZeros rfl rfl rfl (by decide +kernel) ⟨Nat.le_of_ble_eq_true rfl, Nat.le_of_ble_eq_true rfl⟩) (z_preV hK hE hI [] rfl rfl (z_recv hK hI hk0 rfl rfl)) rfl rfl hl.1 rfl (lv_room (Nat.le_of_ble_eq_true rfl)) dX0_takeAway_59 ⟨Nat.le_of_ble_eq_true rfl, Nat.le_of_ble_eq_true rfl⟩) (fun u H locs hw9 hI => ?_)
        obtain rfl := hw9
        exact W.vret hx hb hr (fun t ht hW => ⟨⟨(L, κ, g), rfl, rfl, z_end hK hI ht hW⟩, z_F hI ht⟩) (z_locs hI) dX0_takeAway_62
      · skip
        have hltc7 : i6 < n3 := z_lt (by omega) c7
        refine lv_lload_n hx hb dX0_takeAway_17 rfl (lv_at hl 0 rfl) ?_
        refine lv_aload_n hx hb dX0_takeAway_18 rfl (lv_at hl 2 rfl) ?_
        refine z_get (k := 2) (j := 0) hM hI hk0 rfl rfl hinX0 rfl (by decide) (by decide +kernel) (fun _ h9 => h9) dX0_takeAway_19 (fun v10 hv11 => ?_)
        obtain ⟨i12, rfl, hr13⟩ := hv11
        refine lv_iload hx hb dX0_takeAway_22 (lv_at hl 4 rfl) ?_
        refine z_lald hM hI hr13 rfl rfl (vp_in_nI (by omega) (by omega)) dX0_takeAway_24 (fun v14 hv15 => ?_)
        refine lv_aload_n hx hb dX0_takeAway_25 rfl (lv_at hl 3 rfl) ?_
        refine z_get (k := 2) (j := 0) hM hI hk1 rfl rfl hinX0 rfl (by decide) (by decide +kernel) (fun _ h9 => h9) dX0_takeAway_26 (fun v16 hv17 => ?_)
        obtain ⟨i18, rfl, hr19⟩ := hv17
        refine lv_iload hx hb dX0_takeAway_29 (lv_at hl 4 rfl) ?_
        refine z_lald hM hI hr19 rfl rfl (vp_in_nI (by omega) (by omega)) dX0_takeAway_31 (fun v20 hv21 => ?_)
        refine lv_lsub hx hb dX0_takeAway_32 ?_
        refine lv_topl (fun v22 e23 => ?_)
        refine lv_ladd hx hb dX0_takeAway_33 ?_
        refine lv_topl (fun v24 e25 => ?_)
        refine lv_lstore_n (lv' := [(3, .long v24), (2, .int ((nI n3))), (0, .ref p0), (1, .ref p1), (5, .int ((nI i6)))]) hx hb dX0_takeAway_34 rfl hl (by decide) rfl (fun ls hl => ?_)
        refine lv_aload_n hx hb dX0_takeAway_35 rfl (lv_at hl 2 rfl) ?_
        refine z_get (k := 2) (j := 0) hM hI hk0 rfl rfl hinX0 rfl (by decide) (by decide +kernel) (fun _ h9 => h9) dX0_takeAway_36 (fun v26 hv27 => ?_)
        obtain ⟨i28, rfl, hr29⟩ := hv27
        refine lv_iload hx hb dX0_takeAway_39 (lv_at hl 4 rfl) ?_
        refine lv_lload_n hx hb dX0_takeAway_41 rfl (lv_at hl 0 rfl) ?_
        refine lv_ldc2 (v := 4294967295) hx hb hown (hts (.constantLong RX0 26 (4294967295)) (by decide +kernel)) dX0_takeAway_42 ?_
        refine lv_land hx hb dX0_takeAway_45 ?_
        refine lv_topl (fun v30 e31 => ?_)
        refine z_last (g' := g) hM hI hr29 rfl rfl (vp_in_nI (by omega) (by omega)) ⟨_, rfl⟩ (fun _ _ _ => rfl) dX0_takeAway_46 (fun H locs hI => ?_)
        refine lv_lload_n hx hb dX0_takeAway_47 rfl (lv_at hl 0 rfl) ?_
        refine lv_bipush (v := 32) hx hb dX0_takeAway_48 (by decide) ?_
        refine lv_lshr hx hb dX0_takeAway_50 rfl ?_
        refine lv_topl (fun v32 e33 => ?_)
        refine lv_lstore_n (lv' := [(3, .long v32), (2, .int ((nI n3))), (0, .ref p0), (1, .ref p1), (5, .int ((nI i6)))]) hx hb dX0_takeAway_51 rfl hl (by decide) rfl (fun ls hl => ?_)
        refine lv_iinc (v := nI (i6 + 1)) (lv' := [(5, .int ((nI (i6 + 1)))), (3, .long v32), (2, .int ((nI n3))), (0, .ref p0), (1, .ref p1)]) hx hb dX0_takeAway_52 hl (k := 4) rfl (z_inc i6) (by decide) rfl (fun ls hl => ?_)
        refine lv_goto (tgt := 11) hx hb dX0_takeAway_55 (by decide) ?_
        exact ih _ _ v32 (i6 + 1) (by first | omega | (simp only [] at *; omega)) (by first | omega | (simp only [] at *; omega)) hI ls (lv_sub hl [1, 2, 3, 4, 0] rfl)
  exact hL11 (n3 + 1) _ _ 0 0 (by first | omega | (simp only [] at *; omega)) (by first | omega | (simp only [] at *; omega)) hI ls (lv_sub hl [1, 2, 3, 4, 0] rfl)

set_option maxHeartbeats 4000000 in
set_option maxRecDepth 100000 in
theorem c_X0_becomeQuotient (l : Launch) (D : va_G) (tc : Nat → ClassId) (z0 : Nat) (L : List Nat) (κ : Nat → Nat) (g : Nat → Nat → Value) (sz : Nat) (p0 : Nat) (hk0 : κ p0 = 2) (p1 : Nat) (hk1 : κ p1 = 2) (p2 : Int32) : Met l yX0_becomeQuotient wsX0_becomeQuotient ({ frames := 2, cells := 0, slots := 0, locals := 43 }) (zPc D tc z0 [.ref p0, .ref p1, .int p2] [] (L, κ, g) sz) (va_Qv (fun (u : zS) => u = (L, κ, g)) (fun (u : zS) (t : State) => zB D tc (zA [] L sz) [] u t) (zA [] L sz)) 0 0 (zA [] L sz) := by
  refine Met.ofW (cc := cX0_becomeQuotient) (maxL := 6) (ret := none) (by decide) rfl ?_
  intro p e s m args below meth c s₁ B hml hv
  obtain ⟨rfl, rfl, hK, hE, hI⟩ := hv.opn
  have hx := B.exec
  have hb := B.bytes
  have hr := B.returns
  have hts := atoms_spec (ws := wsX0_becomeQuotient) B.pre
  have hown : s.vm.findClass RX0 = some m.cls := findClass_of_methodNamed B.named
  have hlocks := B.notSynchronized
  have hM : zM p s m c cX0_becomeQuotient _ wsX0_becomeQuotient RX0 D tc := ⟨hx, hb, hts, hown, hK⟩
  have hinX0 : ∀ w ∈ wsX00, w ∈ wsX0_becomeQuotient := by decide +kernel
  have hl := lv_entry ([.ref p0, .ref p1, .int p2]) (n := 6) (Nat.le_of_ble_eq_true rfl)
  rw [lg_entry_eq]
  generalize (lg_sl ([.ref p0, .ref p1, .int p2]) ++ List.replicate (6 - (lg_sl ([.ref p0, .ref p1, .int p2])).length) Slot.unset).toArray = ls at hl ⊢
  have hl : lv_has ls 6 [(0, .ref p0), (1, .ref p1), (2, .int p2)] := hl
  refine lv_iload_n hx hb dX0_becomeQuotient_0 rfl (lv_at hl 2 rfl) ?_
  refine lv_iconst (v := 1) hx hb dX0_becomeQuotient_1 (by decide) ?_
  refine lv_icmp_ge (tgt := 6) hx hb dX0_becomeQuotient_2 (by decide) (fun c1 => ?_) (fun c1 => ?_)
  · skip
    refine lv_aload_n hx hb dX0_becomeQuotient_6 rfl (lv_at hl 0 rfl) ?_
    refine lv_aload_n hx hb dX0_becomeQuotient_7 rfl (lv_at hl 0 rfl) ?_
    refine lv_aload_n hx hb dX0_becomeQuotient_8 rfl (lv_at hl 1 rfl) ?_
    refine vp_callSi (W.runV (As := [.ref p1]) (rest := [.ref p0]) ⟨hx, hb, hml, hown, hts⟩ (c_X0_reach l _ _ _ _ _ _ _ p0 hk0 p1 hk1) (cwV 1 hts gX0_becomeQuotient_X0_reach rfl rfl rfl (by decide +kernel) ⟨Nat.le_of_ble_eq_true rfl, Nat.le_of_ble_eq_true rfl⟩) (z_preV hK hE hI [] rfl rfl (z_recv hK hI hk0 rfl rfl)) rfl rfl hl.1 rfl (lv_room (Nat.le_of_ble_eq_true rfl)) dX0_becomeQuotient_9 ⟨Nat.le_of_ble_eq_true rfl, Nat.le_of_ble_eq_true rfl⟩) (fun v2 hw3 => ?_)
    obtain ⟨n4, hn5, rfl⟩ := hw3
    refine z_put (g' := g) (k := 2) (j := 1) hM hI hk0 rfl rfl hinX0 tyX0 tyX0_ok nmX0 rfl (by decide) (by decide +kernel) (fun _ h9 => h9) rfl rfl rfl rfl ⟨n4, by omega, rfl⟩ (fun _ _ _ => rfl) dX0_becomeQuotient_12 (fun H locs hI => ?_)
    refine lv_lconst (v := 0) hx hb dX0_becomeQuotient_15 (by decide) ?_
    refine lv_lstore_n (lv' := [(3, .long 0), (0, .ref p0), (1, .ref p1), (2, .int p2)]) hx hb dX0_becomeQuotient_16 rfl hl (by decide) rfl (fun ls hl => ?_)
    refine lv_aload_n hx hb dX0_becomeQuotient_17 rfl (lv_at hl 1 rfl) ?_
    refine z_get (k := 2) (j := 1) hM hI hk0 rfl rfl hinX0 rfl (by decide) (by decide +kernel) (fun _ h9 => h9) dX0_becomeQuotient_18 (fun v6 hv7 => ?_)
    obtain ⟨i8, hb9, rfl⟩ := hv7
    refine lv_iconst (v := 1) hx hb dX0_becomeQuotient_21 (by decide) ?_
    refine lv_isub hx hb dX0_becomeQuotient_22 ?_
    refine lv_topi (fun v10 e11 => ?_)
    obtain rfl : v10 = (nI i8 - 1) := e11
    refine lv_istore (lv' := [(5, .int ((nI i8 - 1))), (3, .long 0), (0, .ref p0), (1, .ref p1), (2, .int p2)]) hx hb dX0_becomeQuotient_23 hl (by decide) rfl (fun ls hl => ?_)
    have hL25 : ∀ (n : Nat) (H : Heap) (locs : List Loc) (x12 : Int64)  (i13 : Nat) (hi : i13 ≤ 16) (hn : i13 < n)   (hI : zI D tc (zA [] L s.heap.size) s.heap [] L κ g H locs) (ls : Array Slot) (hl : lv_has ls 6 [(3, .long x12), (0, .ref p0), (1, .ref p1), (2, .int p2), (5, .int ((nI i13 - 1)))]), W p l e (headSpec wsX0_becomeQuotient ({ frames := 2, cells := 0, slots := 0, locals := 43 })).room s m ([.ref p0, .ref p1, .int p2] : List Value).toArray below meth c H locs 0 0 (MQ below (va_Qv (fun (u : zS) => u = (L, κ, g)) (fun (u : zS) (t : State) => zB D tc (zA [] L s.heap.size) [] u t) (zA [] L s.heap.size)) ([.ref p0, .ref p1, .int p2] : List Value).toArray s 0 0 (zA [] L s.heap.size)) (F0 m 25 ls []) := by
      intro n
      induction n with
      | zero => intro H locs x12 i13 hi hn hI ls hl; exact absurd hn (Nat.not_lt_zero _)
      | succ n ih =>
        intro H locs x12 i13 hi hn hI ls hl
        refine lv_iload hx hb dX0_becomeQuotient_25 (lv_at hl 4 rfl) ?_
        refine lv_if_lt (tgt := 65) hx hb dX0_becomeQuotient_27 (by decide) (fun c14 => ?_) (fun c14 => ?_)
        · skip
          refine lv_aload_n hx hb dX0_becomeQuotient_65 rfl (lv_at hl 1 rfl) ?_
          refine z_cv hI (va_runV (As := []) (rest := []) ⟨hx, hb, hml, hown, hts⟩ (c_X0_dropZeros l _ _ _ _ _ _ _ p0 hk0) (cwV 0 hts gX0_becomeQuotient_X0_dropZeros rfl rfl rfl (by decide +kernel) ⟨Nat.le_of_ble_eq_true rfl, Nat.le_of_ble_eq_true rfl⟩) (z_preV hK hE hI [] rfl rfl (z_recv hK hI hk0 rfl rfl)) rfl rfl hl.1 rfl (lv_room (Nat.le_of_ble_eq_true rfl)) dX0_becomeQuotient_66 ⟨Nat.le_of_ble_eq_true rfl, Nat.le_of_ble_eq_true rfl⟩) (fun u H locs hw16 hI => ?_)
          obtain rfl := hw16
          exact W.vret hx hb hr (fun t ht hW => ⟨⟨(L, κ, g), rfl, rfl, z_end hK hI ht hW⟩, z_F hI ht⟩) (z_locs hI) dX0_becomeQuotient_69
        · skip
          rcases i13 with _ | j17
          · exact absurd (by decide) c14
          rw [nI_pred] at hl
          refine lv_lload_n hx hb dX0_becomeQuotient_30 rfl (lv_at hl 0 rfl) ?_
          refine lv_bipush (v := 32) hx hb dX0_becomeQuotient_31 (by decide) ?_
          refine lv_lshl hx hb dX0_becomeQuotient_33 rfl ?_
          refine lv_topl (fun v18 e19 => ?_)
          refine lv_aload_n hx hb dX0_becomeQuotient_34 rfl (lv_at hl 2 rfl) ?_
          refine z_get (k := 2) (j := 0) hM hI hk1 rfl rfl hinX0 rfl (by decide) (by decide +kernel) (fun _ h9 => h9) dX0_becomeQuotient_35 (fun v20 hv21 => ?_)
          obtain ⟨i22, rfl, hr23⟩ := hv21
          refine lv_iload hx hb dX0_becomeQuotient_38 (lv_at hl 4 rfl) ?_
          refine z_lald hM hI hr23 rfl rfl (vp_in_nI (by omega) (by omega)) dX0_becomeQuotient_40 (fun v24 hv25 => ?_)
          refine lv_ladd hx hb dX0_becomeQuotient_41 ?_
          refine lv_topl (fun v26 e27 => ?_)
          refine lv_lstore_n (lv' := [(3, .long v26), (0, .ref p0), (1, .ref p1), (2, .int p2), (5, .int ((nI j17)))]) hx hb dX0_becomeQuotient_42 rfl hl (by decide) rfl (fun ls hl => ?_)
          refine lv_aload_n hx hb dX0_becomeQuotient_43 rfl (lv_at hl 1 rfl) ?_
          refine z_get (k := 2) (j := 0) hM hI hk0 rfl rfl hinX0 rfl (by decide) (by decide +kernel) (fun _ h9 => h9) dX0_becomeQuotient_44 (fun v28 hv29 => ?_)
          obtain ⟨i30, rfl, hr31⟩ := hv29
          refine lv_iload hx hb dX0_becomeQuotient_47 (lv_at hl 4 rfl) ?_
          refine lv_lload_n hx hb dX0_becomeQuotient_49 rfl (lv_at hl 0 rfl) ?_
          refine lv_iload_n hx hb dX0_becomeQuotient_50 rfl (lv_at hl 3 rfl) ?_
          refine lv_i2l hx hb dX0_becomeQuotient_51 rfl ?_
          refine lv_topl (fun v32 e33 => ?_)
          refine lv_ldiv hx hb dX0_becomeQuotient_52 (z_nz (x := p2) (by assumption) (by assumption)) ?_
          refine lv_topl (fun v34 e35 => ?_)
          refine z_last (g' := g) hM hI hr31 rfl rfl (vp_in_nI (by omega) (by omega)) ⟨_, rfl⟩ (fun _ _ _ => rfl) dX0_becomeQuotient_53 (fun H locs hI => ?_)
          refine lv_lload_n hx hb dX0_becomeQuotient_54 rfl (lv_at hl 0 rfl) ?_
          refine lv_iload_n hx hb dX0_becomeQuotient_55 rfl (lv_at hl 3 rfl) ?_
          refine lv_i2l hx hb dX0_becomeQuotient_56 rfl ?_
          refine lv_topl (fun v36 e37 => ?_)
          refine lv_lrem hx hb dX0_becomeQuotient_57 (z_nz (x := p2) (by assumption) (by assumption)) ?_
          refine lv_topl (fun v38 e39 => ?_)
          refine lv_lstore_n (lv' := [(3, .long v38), (0, .ref p0), (1, .ref p1), (2, .int p2), (5, .int ((nI j17)))]) hx hb dX0_becomeQuotient_58 rfl hl (by decide) rfl (fun ls hl => ?_)
          refine lv_iinc (v := nI j17 - 1) (lv' := [(5, .int ((nI j17 - 1))), (3, .long v38), (0, .ref p0), (1, .ref p1), (2, .int p2)]) hx hb dX0_becomeQuotient_59 hl (k := 4) rfl (z_dec j17) (by decide) rfl (fun ls hl => ?_)
          refine lv_goto (tgt := 25) hx hb dX0_becomeQuotient_62 (by decide) ?_
          exact ih _ _ v38 j17 (by first | omega | (simp only [] at *; omega)) (by first | omega | (simp only [] at *; omega)) hI ls (lv_sub hl [1, 2, 3, 4, 0] rfl)
    exact hL25 (i8 + 1) _ _ 0 i8 (by first | omega | (simp only [] at *; omega)) (by first | omega | (simp only [] at *; omega)) hI ls (lv_sub hl [1, 2, 3, 4, 0] rfl)
  · skip
    exact W.vret hx hb hr (fun t ht hW => ⟨⟨(L, κ, g), rfl, rfl, z_end hK hI ht hW⟩, z_F hI ht⟩) (z_locs hI) dX0_becomeQuotient_5

set_option maxHeartbeats 4000000 in
set_option maxRecDepth 100000 in
theorem c_X0_becomeSame (l : Launch) (D : va_G) (tc : Nat → ClassId) (z0 : Nat) (L : List Nat) (κ : Nat → Nat) (g : Nat → Nat → Value) (sz : Nat) (p0 : Nat) (hk0 : κ p0 = 2) (p1 : Nat) (hk1 : κ p1 = 2) : Met l yX0_becomeSame wsX0_becomeSame ({ frames := 2, cells := 0, slots := 0, locals := 43 }) (zPc D tc z0 [.ref p0, .ref p1] [] (L, κ, g) sz) (va_Qv (fun (u : zS) => u = (L, κ, g)) (fun (u : zS) (t : State) => zB D tc (zA [] L sz) [] u t) (zA [] L sz)) 0 0 (zA [] L sz) := by
  refine Met.ofW (cc := cX0_becomeSame) (maxL := 4) (ret := none) (by decide) rfl ?_
  intro p e s m args below meth c s₁ B hml hv
  obtain ⟨rfl, rfl, hK, hE, hI⟩ := hv.opn
  have hx := B.exec
  have hb := B.bytes
  have hr := B.returns
  have hts := atoms_spec (ws := wsX0_becomeSame) B.pre
  have hown : s.vm.findClass RX0 = some m.cls := findClass_of_methodNamed B.named
  have hlocks := B.notSynchronized
  have hM : zM p s m c cX0_becomeSame _ wsX0_becomeSame RX0 D tc := ⟨hx, hb, hts, hown, hK⟩
  have hinX0 : ∀ w ∈ wsX00, w ∈ wsX0_becomeSame := by decide +kernel
  have hl := lv_entry ([.ref p0, .ref p1]) (n := 4) (Nat.le_of_ble_eq_true rfl)
  rw [lg_entry_eq]
  generalize (lg_sl ([.ref p0, .ref p1]) ++ List.replicate (4 - (lg_sl ([.ref p0, .ref p1])).length) Slot.unset).toArray = ls at hl ⊢
  have hl : lv_has ls 4 [(0, .ref p0), (1, .ref p1)] := hl
  refine lv_aload_n hx hb dX0_becomeSame_0 rfl (lv_at hl 0 rfl) ?_
  refine lv_aload_n hx hb dX0_becomeSame_1 rfl (lv_at hl 1 rfl) ?_
  refine vp_callSi (W.runV (As := [.ref p1]) (rest := []) ⟨hx, hb, hml, hown, hts⟩ (c_X0_reach l _ _ _ _ _ _ _ p0 hk0 p1 hk1) (cwV 1 hts gX0_becomeSame_X0_reach rfl rfl rfl (by decide +kernel) ⟨Nat.le_of_ble_eq_true rfl, Nat.le_of_ble_eq_true rfl⟩) (z_preV hK hE hI [] rfl rfl (z_recv hK hI hk0 rfl rfl)) rfl rfl hl.1 rfl (lv_room (Nat.le_of_ble_eq_true rfl)) dX0_becomeSame_2 ⟨Nat.le_of_ble_eq_true rfl, Nat.le_of_ble_eq_true rfl⟩) (fun v1 hw2 => ?_)
  obtain ⟨n3, hn4, rfl⟩ := hw2
  refine lv_istore_n (lv' := [(2, .int ((nI n3))), (0, .ref p0), (1, .ref p1)]) hx hb dX0_becomeSame_5 rfl hl (by decide) rfl (fun ls hl => ?_)
  refine lv_iconst (v := 0) hx hb dX0_becomeSame_6 (by decide) ?_
  refine lv_istore_n (lv' := [(3, .int 0), (2, .int ((nI n3))), (0, .ref p0), (1, .ref p1)]) hx hb dX0_becomeSame_7 rfl hl (by decide) rfl (fun ls hl => ?_)
  have hL8 : ∀ (n : Nat) (H : Heap) (locs : List Loc)   (i5 : Nat) (hi : i5 ≤ n3) (hn : n3 - i5 < n)   (hI : zI D tc (zA [] L s.heap.size) s.heap [] L κ g H locs) (ls : Array Slot) (hl : lv_has ls 4 [(2, .int ((nI n3))), (0, .ref p0), (1, .ref p1), (3, .int ((nI i5)))]), W p l e (headSpec wsX0_becomeSame ({ frames := 2, cells := 0, slots := 0, locals := 43 })).room s m ([.ref p0, .ref p1] : List Value).toArray below meth c H locs 0 0 (MQ below (va_Qv (fun (u : zS) => u = (L, κ, g)) (fun (u : zS) (t : State) => zB D tc (zA [] L s.heap.size) [] u t) (zA [] L s.heap.size)) ([.ref p0, .ref p1] : List Value).toArray s 0 0 (zA [] L s.heap.size)) (F0 m 8 ls []) := by
    intro n
    induction n with
    | zero => intro H locs i5 hi hn hI ls hl; exact absurd hn (Nat.not_lt_zero _)
    | succ n ih =>
      intro H locs i5 hi hn hI ls hl
      refine lv_iload_n hx hb dX0_becomeSame_8 rfl (lv_at hl 3 rfl) ?_
      refine lv_iload_n hx hb dX0_becomeSame_9 rfl (lv_at hl 0 rfl) ?_
      refine lv_icmp_ge (tgt := 31) hx hb dX0_becomeSame_10 (by decide) (fun c6 => ?_) (fun c6 => ?_)
      · skip
        have hgec6 : n3 ≤ i5 := z_ge (by omega) (by omega) c6
        refine lv_aload_n hx hb dX0_becomeSame_31 rfl (lv_at hl 1 rfl) ?_
        refine lv_iload_n hx hb dX0_becomeSame_32 rfl (lv_at hl 0 rfl) ?_
        refine z_put (g' := g) (k := 2) (j := 1) hM hI hk0 rfl rfl hinX0 tyX0 tyX0_ok nmX0 rfl (by decide) (by decide +kernel) (fun _ h9 => h9) rfl rfl rfl rfl ⟨n3, by omega, rfl⟩ (fun _ _ _ => rfl) dX0_becomeSame_33 (fun H locs hI => ?_)
        refine lv_aload_n hx hb dX0_becomeSame_36 rfl (lv_at hl 1 rfl) ?_
        refine z_cv hI (va_runV (As := []) (rest := []) ⟨hx, hb, hml, hown, hts⟩ (c_X0_dropZeros l _ _ _ _ _ _ _ p0 hk0) (cwV 0 hts gX0_becomeSame_X0_dropZeros rfl rfl rfl (by decide +kernel) ⟨Nat.le_of_ble_eq_true rfl, Nat.le_of_ble_eq_true rfl⟩) (z_preV hK hE hI [] rfl rfl (z_recv hK hI hk0 rfl rfl)) rfl rfl hl.1 rfl (lv_room (Nat.le_of_ble_eq_true rfl)) dX0_becomeSame_37 ⟨Nat.le_of_ble_eq_true rfl, Nat.le_of_ble_eq_true rfl⟩) (fun u H locs hw8 hI => ?_)
        obtain rfl := hw8
        exact W.vret hx hb hr (fun t ht hW => ⟨⟨(L, κ, g), rfl, rfl, z_end hK hI ht hW⟩, z_F hI ht⟩) (z_locs hI) dX0_becomeSame_40
      · skip
        have hltc6 : i5 < n3 := z_lt (by omega) c6
        refine lv_aload_n hx hb dX0_becomeSame_13 rfl (lv_at hl 1 rfl) ?_
        refine z_get (k := 2) (j := 0) hM hI hk0 rfl rfl hinX0 rfl (by decide) (by decide +kernel) (fun _ h9 => h9) dX0_becomeSame_14 (fun v9 hv10 => ?_)
        obtain ⟨i11, rfl, hr12⟩ := hv10
        refine lv_iload_n hx hb dX0_becomeSame_17 rfl (lv_at hl 3 rfl) ?_
        refine lv_aload_n hx hb dX0_becomeSame_18 rfl (lv_at hl 2 rfl) ?_
        refine z_get (k := 2) (j := 0) hM hI hk1 rfl rfl hinX0 rfl (by decide) (by decide +kernel) (fun _ h9 => h9) dX0_becomeSame_19 (fun v13 hv14 => ?_)
        obtain ⟨i15, rfl, hr16⟩ := hv14
        refine lv_iload_n hx hb dX0_becomeSame_22 rfl (lv_at hl 3 rfl) ?_
        refine z_lald hM hI hr16 rfl rfl (vp_in_nI (by omega) (by omega)) dX0_becomeSame_23 (fun v17 hv18 => ?_)
        refine z_last (g' := g) hM hI hr12 rfl rfl (vp_in_nI (by omega) (by omega)) ⟨_, rfl⟩ (fun _ _ _ => rfl) dX0_becomeSame_24 (fun H locs hI => ?_)
        refine lv_iinc (v := nI (i5 + 1)) (lv' := [(3, .int ((nI (i5 + 1)))), (2, .int ((nI n3))), (0, .ref p0), (1, .ref p1)]) hx hb dX0_becomeSame_25 hl (k := 3) rfl (z_inc i5) (by decide) rfl (fun ls hl => ?_)
        refine lv_goto (tgt := 8) hx hb dX0_becomeSame_28 (by decide) ?_
        exact ih _ _ (i5 + 1) (by first | omega | (simp only [] at *; omega)) (by first | omega | (simp only [] at *; omega)) hI ls (lv_sub hl [1, 2, 3, 0] rfl)
  exact hL8 (n3 + 1) _ _ 0 (by first | omega | (simp only [] at *; omega)) (by first | omega | (simp only [] at *; omega)) hI ls (lv_sub hl [1, 2, 3, 0] rfl)

set_option maxHeartbeats 4000000 in
set_option maxRecDepth 100000 in
theorem c_X0_becomeProduct (l : Launch) (D : va_G) (tc : Nat → ClassId) (z0 : Nat) (L : List Nat) (κ : Nat → Nat) (g : Nat → Nat → Value) (sz : Nat) (p0 : Nat) (hk0 : κ p0 = 2) (p1 : Nat) (hk1 : κ p1 = 2) (p2 : Int32) : Met l yX0_becomeProduct wsX0_becomeProduct ({ frames := 2, cells := 0, slots := 0, locals := 43 }) (zPc D tc z0 [.ref p0, .ref p1, .int p2] [] (L, κ, g) sz) (va_Qv (fun (u : zS) => u = (L, κ, g)) (fun (u : zS) (t : State) => zB D tc (zA [] L sz) [] u t) (zA [] L sz)) 0 0 (zA [] L sz) := by
  refine Met.ofW (cc := cX0_becomeProduct) (maxL := 7) (ret := none) (by decide) rfl ?_
  intro p e s m args below meth c s₁ B hml hv
  obtain ⟨rfl, rfl, hK, hE, hI⟩ := hv.opn
  have hx := B.exec
  have hb := B.bytes
  have hr := B.returns
  have hts := atoms_spec (ws := wsX0_becomeProduct) B.pre
  have hown : s.vm.findClass RX0 = some m.cls := findClass_of_methodNamed B.named
  have hlocks := B.notSynchronized
  have hM : zM p s m c cX0_becomeProduct _ wsX0_becomeProduct RX0 D tc := ⟨hx, hb, hts, hown, hK⟩
  have hinX0 : ∀ w ∈ wsX00, w ∈ wsX0_becomeProduct := by decide +kernel
  have hl := lv_entry ([.ref p0, .ref p1, .int p2]) (n := 7) (Nat.le_of_ble_eq_true rfl)
  rw [lg_entry_eq]
  generalize (lg_sl ([.ref p0, .ref p1, .int p2]) ++ List.replicate (7 - (lg_sl ([.ref p0, .ref p1, .int p2])).length) Slot.unset).toArray = ls at hl ⊢
  have hl : lv_has ls 7 [(0, .ref p0), (1, .ref p1), (2, .int p2)] := hl
  refine lv_aload_n hx hb dX0_becomeProduct_0 rfl (lv_at hl 0 rfl) ?_
  refine lv_aload_n hx hb dX0_becomeProduct_1 rfl (lv_at hl 1 rfl) ?_
  refine vp_callSi (W.runV (As := [.ref p1]) (rest := []) ⟨hx, hb, hml, hown, hts⟩ (c_X0_reach l _ _ _ _ _ _ _ p0 hk0 p1 hk1) (cwV 1 hts gX0_becomeProduct_X0_reach rfl rfl rfl (by decide +kernel) ⟨Nat.le_of_ble_eq_true rfl, Nat.le_of_ble_eq_true rfl⟩) (z_preV hK hE hI [] rfl rfl (z_recv hK hI hk0 rfl rfl)) rfl rfl hl.1 rfl (lv_room (Nat.le_of_ble_eq_true rfl)) dX0_becomeProduct_2 ⟨Nat.le_of_ble_eq_true rfl, Nat.le_of_ble_eq_true rfl⟩) (fun v1 hw2 => ?_)
  obtain ⟨n3, hn4, rfl⟩ := hw2
  refine lv_istore_n (lv' := [(3, .int ((nI n3))), (0, .ref p0), (1, .ref p1), (2, .int p2)]) hx hb dX0_becomeProduct_5 rfl hl (by decide) rfl (fun ls hl => ?_)
  refine lv_lconst (v := 0) hx hb dX0_becomeProduct_6 (by decide) ?_
  refine lv_lstore (lv' := [(4, .long 0), (3, .int ((nI n3))), (0, .ref p0), (1, .ref p1), (2, .int p2)]) hx hb dX0_becomeProduct_7 hl (by decide) rfl (fun ls hl => ?_)
  refine lv_iconst (v := 0) hx hb dX0_becomeProduct_9 (by decide) ?_
  refine lv_istore (lv' := [(6, .int 0), (4, .long 0), (3, .int ((nI n3))), (0, .ref p0), (1, .ref p1), (2, .int p2)]) hx hb dX0_becomeProduct_10 hl (by decide) rfl (fun ls hl => ?_)
  have hL12 : ∀ (n : Nat) (H : Heap) (locs : List Loc) (x5 : Int64)  (i6 : Nat) (hi : i6 ≤ n3) (hn : n3 - i6 < n)   (hI : zI D tc (zA [] L s.heap.size) s.heap [] L κ g H locs) (ls : Array Slot) (hl : lv_has ls 7 [(4, .long x5), (3, .int ((nI n3))), (0, .ref p0), (1, .ref p1), (2, .int p2), (6, .int ((nI i6)))]), W p l e (headSpec wsX0_becomeProduct ({ frames := 2, cells := 0, slots := 0, locals := 43 })).room s m ([.ref p0, .ref p1, .int p2] : List Value).toArray below meth c H locs 0 0 (MQ below (va_Qv (fun (u : zS) => u = (L, κ, g)) (fun (u : zS) (t : State) => zB D tc (zA [] L s.heap.size) [] u t) (zA [] L s.heap.size)) ([.ref p0, .ref p1, .int p2] : List Value).toArray s 0 0 (zA [] L s.heap.size)) (F0 m 12 ls []) := by
    intro n
    induction n with
    | zero => intro H locs x5 i6 hi hn hI ls hl; exact absurd hn (Nat.not_lt_zero _)
    | succ n ih =>
      intro H locs x5 i6 hi hn hI ls hl
      refine lv_iload hx hb dX0_becomeProduct_12 (lv_at hl 5 rfl) ?_
      refine lv_iload_n hx hb dX0_becomeProduct_14 rfl (lv_at hl 1 rfl) ?_
      refine lv_icmp_ge (tgt := 59) hx hb dX0_becomeProduct_15 (by decide) (fun c7 => ?_) (fun c7 => ?_)
      · skip
        have hgec7 : n3 ≤ i6 := z_ge (by omega) (by omega) c7
        refine lv_aload_n hx hb dX0_becomeProduct_59 rfl (lv_at hl 2 rfl) ?_
        refine lv_iload_n hx hb dX0_becomeProduct_60 rfl (lv_at hl 1 rfl) ?_
        refine z_put (g' := g) (k := 2) (j := 1) hM hI hk0 rfl rfl hinX0 tyX0 tyX0_ok nmX0 rfl (by decide) (by decide +kernel) (fun _ h9 => h9) rfl rfl rfl rfl ⟨n3, by omega, rfl⟩ (fun _ _ _ => rfl) dX0_becomeProduct_61 (fun H locs hI => ?_)
        refine lv_aload_n hx hb dX0_becomeProduct_64 rfl (lv_at hl 2 rfl) ?_
        refine lv_lload hx hb dX0_becomeProduct_65 (lv_at hl 0 rfl) ?_
        refine z_cv hI (va_runV (As := [.long x5]) (rest := []) ⟨hx, hb, hml, hown, hts⟩ (c_X0_putOnTop l _ _ _ _ _ _ _ p0 hk0 x5) (cwV 1 hts gX0_becomeProduct_X0_putOnTop rfl rfl rfl (by decide +kernel) ⟨Nat.le_of_ble_eq_true rfl, Nat.le_of_ble_eq_true rfl⟩) (z_preV hK hE hI [] rfl rfl (z_recv hK hI hk0 rfl rfl)) rfl rfl hl.1 rfl (lv_room (Nat.le_of_ble_eq_true rfl)) dX0_becomeProduct_67 ⟨Nat.le_of_ble_eq_true rfl, Nat.le_of_ble_eq_true rfl⟩) (fun u H locs hw9 hI => ?_)
        obtain rfl := hw9
        exact W.vret hx hb hr (fun t ht hW => ⟨⟨(L, κ, g), rfl, rfl, z_end hK hI ht hW⟩, z_F hI ht⟩) (z_locs hI) dX0_becomeProduct_70
      · skip
        have hltc7 : i6 < n3 := z_lt (by omega) c7
        refine lv_lload hx hb dX0_becomeProduct_18 (lv_at hl 0 rfl) ?_
        refine lv_aload_n hx hb dX0_becomeProduct_20 rfl (lv_at hl 3 rfl) ?_
        refine z_get (k := 2) (j := 0) hM hI hk1 rfl rfl hinX0 rfl (by decide) (by decide +kernel) (fun _ h9 => h9) dX0_becomeProduct_21 (fun v10 hv11 => ?_)
        obtain ⟨i12, rfl, hr13⟩ := hv11
        refine lv_iload hx hb dX0_becomeProduct_24 (lv_at hl 5 rfl) ?_
        refine z_lald hM hI hr13 rfl rfl (vp_in_nI (by omega) (by omega)) dX0_becomeProduct_26 (fun v14 hv15 => ?_)
        refine lv_iload_n hx hb dX0_becomeProduct_27 rfl (lv_at hl 4 rfl) ?_
        refine lv_i2l hx hb dX0_becomeProduct_28 rfl ?_
        refine lv_topl (fun v16 e17 => ?_)
        refine lv_lmul hx hb dX0_becomeProduct_29 ?_
        refine lv_topl (fun v18 e19 => ?_)
        refine lv_ladd hx hb dX0_becomeProduct_30 ?_
        refine lv_topl (fun v20 e21 => ?_)
        refine lv_lstore (lv' := [(4, .long v20), (3, .int ((nI n3))), (0, .ref p0), (1, .ref p1), (2, .int p2), (6, .int ((nI i6)))]) hx hb dX0_becomeProduct_31 hl (by decide) rfl (fun ls hl => ?_)
        refine lv_aload_n hx hb dX0_becomeProduct_33 rfl (lv_at hl 2 rfl) ?_
        refine z_get (k := 2) (j := 0) hM hI hk0 rfl rfl hinX0 rfl (by decide) (by decide +kernel) (fun _ h9 => h9) dX0_becomeProduct_34 (fun v22 hv23 => ?_)
        obtain ⟨i24, rfl, hr25⟩ := hv23
        refine lv_iload hx hb dX0_becomeProduct_37 (lv_at hl 5 rfl) ?_
        refine lv_lload hx hb dX0_becomeProduct_39 (lv_at hl 0 rfl) ?_
        refine lv_ldc2 (v := 4294967295) hx hb hown (hts (.constantLong RX0 26 (4294967295)) (by decide +kernel)) dX0_becomeProduct_41 ?_
        refine lv_land hx hb dX0_becomeProduct_44 ?_
        refine lv_topl (fun v26 e27 => ?_)
        refine z_last (g' := g) hM hI hr25 rfl rfl (vp_in_nI (by omega) (by omega)) ⟨_, rfl⟩ (fun _ _ _ => rfl) dX0_becomeProduct_45 (fun H locs hI => ?_)
        refine lv_lload hx hb dX0_becomeProduct_46 (lv_at hl 0 rfl) ?_
        refine lv_bipush (v := 32) hx hb dX0_becomeProduct_48 (by decide) ?_
        refine lv_lushr hx hb dX0_becomeProduct_50 rfl ?_
        refine lv_topl (fun v28 e29 => ?_)
        refine lv_lstore (lv' := [(4, .long v28), (3, .int ((nI n3))), (0, .ref p0), (1, .ref p1), (2, .int p2), (6, .int ((nI i6)))]) hx hb dX0_becomeProduct_51 hl (by decide) rfl (fun ls hl => ?_)
        refine lv_iinc (v := nI (i6 + 1)) (lv' := [(6, .int ((nI (i6 + 1)))), (4, .long v28), (3, .int ((nI n3))), (0, .ref p0), (1, .ref p1), (2, .int p2)]) hx hb dX0_becomeProduct_53 hl (k := 5) rfl (z_inc i6) (by decide) rfl (fun ls hl => ?_)
        refine lv_goto (tgt := 12) hx hb dX0_becomeProduct_56 (by decide) ?_
        exact ih _ _ v28 (i6 + 1) (by first | omega | (simp only [] at *; omega)) (by first | omega | (simp only [] at *; omega)) hI ls (lv_sub hl [1, 2, 3, 4, 5, 0] rfl)
  exact hL12 (n3 + 1) _ _ 0 0 (by first | omega | (simp only [] at *; omega)) (by first | omega | (simp only [] at *; omega)) hI ls (lv_sub hl [1, 2, 3, 4, 5, 0] rfl)

set_option maxHeartbeats 4000000 in
set_option maxRecDepth 100000 in
theorem c_X0_add (l : Launch) (D : va_G) (tc : Nat → ClassId) (z0 : Nat) (L : List Nat) (κ : Nat → Nat) (g : Nat → Nat → Value) (sz : Nat) (p0 : Nat) (hk0 : κ p0 = 2) (p1 : Nat) (hk1 : κ p1 = 2) : Met l yX0_add wsX0_add ({ frames := 2, cells := 0, slots := 0, locals := 43 }) (zPc D tc z0 [.ref p0, .ref p1] [] (L, κ, g) sz) (va_Qv (fun (u : zS) => u = (L, κ, g)) (fun (u : zS) (t : State) => zB D tc (zA [] L sz) [] u t) (zA [] L sz)) 0 0 (zA [] L sz) := by
  refine Met.ofW (cc := cX0_add) (maxL := 6) (ret := none) (by decide) rfl ?_
  intro p e s m args below meth c s₁ B hml hv
  obtain ⟨rfl, rfl, hK, hE, hI⟩ := hv.opn
  have hx := B.exec
  have hb := B.bytes
  have hr := B.returns
  have hts := atoms_spec (ws := wsX0_add) B.pre
  have hown : s.vm.findClass RX0 = some m.cls := findClass_of_methodNamed B.named
  have hlocks := B.notSynchronized
  have hM : zM p s m c cX0_add _ wsX0_add RX0 D tc := ⟨hx, hb, hts, hown, hK⟩
  have hinX0 : ∀ w ∈ wsX00, w ∈ wsX0_add := by decide +kernel
  have hl := lv_entry ([.ref p0, .ref p1]) (n := 6) (Nat.le_of_ble_eq_true rfl)
  rw [lg_entry_eq]
  generalize (lg_sl ([.ref p0, .ref p1]) ++ List.replicate (6 - (lg_sl ([.ref p0, .ref p1])).length) Slot.unset).toArray = ls at hl ⊢
  have hl : lv_has ls 6 [(0, .ref p0), (1, .ref p1)] := hl
  refine lv_aload_n hx hb dX0_add_0 rfl (lv_at hl 0 rfl) ?_
  refine lv_aload_n hx hb dX0_add_1 rfl (lv_at hl 1 rfl) ?_
  refine vp_callSi (W.runV (As := [.ref p1]) (rest := []) ⟨hx, hb, hml, hown, hts⟩ (c_X0_reach l _ _ _ _ _ _ _ p0 hk0 p1 hk1) (cwV 1 hts gX0_add_X0_reach rfl rfl rfl (by decide +kernel) ⟨Nat.le_of_ble_eq_true rfl, Nat.le_of_ble_eq_true rfl⟩) (z_preV hK hE hI [] rfl rfl (z_recv hK hI hk0 rfl rfl)) rfl rfl hl.1 rfl (lv_room (Nat.le_of_ble_eq_true rfl)) dX0_add_2 ⟨Nat.le_of_ble_eq_true rfl, Nat.le_of_ble_eq_true rfl⟩) (fun v1 hw2 => ?_)
  obtain ⟨n3, hn4, rfl⟩ := hw2
  refine lv_istore_n (lv' := [(2, .int ((nI n3))), (0, .ref p0), (1, .ref p1)]) hx hb dX0_add_5 rfl hl (by decide) rfl (fun ls hl => ?_)
  refine lv_lconst (v := 0) hx hb dX0_add_6 (by decide) ?_
  refine lv_lstore_n (lv' := [(3, .long 0), (2, .int ((nI n3))), (0, .ref p0), (1, .ref p1)]) hx hb dX0_add_7 rfl hl (by decide) rfl (fun ls hl => ?_)
  refine lv_iconst (v := 0) hx hb dX0_add_8 (by decide) ?_
  refine lv_istore (lv' := [(5, .int 0), (3, .long 0), (2, .int ((nI n3))), (0, .ref p0), (1, .ref p1)]) hx hb dX0_add_9 hl (by decide) rfl (fun ls hl => ?_)
  have hL11 : ∀ (n : Nat) (H : Heap) (locs : List Loc) (x5 : Int64)  (i6 : Nat) (hi : i6 ≤ n3) (hn : n3 - i6 < n)   (hI : zI D tc (zA [] L s.heap.size) s.heap [] L κ g H locs) (ls : Array Slot) (hl : lv_has ls 6 [(3, .long x5), (2, .int ((nI n3))), (0, .ref p0), (1, .ref p1), (5, .int ((nI i6)))]), W p l e (headSpec wsX0_add ({ frames := 2, cells := 0, slots := 0, locals := 43 })).room s m ([.ref p0, .ref p1] : List Value).toArray below meth c H locs 0 0 (MQ below (va_Qv (fun (u : zS) => u = (L, κ, g)) (fun (u : zS) (t : State) => zB D tc (zA [] L s.heap.size) [] u t) (zA [] L s.heap.size)) ([.ref p0, .ref p1] : List Value).toArray s 0 0 (zA [] L s.heap.size)) (F0 m 11 ls []) := by
    intro n
    induction n with
    | zero => intro H locs x5 i6 hi hn hI ls hl; exact absurd hn (Nat.not_lt_zero _)
    | succ n ih =>
      intro H locs x5 i6 hi hn hI ls hl
      refine lv_iload hx hb dX0_add_11 (lv_at hl 4 rfl) ?_
      refine lv_iload_n hx hb dX0_add_13 rfl (lv_at hl 1 rfl) ?_
      refine lv_icmp_ge (tgt := 58) hx hb dX0_add_14 (by decide) (fun c7 => ?_) (fun c7 => ?_)
      · skip
        have hgec7 : n3 ≤ i6 := z_ge (by omega) (by omega) c7
        refine lv_aload_n hx hb dX0_add_58 rfl (lv_at hl 2 rfl) ?_
        refine lv_iload_n hx hb dX0_add_59 rfl (lv_at hl 1 rfl) ?_
        refine z_put (g' := g) (k := 2) (j := 1) hM hI hk0 rfl rfl hinX0 tyX0 tyX0_ok nmX0 rfl (by decide) (by decide +kernel) (fun _ h9 => h9) rfl rfl rfl rfl ⟨n3, by omega, rfl⟩ (fun _ _ _ => rfl) dX0_add_60 (fun H locs hI => ?_)
        refine lv_aload_n hx hb dX0_add_63 rfl (lv_at hl 2 rfl) ?_
        refine lv_lload_n hx hb dX0_add_64 rfl (lv_at hl 0 rfl) ?_
        refine z_cv hI (va_runV (As := [.long x5]) (rest := []) ⟨hx, hb, hml, hown, hts⟩ (c_X0_putOnTop l _ _ _ _ _ _ _ p0 hk0 x5) (cwV 1 hts gX0_add_X0_putOnTop rfl rfl rfl (by decide +kernel) ⟨Nat.le_of_ble_eq_true rfl, Nat.le_of_ble_eq_true rfl⟩) (z_preV hK hE hI [] rfl rfl (z_recv hK hI hk0 rfl rfl)) rfl rfl hl.1 rfl (lv_room (Nat.le_of_ble_eq_true rfl)) dX0_add_65 ⟨Nat.le_of_ble_eq_true rfl, Nat.le_of_ble_eq_true rfl⟩) (fun u H locs hw9 hI => ?_)
        obtain rfl := hw9
        exact W.vret hx hb hr (fun t ht hW => ⟨⟨(L, κ, g), rfl, rfl, z_end hK hI ht hW⟩, z_F hI ht⟩) (z_locs hI) dX0_add_68
      · skip
        have hltc7 : i6 < n3 := z_lt (by omega) c7
        refine lv_lload_n hx hb dX0_add_17 rfl (lv_at hl 0 rfl) ?_
        refine lv_aload_n hx hb dX0_add_18 rfl (lv_at hl 2 rfl) ?_
        refine z_get (k := 2) (j := 0) hM hI hk0 rfl rfl hinX0 rfl (by decide) (by decide +kernel) (fun _ h9 => h9) dX0_add_19 (fun v10 hv11 => ?_)
        obtain ⟨i12, rfl, hr13⟩ := hv11
        refine lv_iload hx hb dX0_add_22 (lv_at hl 4 rfl) ?_
        refine z_lald hM hI hr13 rfl rfl (vp_in_nI (by omega) (by omega)) dX0_add_24 (fun v14 hv15 => ?_)
        refine lv_aload_n hx hb dX0_add_25 rfl (lv_at hl 3 rfl) ?_
        refine z_get (k := 2) (j := 0) hM hI hk1 rfl rfl hinX0 rfl (by decide) (by decide +kernel) (fun _ h9 => h9) dX0_add_26 (fun v16 hv17 => ?_)
        obtain ⟨i18, rfl, hr19⟩ := hv17
        refine lv_iload hx hb dX0_add_29 (lv_at hl 4 rfl) ?_
        refine z_lald hM hI hr19 rfl rfl (vp_in_nI (by omega) (by omega)) dX0_add_31 (fun v20 hv21 => ?_)
        refine lv_ladd hx hb dX0_add_32 ?_
        refine lv_topl (fun v22 e23 => ?_)
        refine lv_ladd hx hb dX0_add_33 ?_
        refine lv_topl (fun v24 e25 => ?_)
        refine lv_lstore_n (lv' := [(3, .long v24), (2, .int ((nI n3))), (0, .ref p0), (1, .ref p1), (5, .int ((nI i6)))]) hx hb dX0_add_34 rfl hl (by decide) rfl (fun ls hl => ?_)
        refine lv_aload_n hx hb dX0_add_35 rfl (lv_at hl 2 rfl) ?_
        refine z_get (k := 2) (j := 0) hM hI hk0 rfl rfl hinX0 rfl (by decide) (by decide +kernel) (fun _ h9 => h9) dX0_add_36 (fun v26 hv27 => ?_)
        obtain ⟨i28, rfl, hr29⟩ := hv27
        refine lv_iload hx hb dX0_add_39 (lv_at hl 4 rfl) ?_
        refine lv_lload_n hx hb dX0_add_41 rfl (lv_at hl 0 rfl) ?_
        refine lv_ldc2 (v := 4294967295) hx hb hown (hts (.constantLong RX0 26 (4294967295)) (by decide +kernel)) dX0_add_42 ?_
        refine lv_land hx hb dX0_add_45 ?_
        refine lv_topl (fun v30 e31 => ?_)
        refine z_last (g' := g) hM hI hr29 rfl rfl (vp_in_nI (by omega) (by omega)) ⟨_, rfl⟩ (fun _ _ _ => rfl) dX0_add_46 (fun H locs hI => ?_)
        refine lv_lload_n hx hb dX0_add_47 rfl (lv_at hl 0 rfl) ?_
        refine lv_bipush (v := 32) hx hb dX0_add_48 (by decide) ?_
        refine lv_lushr hx hb dX0_add_50 rfl ?_
        refine lv_topl (fun v32 e33 => ?_)
        refine lv_lstore_n (lv' := [(3, .long v32), (2, .int ((nI n3))), (0, .ref p0), (1, .ref p1), (5, .int ((nI i6)))]) hx hb dX0_add_51 rfl hl (by decide) rfl (fun ls hl => ?_)
        refine lv_iinc (v := nI (i6 + 1)) (lv' := [(5, .int ((nI (i6 + 1)))), (3, .long v32), (2, .int ((nI n3))), (0, .ref p0), (1, .ref p1)]) hx hb dX0_add_52 hl (k := 4) rfl (z_inc i6) (by decide) rfl (fun ls hl => ?_)
        refine lv_goto (tgt := 11) hx hb dX0_add_55 (by decide) ?_
        exact ih _ _ v32 (i6 + 1) (by first | omega | (simp only [] at *; omega)) (by first | omega | (simp only [] at *; omega)) hI ls (lv_sub hl [1, 2, 3, 4, 0] rfl)
  exact hL11 (n3 + 1) _ _ 0 0 (by first | omega | (simp only [] at *; omega)) (by first | omega | (simp only [] at *; omega)) hI ls (lv_sub hl [1, 2, 3, 4, 0] rfl)

