theorem z_cnt0 {x : Int32} {i a : Nat} {g : Nat → Nat → Value} (h : ∃ k : Nat, x = nI k ∧ k ≤ i ∧ (k = 0 → ∀ j : Nat, j < i → g a j = .null)) (hn : g a i = .null) : ∃ k : Nat, x = nI k ∧ k ≤ i + 1 ∧ (k = 0 → ∀ j : Nat, j < i + 1 → g a j = .null) := by
  obtain ⟨k, h1, h2, h3⟩ := h
  refine ⟨k, h1, by omega, fun h0 j hj => ?_⟩
  by_cases e : j = i
  · rw [e]; exact hn
  · exact h3 h0 j (by omega)
theorem z_cnt1 {x y : Int32} {i a : Nat} {g : Nat → Nat → Value} (h : ∃ k : Nat, x = nI k ∧ k ≤ i ∧ (k = 0 → ∀ j : Nat, j < i → g a j = .null)) (e : y = x + Int32.ofInt 1) : ∃ k : Nat, y = nI k ∧ k ≤ i + 1 ∧ (k = 0 → ∀ j : Nat, j < i + 1 → g a j = .null) := by
  obtain ⟨k, h1, h2, -⟩ := h
  exact ⟨k + 1, by rw [e, h1]; exact z_inc k, by omega, fun h0 => absurd h0 (by omega)⟩
theorem z_cntE {x : Int32} {i a n : Nat} {g : Nat → Nat → Value} (h : ∃ k : Nat, x = nI k ∧ k ≤ i ∧ (k = 0 → ∀ j : Nat, j < i → g a j = .null)) (hn : n ≤ i) (hi : i < 2 ^ 31) (hs : ∃ j : Nat, j < n ∧ g a j ≠ .null) : ¬ x = 0 := by
  obtain ⟨k, rfl, h2, h3⟩ := h
  obtain ⟨j, hj, hne⟩ := hs
  intro h0
  exact hne (h3 ((nI_eq (b := 0) (by omega) (by omega)).mp h0) j (by omega))
theorem z_div32 {j : Nat} (h : j < 512) : vp_in (nI j / 32) 16 := by
  have e : nI j / 32 = nI (j / 32) := pk_div (d := 32) (by omega) (by omega) (by omega)
  rw [e]
  exact vp_in_nI (by omega) (by omega)
theorem z_mul32 (k : Nat) : nI k * 32 = nI (k * 32) := pk_mul k 32

set_option maxHeartbeats 4000000 in
set_option maxRecDepth 100000 in
theorem c_X0_toDouble (l : Launch) (D : va_G) (tc : Nat → ClassId) (z0 : Nat) (L : List Nat) (κ : Nat → Nat) (g : Nat → Nat → Value) (sz : Nat) (p0 : Nat) (hk0 : κ p0 = 2) : MetD lw_cs l yX0_toDouble wsX0_toDouble ({ frames := 2, cells := 0, slots := 0, locals := 43 }) (zPc D tc z0 [.ref p0] [] (L, κ, g) sz) (va_Qd (fun (r : UInt64) (u : zS) => u = (L, κ, g)) (fun (u : zS) (t : State) => zB D tc (zA [] L sz) [] u t) (zA [] L sz)) 0 0 (zA [] L sz) := by
  refine MetD.ofW (cc := cX0_toDouble) (maxL := 8) (ret := (some .double)) (by decide) rfl ?_
  intro p e s m args below meth c s₁ B hml hv hd0
  obtain ⟨rfl, rfl, hK, hE, hI⟩ := hv.opn
  show W p l e _ s m _ below meth c s.heap [] 0 0 _ _
  have hx := B.exec
  have hb := B.bytes
  have hr := B.returns
  have hts := atoms_spec (ws := wsX0_toDouble) B.pre
  have hts0 := hts
  have hE0 := hE
  have hown : s.vm.findClass RX0 = some m.cls := findClass_of_methodNamed B.named
  have hlocks := B.notSynchronized
  have hM : zM p s m c cX0_toDouble _ wsX0_toDouble RX0 D tc := ⟨hx, hb, hts, hown, hK⟩
  have hinX0 : ∀ w ∈ wsX00, w ∈ wsX0_toDouble := by decide +kernel
  have hl := lv_entry ([.ref p0]) (n := 8) (Nat.le_of_ble_eq_true rfl)
  rw [lg_entry_eq]
  generalize (lg_sl ([.ref p0]) ++ List.replicate (8 - (lg_sl ([.ref p0])).length) Slot.unset).toArray = ls at hl ⊢
  have hl : lv_has ls 8 [(0, .ref p0)] := hl
  refine lv_lconst (v := 0) hx hb dX0_toDouble_0 (by decide) ?_
  refine lv_lstore_n (lv' := [(1, .long 0), (0, .ref p0)]) hx hb dX0_toDouble_1 rfl hl (by decide) rfl (fun ls hl => ?_)
  refine lv_dconst1 hx hb dX0_toDouble_2 ?_
  refine lv_topd (fun v1 e2 => ?_)
  refine lv_dstore_n (lv' := [(3, .double v1), (1, .long 0), (0, .ref p0)]) hx hb dX0_toDouble_3 rfl hl (by decide) rfl (fun ls hl => ?_)
  refine lv_aload_n hx hb dX0_toDouble_4 rfl (lv_at hl 2 rfl) ?_
  refine lv_aload_n hx hb dX0_toDouble_5 rfl (lv_at hl 2 rfl) ?_
  refine vp_callSi (W.runV (As := [.ref p0]) (rest := []) ⟨hx, hb, hml, hown, hts⟩ (c_X0_reach l _ _ _ _ _ _ _ p0 hk0 p0 hk0) (cwV 1 hts gX0_toDouble_X0_reach rfl rfl rfl (by decide +kernel) ⟨Nat.le_of_ble_eq_true rfl, Nat.le_of_ble_eq_true rfl⟩) (z_preV hK hE hI [] rfl rfl (z_recv hK hI hk0 rfl rfl)) rfl rfl hl.1 rfl (lv_room (Nat.le_of_ble_eq_true rfl)) dX0_toDouble_6 ⟨Nat.le_of_ble_eq_true rfl, Nat.le_of_ble_eq_true rfl⟩) (fun v3 hw4 => ?_)
  obtain ⟨n5, hn6, rfl⟩ := hw4
  refine lv_bipush (v := 32) hx hb dX0_toDouble_9 (by decide) ?_
  refine lv_imul hx hb dX0_toDouble_11 ?_
  rw [z_mul32]
  refine lv_iconst (v := 1) hx hb dX0_toDouble_12 (by decide) ?_
  refine lv_isub hx hb dX0_toDouble_13 ?_
  refine lv_topi (fun v7 e8 => ?_)
  obtain rfl : v7 = (nI (n5 * 32) - 1) := e8
  refine lv_istore (lv' := [(5, .int ((nI (n5 * 32) - 1))), (3, .double v1), (1, .long 0), (0, .ref p0)]) hx hb dX0_toDouble_14 hl (by decide) rfl (fun ls hl => ?_)
  have hL16 : ∀ (n : Nat) (d9 : Drawn) (hd9 : s.drawn.sameBut d9 lw_cs) (H : Heap) (locs : List Loc) (x9 : UInt64) (x10 : Int64)  (i11 : Nat) (hi : i11 ≤ 512) (hn : i11 < n)   (hI : zI D tc (zA [] L s.heap.size) s.heap [] L κ g H locs) (ls : Array Slot) (hl : lv_has ls 8 [(3, .double x9), (1, .long x10), (0, .ref p0), (5, .int ((nI i11 - 1)))]), W p l e (headSpec wsX0_toDouble ({ frames := 2, cells := 0, slots := 0, locals := 43 })).room (s.setDrawn d9) m ([.ref p0] : List Value).toArray below meth c H locs 0 0 (MQD lw_cs below (va_Qd (fun (r : UInt64) (u : zS) => u = (L, κ, g)) (fun (u : zS) (t : State) => zB D tc (zA [] L s.heap.size) [] u t) (zA [] L s.heap.size)) ([.ref p0] : List Value).toArray s 0 0 (zA [] L s.heap.size)) (F0 m 16 ls []) := by
    intro n
    induction n with
    | zero => intro d9 hd9 H locs x9 x10 i11 hi hn hI ls hl; exact absurd hn (Nat.not_lt_zero _)
    | succ n ih =>
      intro d9 hd9 H locs x9 x10 i11 hi hn hI ls hl
      have hts := dr_words hts0 d9
      have hK : va_K D vwCl (zTy tc) (s.setDrawn d9) := hK
      have hE : zE z0 (zA [] L s.heap.size) (s.setDrawn d9) := hE0.next (locs := []) (State.WarmedH.refl s) va_S.rf (fun _ h => h)
      have hown : (s.setDrawn d9).vm.findClass RX0 = some m.cls := hown
      have hM : zM p (s.setDrawn d9) m c cX0_toDouble _ wsX0_toDouble RX0 D tc := ⟨hx, hb, hts, hown, hK⟩
      have hI : zI D tc (zA [] L s.heap.size) (s.setDrawn d9).heap [] L κ g _ _ := hI
      refine lv_iload hx hb dX0_toDouble_16 (lv_at hl 3 rfl) ?_
      refine lv_if_lt (tgt := 78) hx hb dX0_toDouble_18 (by decide) (fun c12 => ?_) (fun c12 => ?_)
      · skip
        refine lv_lload_n hx hb dX0_toDouble_78 rfl (lv_at hl 1 rfl) ?_
        refine lv_l2d hx hb dX0_toDouble_79 ?_
        refine lv_topd (fun v13 e14 => ?_)
        refine lv_dload_n hx hb dX0_toDouble_80 rfl (lv_at hl 0 rfl) ?_
        refine lv_dmul_any hd9 lw_bits hx hb dX0_toDouble_81 (fun r15 d16 _ hd17 => ?_)
        have hts := dr_words hts0 d16
        have hK : va_K D vwCl (zTy tc) (s.setDrawn d16) := hK
        have hE : zE z0 (zA [] L s.heap.size) (s.setDrawn d16) := hE0.next (locs := []) (State.WarmedH.refl s) va_S.rf (fun _ h => h)
        have hown : (s.setDrawn d16).vm.findClass RX0 = some m.cls := hown
        have hM : zM p (s.setDrawn d16) m c cX0_toDouble _ wsX0_toDouble RX0 D tc := ⟨hx, hb, hts, hown, hK⟩
        have hI : zI D tc (zA [] L s.heap.size) (s.setDrawn d16).heap [] L κ g _ _ := hI
        refine W.endD hd17 ?_
        exact W.dret (v := r15) hx hb hr (fun t ht hW => ⟨⟨_, (L, κ, g), rfl, rfl, z_end hK hI ht hW⟩, z_F hI ht⟩) (z_locs hI) dX0_toDouble_82
      · skip
        rcases i11 with _ | j18
        · exact absurd (by decide) c12
        rw [nI_pred] at hl
        refine lv_aload_n hx hb dX0_toDouble_21 rfl (lv_at hl 2 rfl) ?_
        refine z_get (k := 2) (j := 0) hM hI hk0 rfl rfl hinX0 rfl (by decide) (by decide +kernel) (fun _ h9 => h9) dX0_toDouble_22 (fun v19 hv20 => ?_)
        obtain ⟨i21, rfl, hr22⟩ := hv20
        refine lv_iload hx hb dX0_toDouble_25 (lv_at hl 3 rfl) ?_
        refine lv_bipush (v := 32) hx hb dX0_toDouble_27 (by decide) ?_
        refine lv_idiv hx hb dX0_toDouble_29 (by decide) ?_
        refine lv_topi (fun v23 e24 => ?_)
        have hdv : vp_in v23 16 := by rw [e24]; exact z_div32 (by omega)
        refine z_lald hM hI hr22 rfl rfl hdv dX0_toDouble_30 (fun v25 hv26 => ?_)
        refine lv_iload hx hb dX0_toDouble_31 (lv_at hl 3 rfl) ?_
        refine lv_bipush (v := 32) hx hb dX0_toDouble_33 (by decide) ?_
        refine lv_irem hx hb dX0_toDouble_35 (by decide) ?_
        refine lv_topi (fun v27 e28 => ?_)
        refine lv_lshr hx hb dX0_toDouble_36 rfl ?_
        refine lv_topl (fun v29 e30 => ?_)
        refine lv_lconst (v := 1) hx hb dX0_toDouble_37 (by decide) ?_
        refine lv_land hx hb dX0_toDouble_38 ?_
        refine lv_topl (fun v31 e32 => ?_)
        refine lv_lstore (lv' := [(6, .long v31), (3, .double x9), (1, .long x10), (0, .ref p0), (5, .int ((nI j18)))]) hx hb dX0_toDouble_39 hl (by decide) rfl (fun ls hl => ?_)
        refine lv_lload_n hx hb dX0_toDouble_41 rfl (lv_at hl 2 rfl) ?_
        refine lv_ldc2 (v := 2305843009213693952) hx hb hown (hts (.constantLong RX0 32 (2305843009213693952)) (by decide +kernel)) dX0_toDouble_42 ?_
        refine W.lcmp hx hb dX0_toDouble_45 ?_
        refine lv_topi (fun v33 e34 => ?_)
        have hL72 : ∀ (d9 : Drawn) (hd9 : s.drawn.sameBut d9 lw_cs) (H : Heap) (locs : List Loc) (x35 : UInt64) (x36 : Int64)    (hI : zI D tc (zA [] L s.heap.size) s.heap [] L κ g H locs) (ls : Array Slot) (hl : lv_has ls 8 [(6, .long v31), (3, .double x35), (1, .long x36), (0, .ref p0), (5, .int ((nI j18)))]), W p l e (headSpec wsX0_toDouble ({ frames := 2, cells := 0, slots := 0, locals := 43 })).room (s.setDrawn d9) m ([.ref p0] : List Value).toArray below meth c H locs 0 0 (MQD lw_cs below (va_Qd (fun (r : UInt64) (u : zS) => u = (L, κ, g)) (fun (u : zS) (t : State) => zB D tc (zA [] L s.heap.size) [] u t) (zA [] L s.heap.size)) ([.ref p0] : List Value).toArray s 0 0 (zA [] L s.heap.size)) (F0 m 72 ls []) := by
          intro d9 hd9 H locs x35 x36 hI ls hl
          have hts := dr_words hts0 d9
          have hK : va_K D vwCl (zTy tc) (s.setDrawn d9) := hK
          have hE : zE z0 (zA [] L s.heap.size) (s.setDrawn d9) := hE0.next (locs := []) (State.WarmedH.refl s) va_S.rf (fun _ h => h)
          have hown : (s.setDrawn d9).vm.findClass RX0 = some m.cls := hown
          have hM : zM p (s.setDrawn d9) m c cX0_toDouble _ wsX0_toDouble RX0 D tc := ⟨hx, hb, hts, hown, hK⟩
          have hI : zI D tc (zA [] L s.heap.size) (s.setDrawn d9).heap [] L κ g _ _ := hI
          refine lv_iinc (v := nI j18 - 1) (lv' := [(5, .int ((nI j18 - 1))), (6, .long v31), (3, .double x35), (1, .long x36), (0, .ref p0)]) hx hb dX0_toDouble_72 hl (k := 4) rfl (z_dec j18) (by decide) rfl (fun ls hl => ?_)
          refine lv_goto (tgt := 16) hx hb dX0_toDouble_75 (by decide) ?_
          exact ih d9 hd9 _ _ x35 x36 j18 (by first | omega | (simp only [] at *; omega)) (by first | omega | (simp only [] at *; omega)) hI ls (lv_sub hl [2, 3, 4, 0] rfl)
        refine lv_if_ge (tgt := 61) hx hb dX0_toDouble_46 (by decide) (fun c37 => ?_) (fun c37 => ?_)
        · skip
          refine lv_lload_n hx hb dX0_toDouble_61 rfl (lv_at hl 2 rfl) ?_
          refine lv_lload hx hb dX0_toDouble_62 (lv_at hl 0 rfl) ?_
          refine lv_lor hx hb dX0_toDouble_64 ?_
          refine lv_topl (fun v38 e39 => ?_)
          refine lv_lstore_n (lv' := [(1, .long v38), (6, .long v31), (3, .double x9), (0, .ref p0), (5, .int ((nI j18)))]) hx hb dX0_toDouble_65 rfl hl (by decide) rfl (fun ls hl => ?_)
          refine lv_dload_n hx hb dX0_toDouble_66 rfl (lv_at hl 2 rfl) ?_
          refine lv_ldc2d (v := 4611686018427387904) hx hb hown (hts (.constantDouble RX0 36 4611686018427387904) (by decide +kernel)) dX0_toDouble_67 ?_
          refine lv_dmul_any hd9 lw_bits hx hb dX0_toDouble_70 (fun r40 d41 _ hd42 => ?_)
          have hts := dr_words hts0 d41
          have hK : va_K D vwCl (zTy tc) (s.setDrawn d41) := hK
          have hE : zE z0 (zA [] L s.heap.size) (s.setDrawn d41) := hE0.next (locs := []) (State.WarmedH.refl s) va_S.rf (fun _ h => h)
          have hown : (s.setDrawn d41).vm.findClass RX0 = some m.cls := hown
          have hM : zM p (s.setDrawn d41) m c cX0_toDouble _ wsX0_toDouble RX0 D tc := ⟨hx, hb, hts, hown, hK⟩
          have hI : zI D tc (zA [] L s.heap.size) (s.setDrawn d41).heap [] L κ g _ _ := hI
          refine lv_dstore_n (lv' := [(3, .double r40), (1, .long v38), (6, .long v31), (0, .ref p0), (5, .int ((nI j18)))]) hx hb dX0_toDouble_71 rfl hl (by decide) rfl (fun ls hl => ?_)
          exact hL72 d41 hd42 _ _ r40 v38 hI ls (lv_sub hl [2, 0, 1, 3, 4] rfl)
        · skip
          refine lv_ldc2 (v := 2) hx hb hown (hts (.constantLong RX0 34 (2)) (by decide +kernel)) dX0_toDouble_49 ?_
          refine lv_lload_n hx hb dX0_toDouble_52 rfl (lv_at hl 2 rfl) ?_
          refine lv_lmul hx hb dX0_toDouble_53 ?_
          refine lv_topl (fun v43 e44 => ?_)
          refine lv_lload hx hb dX0_toDouble_54 (lv_at hl 0 rfl) ?_
          refine lv_ladd hx hb dX0_toDouble_56 ?_
          refine lv_topl (fun v45 e46 => ?_)
          refine lv_lstore_n (lv' := [(1, .long v45), (6, .long v31), (3, .double x9), (0, .ref p0), (5, .int ((nI j18)))]) hx hb dX0_toDouble_57 rfl hl (by decide) rfl (fun ls hl => ?_)
          refine lv_goto (tgt := 72) hx hb dX0_toDouble_58 (by decide) ?_
          exact hL72 d9 hd9 _ _ x9 v45 hI ls (lv_sub hl [1, 2, 0, 3, 4] rfl)
  exact hL16 ((n5 * 32) + 1) s.drawn hd0 _ _ v1 0 (n5 * 32) (by first | omega | (simp only [] at *; omega)) (by first | omega | (simp only [] at *; omega)) hI ls (lv_sub hl [1, 2, 3, 0] rfl)

set_option maxHeartbeats 4000000 in
set_option maxRecDepth 100000 in
theorem c_X8_busyShare (l : Launch) (D : va_G) (tc : Nat → ClassId) (z0 : Nat) (L : List Nat) (κ : Nat → Nat) (g : Nat → Nat → Value) (sz : Nat) (p0 : Nat) (hk0 : κ p0 = 10) (aC : Nat) (hC : g p0 1 = .ref aC) (hs9 : ∃ j : Nat, j < 6 ∧ g aC j ≠ .null) : MetD lw_cs l yX8_busyShare wsX8_busyShare ({ frames := 1, cells := 0, slots := 0, locals := 25 }) (zPc D tc z0 [.ref p0] [] (L, κ, g) sz) (va_Qf (fun (r : UInt32) (u : zS) => u = (L, κ, g)) (fun (u : zS) (t : State) => zB D tc (zA [] L sz) [] u t) (zA [] L sz)) 0 0 (zA [] L sz) := by
  refine MetD.ofW (cc := cX8_busyShare) (maxL := 7) (ret := (some .float)) (by decide) rfl ?_
  intro p e s m args below meth c s₁ B hml hv hd0
  obtain ⟨rfl, rfl, hK, hE, hI⟩ := hv.opn
  show W p l e _ s m _ below meth c s.heap [] 0 0 _ _
  have hx := B.exec
  have hb := B.bytes
  have hr := B.returns
  have hts := atoms_spec (ws := wsX8_busyShare) B.pre
  have hts0 := hts
  have hE0 := hE
  have hown : s.vm.findClass RX8 = some m.cls := findClass_of_methodNamed B.named
  have hlocks := B.notSynchronized
  have hM : zM p s m c cX8_busyShare _ wsX8_busyShare RX8 D tc := ⟨hx, hb, hts, hown, hK⟩
  have hinX8 : ∀ w ∈ wsX80, w ∈ wsX8_busyShare := by decide +kernel
  have hinX3 : ∀ w ∈ wsX30, w ∈ wsX8_busyShare := by decide +kernel
  have hl := lv_entry ([.ref p0]) (n := 7) (Nat.le_of_ble_eq_true rfl)
  rw [lg_entry_eq]
  generalize (lg_sl ([.ref p0]) ++ List.replicate (7 - (lg_sl ([.ref p0])).length) Slot.unset).toArray = ls at hl ⊢
  have hl : lv_has ls 7 [(0, .ref p0)] := hl
  refine lv_iconst (v := 0) hx hb dX8_busyShare_0 (by decide) ?_
  refine lv_istore_n (lv' := [(1, .int 0), (0, .ref p0)]) hx hb dX8_busyShare_1 rfl hl (by decide) rfl (fun ls hl => ?_)
  refine lv_iconst (v := 0) hx hb dX8_busyShare_2 (by decide) ?_
  refine lv_istore_n (lv' := [(2, .int 0), (1, .int 0), (0, .ref p0)]) hx hb dX8_busyShare_3 rfl hl (by decide) rfl (fun ls hl => ?_)
  refine lv_aload_n hx hb dX8_busyShare_4 rfl (lv_at hl 2 rfl) ?_
  refine z_get (k := 10) (j := 1) hM hI hk0 rfl rfl hinX8 rfl (by decide) (by decide +kernel) (fun _ h9 => h9) dX8_busyShare_5 (fun v1 hv2 => ?_)
  obtain ⟨hg4, i3, rfl, hr5⟩ := hv2
  obtain rfl : aC = i3 := Value.ref.inj ((hC).symm.trans hg4.symm)
  refine lv_astore_n (lv' := [(3, .ref aC), (2, .int 0), (1, .int 0), (0, .ref p0)]) hx hb dX8_busyShare_8 rfl hl (by decide) rfl (fun ls hl => ?_)
  refine lv_aload_n hx hb dX8_busyShare_9 rfl (lv_at hl 0 rfl) ?_
  refine z_alen (v := 6) hM hI hr5 rfl rfl rfl (by decide) dX8_busyShare_10 ?_
  refine lv_istore (lv' := [(4, .int 6), (3, .ref aC), (2, .int 0), (1, .int 0), (0, .ref p0)]) hx hb dX8_busyShare_11 hl (by decide) rfl (fun ls hl => ?_)
  refine lv_iconst (v := 0) hx hb dX8_busyShare_13 (by decide) ?_
  refine lv_istore (lv' := [(5, .int 0), (4, .int 6), (3, .ref aC), (2, .int 0), (1, .int 0), (0, .ref p0)]) hx hb dX8_busyShare_14 hl (by decide) rfl (fun ls hl => ?_)
  have hL16 : ∀ (n : Nat) (H : Heap) (locs : List Loc) (x6 : Int32) (x7 : Int32)  (i8 : Nat) (hi : i8 ≤ 6) (hn : 6 - i8 < n)  (hcnt : ∃ k : Nat, x7 = nI k ∧ k ≤ i8 ∧ (k = 0 → ∀ j : Nat, j < i8 → g aC j = .null)) (hI : zI D tc (zA [] L s.heap.size) s.heap [] L κ g H locs) (ls : Array Slot) (hl : lv_has ls 7 [(4, .int 6), (3, .ref aC), (2, .int x6), (1, .int x7), (0, .ref p0), (5, .int ((nI i8)))]), W p l e (headSpec wsX8_busyShare ({ frames := 1, cells := 0, slots := 0, locals := 25 })).room s m ([.ref p0] : List Value).toArray below meth c H locs 0 0 (MQD lw_cs below (va_Qf (fun (r : UInt32) (u : zS) => u = (L, κ, g)) (fun (u : zS) (t : State) => zB D tc (zA [] L s.heap.size) [] u t) (zA [] L s.heap.size)) ([.ref p0] : List Value).toArray s 0 0 (zA [] L s.heap.size)) (F0 m 16 ls []) := by
    intro n
    induction n with
    | zero => intro H locs x6 x7 i8 hi hn hcnt hI ls hl; exact absurd hn (Nat.not_lt_zero _)
    | succ n ih =>
      intro H locs x6 x7 i8 hi hn hcnt hI ls hl
      refine lv_iload hx hb dX8_busyShare_16 (lv_at hl 5 rfl) ?_
      refine lv_iload hx hb dX8_busyShare_18 (lv_at hl 0 rfl) ?_
      refine lv_icmp_ge (tgt := 63) hx hb dX8_busyShare_20 (by decide) (fun c9 => ?_) (fun c9 => ?_)
      · skip
        have hgec9 : 6 ≤ i8 := z_ge (by omega) (by omega) c9
        refine lv_iload_n hx hb dX8_busyShare_63 rfl (lv_at hl 3 rfl) ?_
        refine lv_if_ne (tgt := 78) hx hb dX8_busyShare_64 (by decide) (fun c10 => ?_) (fun c10 => ?_)
        · skip
          refine lv_iload_n hx hb dX8_busyShare_78 rfl (lv_at hl 2 rfl) ?_
          refine lv_i2f hx hb dX8_busyShare_79 ?_
          refine lv_topf (fun v11 e12 => ?_)
          refine lv_iload_n hx hb dX8_busyShare_80 rfl (lv_at hl 3 rfl) ?_
          refine lv_i2f hx hb dX8_busyShare_81 ?_
          refine lv_topf (fun v13 e14 => ?_)
          refine W.base ?_
          refine lv_fdiv_any hd0 lw_bits hx hb dX8_busyShare_82 (fun r15 d16 _ hd17 => ?_)
          have hts := dr_words hts0 d16
          have hK : va_K D vwCl (zTy tc) (s.setDrawn d16) := hK
          have hE : zE z0 (zA [] L s.heap.size) (s.setDrawn d16) := hE0.next (locs := []) (State.WarmedH.refl s) va_S.rf (fun _ h => h)
          have hown : (s.setDrawn d16).vm.findClass RX8 = some m.cls := hown
          have hM : zM p (s.setDrawn d16) m c cX8_busyShare _ wsX8_busyShare RX8 D tc := ⟨hx, hb, hts, hown, hK⟩
          have hI : zI D tc (zA [] L s.heap.size) (s.setDrawn d16).heap [] L κ g _ _ := hI
          refine W.endD hd17 ?_
          exact W.fret (v := r15) hx hb hr (fun t ht hW => ⟨⟨_, (L, κ, g), rfl, rfl, z_end hK hI ht hW⟩, z_F hI ht⟩) (z_locs hI) dX8_busyShare_83
        · skip
          exact absurd c10 (z_cntE hcnt (by omega) (by omega) hs9)
      · skip
        have hltc9 : i8 < 6 := z_lt (by omega) c9
        refine lv_aload_n hx hb dX8_busyShare_23 rfl (lv_at hl 1 rfl) ?_
        refine lv_iload hx hb dX8_busyShare_24 (lv_at hl 5 rfl) ?_
        refine z_aald hM hI hr5 rfl rfl rfl (vp_in_nI (by omega) (by omega)) dX8_busyShare_26 (fun x18 hv19 => ?_)
        obtain ⟨hghv19, hn22 | ⟨r20, hn22, hr21⟩⟩ := hv19
        · rw [hn22]
          rw [hn22] at hghv19
          refine lv_astoreN (lv' := [(6, .null), (4, .int 6), (3, .ref aC), (2, .int x6), (1, .int x7), (0, .ref p0), (5, .int ((nI i8)))]) hx hb dX8_busyShare_27 hl (by decide) rfl (fun ls hl => ?_)
          refine lv_aloadN hx hb dX8_busyShare_29 (lv_at hl 0 rfl) ?_
          refine lv_ifnullN (tgt := 57) hx hb dX8_busyShare_31 (by decide) ?_
          refine lv_iinc (v := nI (i8 + 1)) (lv' := [(5, .int ((nI (i8 + 1)))), (6, .null), (4, .int 6), (3, .ref aC), (2, .int x6), (1, .int x7), (0, .ref p0)]) hx hb dX8_busyShare_57 hl (k := 6) rfl (z_inc i8) (by decide) rfl (fun ls hl => ?_)
          refine lv_goto (tgt := 16) hx hb dX8_busyShare_60 (by decide) ?_
          exact ih _ _ x6 x7 (i8 + 1) (by first | omega | (simp only [] at *; omega)) (by first | omega | (simp only [] at *; omega)) (by first | exact ⟨0, rfl, Nat.le_refl _, fun _ j hj => absurd hj (Nat.not_lt_zero _)⟩ | exact z_cnt0 hcnt (z_nl (by omega) (by assumption)) | exact z_cnt1 hcnt (by assumption)) hI ls (lv_sub hl [2, 3, 4, 5, 6, 0] rfl)
        · rw [hn22]
          rw [hn22] at hghv19
          refine lv_astore (lv' := [(6, .ref r20), (4, .int 6), (3, .ref aC), (2, .int x6), (1, .int x7), (0, .ref p0), (5, .int ((nI i8)))]) hx hb dX8_busyShare_27 hl (by decide) rfl (fun ls hl => ?_)
          refine lv_aload hx hb dX8_busyShare_29 (lv_at hl 0 rfl) ?_
          refine lv_ifnull hx hb dX8_busyShare_31 ?_
          obtain ⟨v23, e24⟩ : ∃ y : Int32, y = x7 + Int32.ofInt (1) := ⟨_, rfl⟩
          refine lv_iinc (v := v23) (lv' := [(1, .int v23), (6, .ref r20), (4, .int 6), (3, .ref aC), (2, .int x6), (0, .ref p0), (5, .int ((nI i8)))]) hx hb dX8_busyShare_34 hl (k := 4) rfl e24.symm (by decide) rfl (fun ls hl => ?_)
          refine lv_iload_n hx hb dX8_busyShare_37 rfl (lv_at hl 4 rfl) ?_
          refine lv_aload_n hx hb dX8_busyShare_38 rfl (lv_at hl 5 rfl) ?_
          refine lv_aload hx hb dX8_busyShare_39 (lv_at hl 1 rfl) ?_
          refine z_get (k := 5) (j := 0) hM hI hr21 rfl rfl hinX3 rfl (by decide) (by decide +kernel) (fun _ h9 => h9) dX8_busyShare_41 (fun v25 hv26 => ?_)
          obtain ⟨i27, rfl⟩ := hv26
          refine va_csq (W.runV (As := [.int i27]) (rest := [.int x6]) ⟨hx, hb, hml, hown, hts⟩ (c_X8_runningOn l _ _ _ _ _ _ _ p0 hk0 i27) (cwV 1 hts gX8_busyShare_X8_runningOn rfl rfl rfl (by decide +kernel) ⟨Nat.le_of_ble_eq_true rfl, Nat.le_of_ble_eq_true rfl⟩) (z_preV hK hE hI [] rfl rfl (z_recv hK hI hk0 rfl rfl)) rfl rfl hl.1 rfl (lv_room (Nat.le_of_ble_eq_true rfl)) dX8_busyShare_44 ⟨Nat.le_of_ble_eq_true rfl, Nat.le_of_ble_eq_true rfl⟩) (fun v28 hw29 => ?_)
          rcases v28 with _ | r30
          · show W p l e (headSpec wsX8_busyShare ({ frames := 1, cells := 0, slots := 0, locals := 25 })).room s m ([.ref p0] : List Value).toArray below meth c _ _ _ _ (MQD lw_cs below (va_Qf (fun (r : UInt32) (u : zS) => u = (L, κ, g)) (fun (u : zS) (t : State) => zB D tc (zA [] L s.heap.size) [] u t) (zA [] L s.heap.size)) ([.ref p0] : List Value).toArray s 0 0 (zA [] L s.heap.size)) (F0 m 47 ls (.null :: [.int x6]))
            skip
            have hL55 : ∀ (H : Heap) (locs : List Loc) (y32 : Int32) (y33 : Int32)    (hI : zI D tc (zA [] L s.heap.size) s.heap [] L κ g H locs) (ls : Array Slot) (hl : lv_has ls 7 [(1, .int v23), (6, .ref r20), (4, .int 6), (3, .ref aC), (2, .int x6), (0, .ref p0), (5, .int ((nI i8)))]), W p l e (headSpec wsX8_busyShare ({ frames := 1, cells := 0, slots := 0, locals := 25 })).room s m ([.ref p0] : List Value).toArray below meth c H locs 0 0 (MQD lw_cs below (va_Qf (fun (r : UInt32) (u : zS) => u = (L, κ, g)) (fun (u : zS) (t : State) => zB D tc (zA [] L s.heap.size) [] u t) (zA [] L s.heap.size)) ([.ref p0] : List Value).toArray s 0 0 (zA [] L s.heap.size)) (F0 m 55 ls [.int y32, .int y33]) := by
              intro H locs y32 y33 hI ls hl
              refine lv_iadd hx hb dX8_busyShare_55 ?_
              refine lv_topi (fun v34 e35 => ?_)
              refine lv_istore_n (lv' := [(2, .int v34), (1, .int v23), (6, .ref r20), (4, .int 6), (3, .ref aC), (0, .ref p0), (5, .int ((nI i8)))]) hx hb dX8_busyShare_56 rfl hl (by decide) rfl (fun ls hl => ?_)
              refine lv_iinc (v := nI (i8 + 1)) (lv' := [(5, .int ((nI (i8 + 1)))), (2, .int v34), (1, .int v23), (6, .ref r20), (4, .int 6), (3, .ref aC), (0, .ref p0)]) hx hb dX8_busyShare_57 hl (k := 6) rfl (z_inc i8) (by decide) rfl (fun ls hl => ?_)
              refine lv_goto (tgt := 16) hx hb dX8_busyShare_60 (by decide) ?_
              exact ih _ _ v34 v23 (i8 + 1) (by first | omega | (simp only [] at *; omega)) (by first | omega | (simp only [] at *; omega)) (by first | exact ⟨0, rfl, Nat.le_refl _, fun _ j hj => absurd hj (Nat.not_lt_zero _)⟩ | exact z_cnt0 hcnt (z_nl (by omega) (by assumption)) | exact z_cnt1 hcnt (by assumption)) hI ls (lv_sub hl [4, 5, 1, 2, 6, 0] rfl)
            refine lv_ifnullN (tgt := 54) hx hb dX8_busyShare_47 (by decide) ?_
            refine lv_iconst (v := 0) hx hb dX8_busyShare_54 (by decide) ?_
            exact hL55 _ _ 0 x6 hI ls (lv_sub hl [0, 1, 2, 3, 4, 5, 6] rfl)
          · show W p l e (headSpec wsX8_busyShare ({ frames := 1, cells := 0, slots := 0, locals := 25 })).room s m ([.ref p0] : List Value).toArray below meth c _ _ _ _ (MQD lw_cs below (va_Qf (fun (r : UInt32) (u : zS) => u = (L, κ, g)) (fun (u : zS) (t : State) => zB D tc (zA [] L s.heap.size) [] u t) (zA [] L s.heap.size)) ([.ref p0] : List Value).toArray s 0 0 (zA [] L s.heap.size)) (F0 m 47 ls (.ref r30 :: [.int x6]))
            have hr31 : κ r30 = 9 := hw29 _ rfl
            have hL55 : ∀ (H : Heap) (locs : List Loc) (y36 : Int32) (y37 : Int32)    (hI : zI D tc (zA [] L s.heap.size) s.heap [] L κ g H locs) (ls : Array Slot) (hl : lv_has ls 7 [(1, .int v23), (6, .ref r20), (4, .int 6), (3, .ref aC), (2, .int x6), (0, .ref p0), (5, .int ((nI i8)))]), W p l e (headSpec wsX8_busyShare ({ frames := 1, cells := 0, slots := 0, locals := 25 })).room s m ([.ref p0] : List Value).toArray below meth c H locs 0 0 (MQD lw_cs below (va_Qf (fun (r : UInt32) (u : zS) => u = (L, κ, g)) (fun (u : zS) (t : State) => zB D tc (zA [] L s.heap.size) [] u t) (zA [] L s.heap.size)) ([.ref p0] : List Value).toArray s 0 0 (zA [] L s.heap.size)) (F0 m 55 ls [.int y36, .int y37]) := by
              intro H locs y36 y37 hI ls hl
              refine lv_iadd hx hb dX8_busyShare_55 ?_
              refine lv_topi (fun v38 e39 => ?_)
              refine lv_istore_n (lv' := [(2, .int v38), (1, .int v23), (6, .ref r20), (4, .int 6), (3, .ref aC), (0, .ref p0), (5, .int ((nI i8)))]) hx hb dX8_busyShare_56 rfl hl (by decide) rfl (fun ls hl => ?_)
              refine lv_iinc (v := nI (i8 + 1)) (lv' := [(5, .int ((nI (i8 + 1)))), (2, .int v38), (1, .int v23), (6, .ref r20), (4, .int 6), (3, .ref aC), (0, .ref p0)]) hx hb dX8_busyShare_57 hl (k := 6) rfl (z_inc i8) (by decide) rfl (fun ls hl => ?_)
              refine lv_goto (tgt := 16) hx hb dX8_busyShare_60 (by decide) ?_
              exact ih _ _ v38 v23 (i8 + 1) (by first | omega | (simp only [] at *; omega)) (by first | omega | (simp only [] at *; omega)) (by first | exact ⟨0, rfl, Nat.le_refl _, fun _ j hj => absurd hj (Nat.not_lt_zero _)⟩ | exact z_cnt0 hcnt (z_nl (by omega) (by assumption)) | exact z_cnt1 hcnt (by assumption)) hI ls (lv_sub hl [4, 5, 1, 2, 6, 0] rfl)
            refine lv_ifnull hx hb dX8_busyShare_47 ?_
            refine lv_iconst (v := 1) hx hb dX8_busyShare_50 (by decide) ?_
            refine lv_goto (tgt := 55) hx hb dX8_busyShare_51 (by decide) ?_
            exact hL55 _ _ 1 x6 hI ls (lv_sub hl [0, 1, 2, 3, 4, 5, 6] rfl)
  exact hL16 (6 + 1) _ _ 0 0 0 (by first | omega | (simp only [] at *; omega)) (by first | omega | (simp only [] at *; omega)) (by first | exact ⟨0, rfl, Nat.le_refl _, fun _ j hj => absurd hj (Nat.not_lt_zero _)⟩ | exact z_cnt0 hcnt (z_nl (by omega) (by assumption)) | exact z_cnt1 hcnt (by assumption)) hI ls (lv_sub hl [1, 2, 3, 4, 5, 0] rfl)

set_option maxHeartbeats 4000000 in
set_option maxRecDepth 100000 in
theorem c_X8_meanDegrees (l : Launch) (D : va_G) (tc : Nat → ClassId) (z0 : Nat) (L : List Nat) (κ : Nat → Nat) (g : Nat → Nat → Value) (sz : Nat) (p0 : Nat) (hk0 : κ p0 = 10) (aC : Nat) (hC : g p0 1 = .ref aC) (hs9 : ∃ j : Nat, j < 6 ∧ g aC j ≠ .null) : MetD lw_cs l yX8_meanDegrees wsX8_meanDegrees ({ frames := 3, cells := 0, slots := 0, locals := 70 }) (zPc D tc z0 [.ref p0] [] (L, κ, g) sz) (va_Qd (fun (r : UInt64) (u : zS) => u = (L, κ, g)) (fun (u : zS) (t : State) => zB D tc (zA [] L sz) [] u t) (zA [] L sz)) 0 0 (zA [] L sz) := by
  refine MetD.ofW (cc := cX8_meanDegrees) (maxL := 6) (ret := (some .double)) (by decide) rfl ?_
  intro p e s m args below meth c s₁ B hml hv hd0
  obtain ⟨rfl, rfl, hK, hE, hI⟩ := hv.opn
  show W p l e _ s m _ below meth c s.heap [] 0 0 _ _
  have hx := B.exec
  have hb := B.bytes
  have hr := B.returns
  have hts := atoms_spec (ws := wsX8_meanDegrees) B.pre
  have hts0 := hts
  have hE0 := hE
  have hown : s.vm.findClass RX8 = some m.cls := findClass_of_methodNamed B.named
  have hlocks := B.notSynchronized
  have hM : zM p s m c cX8_meanDegrees _ wsX8_meanDegrees RX8 D tc := ⟨hx, hb, hts, hown, hK⟩
  have hinX8 : ∀ w ∈ wsX80, w ∈ wsX8_meanDegrees := by decide +kernel
  have hinX3 : ∀ w ∈ wsX30, w ∈ wsX8_meanDegrees := by decide +kernel
  have hinX1 : ∀ w ∈ wsX10, w ∈ wsX8_meanDegrees := by decide +kernel
  have hl := lv_entry ([.ref p0]) (n := 6) (Nat.le_of_ble_eq_true rfl)
  rw [lg_entry_eq]
  generalize (lg_sl ([.ref p0]) ++ List.replicate (6 - (lg_sl ([.ref p0])).length) Slot.unset).toArray = ls at hl ⊢
  have hl : lv_has ls 6 [(0, .ref p0)] := hl
  refine lv_iconst (v := 0) hx hb dX8_meanDegrees_0 (by decide) ?_
  refine lv_istore_n (lv' := [(1, .int 0), (0, .ref p0)]) hx hb dX8_meanDegrees_1 rfl hl (by decide) rfl (fun ls hl => ?_)
  refine lv_aload_n hx hb dX8_meanDegrees_2 rfl (lv_at hl 1 rfl) ?_
  refine z_get (k := 10) (j := 7) hM hI hk0 rfl rfl hinX8 rfl (by decide) (by decide +kernel) (fun _ h9 => h9) dX8_meanDegrees_3 (fun v1 hv2 => ?_)
  obtain ⟨i3, rfl, hr4⟩ := hv2
  refine lv_iconst (v := 0) hx hb dX8_meanDegrees_6 (by decide) ?_
  refine z_cv hI (va_runV (As := [.int 0]) (rest := []) ⟨hx, hb, hml, hown, hts⟩ (c_X0_become l _ _ _ _ _ _ _ i3 hr4 0) (cwV 1 hts gX8_meanDegrees_X0_become rfl rfl rfl (by decide +kernel) ⟨Nat.le_of_ble_eq_true rfl, Nat.le_of_ble_eq_true rfl⟩) (z_preV hK hE hI [] rfl rfl (z_recv hK hI hr4 rfl rfl)) rfl rfl hl.1 rfl (lv_room (Nat.le_of_ble_eq_true rfl)) dX8_meanDegrees_7 ⟨Nat.le_of_ble_eq_true rfl, Nat.le_of_ble_eq_true rfl⟩) (fun u H locs hw6 hI => ?_)
  obtain rfl := hw6
  refine lv_aload_n hx hb dX8_meanDegrees_10 rfl (lv_at hl 1 rfl) ?_
  refine z_get (k := 10) (j := 1) hM hI hk0 rfl rfl hinX8 rfl (by decide) (by decide +kernel) (fun _ h9 => h9) dX8_meanDegrees_11 (fun v7 hv8 => ?_)
  obtain ⟨hg10, i9, rfl, hr11⟩ := hv8
  obtain rfl : aC = i9 := Value.ref.inj ((hC).symm.trans hg10.symm)
  refine lv_astore_n (lv' := [(2, .ref aC), (1, .int 0), (0, .ref p0)]) hx hb dX8_meanDegrees_14 rfl hl (by decide) rfl (fun ls hl => ?_)
  refine lv_aload_n hx hb dX8_meanDegrees_15 rfl (lv_at hl 0 rfl) ?_
  refine z_alen (v := 6) hM hI hr11 rfl rfl rfl (by decide) dX8_meanDegrees_16 ?_
  refine lv_istore_n (lv' := [(3, .int 6), (2, .ref aC), (1, .int 0), (0, .ref p0)]) hx hb dX8_meanDegrees_17 rfl hl (by decide) rfl (fun ls hl => ?_)
  refine lv_iconst (v := 0) hx hb dX8_meanDegrees_18 (by decide) ?_
  refine lv_istore (lv' := [(4, .int 0), (3, .int 6), (2, .ref aC), (1, .int 0), (0, .ref p0)]) hx hb dX8_meanDegrees_19 hl (by decide) rfl (fun ls hl => ?_)
  have hL21 : ∀ (n : Nat) (H : Heap) (locs : List Loc) (x12 : Int32)  (i13 : Nat) (hi : i13 ≤ 6) (hn : 6 - i13 < n)  (hcnt : ∃ k : Nat, x12 = nI k ∧ k ≤ i13 ∧ (k = 0 → ∀ j : Nat, j < i13 → g aC j = .null)) (hI : zI D tc (zA [] L s.heap.size) s.heap [] L κ g H locs) (ls : Array Slot) (hl : lv_has ls 6 [(3, .int 6), (2, .ref aC), (1, .int x12), (0, .ref p0), (4, .int ((nI i13)))]), W p l e (headSpec wsX8_meanDegrees ({ frames := 3, cells := 0, slots := 0, locals := 70 })).room s m ([.ref p0] : List Value).toArray below meth c H locs 0 0 (MQD lw_cs below (va_Qd (fun (r : UInt64) (u : zS) => u = (L, κ, g)) (fun (u : zS) (t : State) => zB D tc (zA [] L s.heap.size) [] u t) (zA [] L s.heap.size)) ([.ref p0] : List Value).toArray s 0 0 (zA [] L s.heap.size)) (F0 m 21 ls []) := by
    intro n
    induction n with
    | zero => intro H locs x12 i13 hi hn hcnt hI ls hl; exact absurd hn (Nat.not_lt_zero _)
    | succ n ih =>
      intro H locs x12 i13 hi hn hcnt hI ls hl
      refine lv_iload hx hb dX8_meanDegrees_21 (lv_at hl 4 rfl) ?_
      refine lv_iload_n hx hb dX8_meanDegrees_23 rfl (lv_at hl 0 rfl) ?_
      refine lv_icmp_ge (tgt := 62) hx hb dX8_meanDegrees_24 (by decide) (fun c14 => ?_) (fun c14 => ?_)
      · skip
        have hgec14 : 6 ≤ i13 := z_ge (by omega) (by omega) c14
        refine lv_iload_n hx hb dX8_meanDegrees_62 rfl (lv_at hl 2 rfl) ?_
        refine lv_if_ne (tgt := 77) hx hb dX8_meanDegrees_63 (by decide) (fun c15 => ?_) (fun c15 => ?_)
        · skip
          refine lv_aload_n hx hb dX8_meanDegrees_77 rfl (lv_at hl 3 rfl) ?_
          refine z_get (k := 10) (j := 7) hM hI hk0 rfl rfl hinX8 rfl (by decide) (by decide +kernel) (fun _ h9 => h9) dX8_meanDegrees_78 (fun v16 hv17 => ?_)
          obtain ⟨i18, rfl, hr19⟩ := hv17
          refine W.base ?_
          refine va_calldD hd0 (va_runV_D (As := []) (rest := []) ⟨hx, hb, hml, hown, dr_words hts _⟩ (c_X0_toDouble l _ _ _ _ _ _ _ i18 hr19) (cwV 0 (dr_words hts _) gX8_meanDegrees_X0_toDouble rfl rfl rfl (by decide +kernel) ⟨Nat.le_of_ble_eq_true rfl, Nat.le_of_ble_eq_true rfl⟩) (z_preV hK hE hI [] rfl rfl (z_recv hK hI hr19 rfl rfl)) rfl rfl hl.1 rfl (lv_room (Nat.le_of_ble_eq_true rfl)) dX8_meanDegrees_81 ⟨Nat.le_of_ble_eq_true rfl, Nat.le_of_ble_eq_true rfl⟩) hI.2.1 (fun q _ h => z_sub hI [] rfl rfl q h) (z_sub hI [] rfl rfl) (fun r20 u t H locs ht hvm hw hB hz1 hk1 hS1 d21 hd22 => ?_)
          have hI := z_back hI ht hB hS1
          obtain rfl := hw
          have hts := dr_words hts0 d21
          have hK : va_K D vwCl (zTy tc) (s.setDrawn d21) := hK
          have hE : zE z0 (zA [] L s.heap.size) (s.setDrawn d21) := hE0.next (locs := []) (State.WarmedH.refl s) va_S.rf (fun _ h => h)
          have hown : (s.setDrawn d21).vm.findClass RX8 = some m.cls := hown
          have hM : zM p (s.setDrawn d21) m c cX8_meanDegrees _ wsX8_meanDegrees RX8 D tc := ⟨hx, hb, hts, hown, hK⟩
          have hI : zI D tc (zA [] L s.heap.size) (s.setDrawn d21).heap [] L κ g _ _ := hI
          refine lv_iload_n hx hb dX8_meanDegrees_84 rfl (lv_at hl 2 rfl) ?_
          refine lv_i2d hx hb dX8_meanDegrees_85 ?_
          refine lv_topd (fun v23 e24 => ?_)
          refine lv_ddiv_any hd22 lw_bits hx hb dX8_meanDegrees_86 (fun r25 d26 _ hd27 => ?_)
          have hts := dr_words hts0 d26
          have hK : va_K D vwCl (zTy tc) (s.setDrawn d26) := hK
          have hE : zE z0 (zA [] L s.heap.size) (s.setDrawn d26) := hE0.next (locs := []) (State.WarmedH.refl s) va_S.rf (fun _ h => h)
          have hown : (s.setDrawn d26).vm.findClass RX8 = some m.cls := hown
          have hM : zM p (s.setDrawn d26) m c cX8_meanDegrees _ wsX8_meanDegrees RX8 D tc := ⟨hx, hb, hts, hown, hK⟩
          have hI : zI D tc (zA [] L s.heap.size) (s.setDrawn d26).heap [] L κ g _ _ := hI
          refine W.endD hd27 ?_
          exact W.dret (v := r25) hx hb hr (fun t ht hW => ⟨⟨_, (L, κ, g), rfl, rfl, z_end hK hI ht hW⟩, z_F hI ht⟩) (z_locs hI) dX8_meanDegrees_87
        · skip
          exact absurd c15 (z_cntE hcnt (by omega) (by omega) hs9)
      · skip
        have hltc14 : i13 < 6 := z_lt (by omega) c14
        refine lv_aload_n hx hb dX8_meanDegrees_27 rfl (lv_at hl 1 rfl) ?_
        refine lv_iload hx hb dX8_meanDegrees_28 (lv_at hl 4 rfl) ?_
        refine z_aald hM hI hr11 rfl rfl rfl (vp_in_nI (by omega) (by omega)) dX8_meanDegrees_30 (fun x28 hv29 => ?_)
        obtain ⟨hghv29, hn32 | ⟨r30, hn32, hr31⟩⟩ := hv29
        · rw [hn32]
          rw [hn32] at hghv29
          refine lv_astoreN (lv' := [(5, .null), (3, .int 6), (2, .ref aC), (1, .int x12), (0, .ref p0), (4, .int ((nI i13)))]) hx hb dX8_meanDegrees_31 hl (by decide) rfl (fun ls hl => ?_)
          refine lv_aloadN hx hb dX8_meanDegrees_33 (lv_at hl 0 rfl) ?_
          refine lv_ifnullN (tgt := 56) hx hb dX8_meanDegrees_35 (by decide) ?_
          refine lv_iinc (v := nI (i13 + 1)) (lv' := [(4, .int ((nI (i13 + 1)))), (5, .null), (3, .int 6), (2, .ref aC), (1, .int x12), (0, .ref p0)]) hx hb dX8_meanDegrees_56 hl (k := 5) rfl (z_inc i13) (by decide) rfl (fun ls hl => ?_)
          refine lv_goto (tgt := 21) hx hb dX8_meanDegrees_59 (by decide) ?_
          exact ih _ _ x12 (i13 + 1) (by first | omega | (simp only [] at *; omega)) (by first | omega | (simp only [] at *; omega)) (by first | exact ⟨0, rfl, Nat.le_refl _, fun _ j hj => absurd hj (Nat.not_lt_zero _)⟩ | exact z_cnt0 hcnt (z_nl (by omega) (by assumption)) | exact z_cnt1 hcnt (by assumption)) hI ls (lv_sub hl [2, 3, 4, 5, 0] rfl)
        · rw [hn32]
          rw [hn32] at hghv29
          refine lv_astore (lv' := [(5, .ref r30), (3, .int 6), (2, .ref aC), (1, .int x12), (0, .ref p0), (4, .int ((nI i13)))]) hx hb dX8_meanDegrees_31 hl (by decide) rfl (fun ls hl => ?_)
          refine lv_aload hx hb dX8_meanDegrees_33 (lv_at hl 0 rfl) ?_
          refine lv_ifnull hx hb dX8_meanDegrees_35 ?_
          obtain ⟨v33, e34⟩ : ∃ y : Int32, y = x12 + Int32.ofInt (1) := ⟨_, rfl⟩
          refine lv_iinc (v := v33) (lv' := [(1, .int v33), (5, .ref r30), (3, .int 6), (2, .ref aC), (0, .ref p0), (4, .int ((nI i13)))]) hx hb dX8_meanDegrees_38 hl (k := 3) rfl e34.symm (by decide) rfl (fun ls hl => ?_)
          refine lv_aload_n hx hb dX8_meanDegrees_41 rfl (lv_at hl 4 rfl) ?_
          refine z_get (k := 10) (j := 7) hM hI hk0 rfl rfl hinX8 rfl (by decide) (by decide +kernel) (fun _ h9 => h9) dX8_meanDegrees_42 (fun v35 hv36 => ?_)
          obtain ⟨i37, rfl, hr38⟩ := hv36
          refine lv_aload hx hb dX8_meanDegrees_45 (lv_at hl 1 rfl) ?_
          refine z_get (k := 5) (j := 15) hM hI hr31 rfl rfl hinX3 rfl (by decide) (by decide +kernel) (fun _ h9 => h9) dX8_meanDegrees_47 (fun v39 hv40 => ?_)
          obtain ⟨i41, rfl, hr42⟩ := hv40
          refine z_get (k := 3) (j := 2) hM hI hr42 rfl rfl hinX1 rfl (by decide) (by decide +kernel) (fun _ h9 => h9) dX8_meanDegrees_50 (fun v43 hv44 => ?_)
          obtain ⟨i45, rfl, hr46⟩ := hv44
          refine z_cv hI (va_runV (As := [.ref i45]) (rest := []) ⟨hx, hb, hml, hown, hts⟩ (c_X0_add l _ _ _ _ _ _ _ i37 hr38 i45 hr46) (cwV 1 hts gX8_meanDegrees_X0_add rfl rfl rfl (by decide +kernel) ⟨Nat.le_of_ble_eq_true rfl, Nat.le_of_ble_eq_true rfl⟩) (z_preV hK hE hI [] rfl rfl (z_recv hK hI hr38 rfl rfl)) rfl rfl hl.1 rfl (lv_room (Nat.le_of_ble_eq_true rfl)) dX8_meanDegrees_53 ⟨Nat.le_of_ble_eq_true rfl, Nat.le_of_ble_eq_true rfl⟩) (fun u H locs hw48 hI => ?_)
          obtain rfl := hw48
          refine lv_iinc (v := nI (i13 + 1)) (lv' := [(4, .int ((nI (i13 + 1)))), (1, .int v33), (5, .ref r30), (3, .int 6), (2, .ref aC), (0, .ref p0)]) hx hb dX8_meanDegrees_56 hl (k := 5) rfl (z_inc i13) (by decide) rfl (fun ls hl => ?_)
          refine lv_goto (tgt := 21) hx hb dX8_meanDegrees_59 (by decide) ?_
          exact ih _ _ v33 (i13 + 1) (by first | omega | (simp only [] at *; omega)) (by first | omega | (simp only [] at *; omega)) (by first | exact ⟨0, rfl, Nat.le_refl _, fun _ j hj => absurd hj (Nat.not_lt_zero _)⟩ | exact z_cnt0 hcnt (z_nl (by omega) (by assumption)) | exact z_cnt1 hcnt (by assumption)) hI ls (lv_sub hl [3, 4, 1, 5, 0] rfl)
  exact hL21 (6 + 1) _ _ 0 0 (by first | omega | (simp only [] at *; omega)) (by first | omega | (simp only [] at *; omega)) (by first | exact ⟨0, rfl, Nat.le_refl _, fun _ j hj => absurd hj (Nat.not_lt_zero _)⟩ | exact z_cnt0 hcnt (z_nl (by omega) (by assumption)) | exact z_cnt1 hcnt (by assumption)) hI ls (lv_sub hl [1, 2, 3, 4, 0] rfl)

set_option maxHeartbeats 4000000 in
set_option maxRecDepth 100000 in
theorem c_X8_busyShare_no (l : Launch) (hnt : l.stackTraces = false) (D : va_G) (tc : Nat → ClassId) (z0 : Nat) (L : List Nat) (κ : Nat → Nat) (g : Nat → Nat → Value) (sz : Nat) (p0 : Nat) (hk0 : κ p0 = 10) (aC : Nat) (hC : g p0 1 = .ref aC) (hn9 : ∀ j : Nat, j < 6 → g aC j = .null) : vx_Met l yX8_busyShare wsX8_busyShare ({ frames := 6, cells := 1, slots := 6, locals := 98 }) (zPc D tc z0 [.ref p0] [] (L, κ, g) sz) (va_Qf (fun (r : UInt32) (u : zS) => False) (fun (u : zS) (t : State) => zB D tc (zA [] L sz) [] u t) (zA [] L sz)) (vx_X (fun u : zS => True) (fun (E : String) (u : zS) (t : State) => (E = "java/util/NoSuchElementException" ∧ u = (L, κ, g)) ∧ zB D tc (zA [] L sz) [] u t) (zA [] L sz)) 1 6 (zA [] L sz) := by
  refine vx_ofW (cc := cX8_busyShare) (maxL := 7) (ret := (some .float)) (by decide) rfl ?_
  intro p e s m args below meth c s₁ B hml hxt hv
  obtain ⟨rfl, rfl, hK, hE, hI⟩ := hv.opn
  have hx := B.exec
  have hb := B.bytes
  have hr := B.returns
  have hts := atoms_spec (ws := wsX8_busyShare) B.pre
  have hown : s.vm.findClass RX8 = some m.cls := findClass_of_methodNamed B.named
  have hlocks := B.notSynchronized
  have hout : ∀ (i : Nat), ∀ x ∈ c.exceptionTable.toList, covers x i = false := fun i x hx9 => (hxt x hx9).elim
  have hM : zM p s m c cX8_busyShare _ wsX8_busyShare RX8 D tc := ⟨hx, hb, hts, hown, hK⟩
  have hinX8 : ∀ w ∈ wsX80, w ∈ wsX8_busyShare := by decide +kernel
  have hl := lv_entry ([.ref p0]) (n := 7) (Nat.le_of_ble_eq_true rfl)
  rw [lg_entry_eq]
  generalize (lg_sl ([.ref p0]) ++ List.replicate (7 - (lg_sl ([.ref p0])).length) Slot.unset).toArray = ls at hl ⊢
  have hl : lv_has ls 7 [(0, .ref p0)] := hl
  refine lv_iconst (v := 0) hx hb dX8_busyShare_0 (by decide) ?_
  refine lv_istore_n (lv' := [(1, .int 0), (0, .ref p0)]) hx hb dX8_busyShare_1 rfl hl (by decide) rfl (fun ls hl => ?_)
  refine lv_iconst (v := 0) hx hb dX8_busyShare_2 (by decide) ?_
  refine lv_istore_n (lv' := [(2, .int 0), (1, .int 0), (0, .ref p0)]) hx hb dX8_busyShare_3 rfl hl (by decide) rfl (fun ls hl => ?_)
  refine lv_aload_n hx hb dX8_busyShare_4 rfl (lv_at hl 2 rfl) ?_
  refine z_get (k := 10) (j := 1) hM hI hk0 rfl rfl hinX8 rfl (by decide) (by decide +kernel) (fun _ h9 => h9) dX8_busyShare_5 (fun v1 hv2 => ?_)
  obtain ⟨hg4, i3, rfl, hr5⟩ := hv2
  obtain rfl : aC = i3 := Value.ref.inj ((hC).symm.trans hg4.symm)
  refine lv_astore_n (lv' := [(3, .ref aC), (2, .int 0), (1, .int 0), (0, .ref p0)]) hx hb dX8_busyShare_8 rfl hl (by decide) rfl (fun ls hl => ?_)
  refine lv_aload_n hx hb dX8_busyShare_9 rfl (lv_at hl 0 rfl) ?_
  refine z_alen (v := 6) hM hI hr5 rfl rfl rfl (by decide) dX8_busyShare_10 ?_
  refine lv_istore (lv' := [(4, .int 6), (3, .ref aC), (2, .int 0), (1, .int 0), (0, .ref p0)]) hx hb dX8_busyShare_11 hl (by decide) rfl (fun ls hl => ?_)
  refine lv_iconst (v := 0) hx hb dX8_busyShare_13 (by decide) ?_
  refine lv_istore (lv' := [(5, .int 0), (4, .int 6), (3, .ref aC), (2, .int 0), (1, .int 0), (0, .ref p0)]) hx hb dX8_busyShare_14 hl (by decide) rfl (fun ls hl => ?_)
  have hL16 : ∀ (n : Nat) (H : Heap) (locs : List Loc)   (i6 : Nat) (hi : i6 ≤ 6) (hn : 6 - i6 < n)   (hI : zI D tc (zA [] L s.heap.size) s.heap [] L κ g H locs) (ls : Array Slot) (hl : lv_has ls 7 [(4, .int 6), (3, .ref aC), (2, .int 0), (1, .int 0), (0, .ref p0), (5, .int ((nI i6)))]), W p l e (headSpec wsX8_busyShare ({ frames := 6, cells := 1, slots := 6, locals := 98 })).room s m ([.ref p0] : List Value).toArray below meth c H locs 0 0 (vx_MQ below (va_Qf (fun (r : UInt32) (u : zS) => False) (fun (u : zS) (t : State) => zB D tc (zA [] L s.heap.size) [] u t) (zA [] L s.heap.size)) (vx_X (fun u : zS => True) (fun (E : String) (u : zS) (t : State) => (E = "java/util/NoSuchElementException" ∧ u = (L, κ, g)) ∧ zB D tc (zA [] L s.heap.size) [] u t) (zA [] L s.heap.size)) ([.ref p0] : List Value).toArray s 1 6 (zA [] L s.heap.size)) (F0 m 16 ls []) := by
    intro n
    induction n with
    | zero => intro H locs i6 hi hn hI ls hl; exact absurd hn (Nat.not_lt_zero _)
    | succ n ih =>
      intro H locs i6 hi hn hI ls hl
      refine lv_iload hx hb dX8_busyShare_16 (lv_at hl 5 rfl) ?_
      refine lv_iload hx hb dX8_busyShare_18 (lv_at hl 0 rfl) ?_
      refine lv_icmp_ge (tgt := 63) hx hb dX8_busyShare_20 (by decide) (fun c7 => ?_) (fun c7 => ?_)
      · skip
        have hgec7 : 6 ≤ i6 := z_ge (by omega) (by omega) c7
        refine lv_iload_n hx hb dX8_busyShare_63 rfl (lv_at hl 3 rfl) ?_
        refine lv_if_ne (tgt := 78) hx hb dX8_busyShare_64 (by decide) (fun c8 => ?_) (fun c8 => ?_)
        · skip
          exact absurd rfl c8
        · skip
          refine z_throwW (ik := 190) (is := 292) (ic := 194) (cls := "java/util/NoSuchElementException") (text := "no cores") (L0 := L) ["java/lang/RuntimeException", "java/lang/Exception"] (by decide) hM hE hI hnt (by decide) (by decide +kernel) (by decide +kernel) (by decide +kernel) (by decide +kernel) (by decide +kernel) (by decide +kernel) (hl.1.trans hml.symm) dX8_busyShare_67 dX8_busyShare_70 dX8_busyShare_71 dX8_busyShare_74 dX8_busyShare_77 hout (Nat.le_of_ble_eq_true rfl) (Nat.le_of_ble_eq_true rfl) (Nat.le_of_ble_eq_true rfl) (Nat.le_of_ble_eq_true rfl) hlocks ⟨rfl, rfl⟩ (Nat.le_of_ble_eq_true rfl) (Nat.le_of_ble_eq_true rfl)
      · skip
        have hltc7 : i6 < 6 := z_lt (by omega) c7
        refine lv_aload_n hx hb dX8_busyShare_23 rfl (lv_at hl 1 rfl) ?_
        refine lv_iload hx hb dX8_busyShare_24 (lv_at hl 5 rfl) ?_
        refine z_aald hM hI hr5 rfl rfl rfl (vp_in_nI (by omega) (by omega)) dX8_busyShare_26 (fun x9 hv10 => ?_)
        obtain ⟨hghv10, hn13 | ⟨r11, hn13, hr12⟩⟩ := hv10
        · rw [hn13]
          rw [hn13] at hghv10
          refine lv_astoreN (lv' := [(6, .null), (4, .int 6), (3, .ref aC), (2, .int 0), (1, .int 0), (0, .ref p0), (5, .int ((nI i6)))]) hx hb dX8_busyShare_27 hl (by decide) rfl (fun ls hl => ?_)
          refine lv_aloadN hx hb dX8_busyShare_29 (lv_at hl 0 rfl) ?_
          refine lv_ifnullN (tgt := 57) hx hb dX8_busyShare_31 (by decide) ?_
          refine lv_iinc (v := nI (i6 + 1)) (lv' := [(5, .int ((nI (i6 + 1)))), (6, .null), (4, .int 6), (3, .ref aC), (2, .int 0), (1, .int 0), (0, .ref p0)]) hx hb dX8_busyShare_57 hl (k := 6) rfl (z_inc i6) (by decide) rfl (fun ls hl => ?_)
          refine lv_goto (tgt := 16) hx hb dX8_busyShare_60 (by decide) ?_
          exact ih _ _ (i6 + 1) (by first | omega | (simp only [] at *; omega)) (by first | omega | (simp only [] at *; omega)) hI ls (lv_sub hl [2, 3, 4, 5, 6, 0] rfl)
        · rw [hn13]
          rw [hn13] at hghv10
          rw [nI_clamp (by omega), hn9 _ (by omega)] at hghv10
          exact absurd hghv10 (by simp)
  exact hL16 (6 + 1) _ _ 0 (by first | omega | (simp only [] at *; omega)) (by first | omega | (simp only [] at *; omega)) hI ls (lv_sub hl [1, 2, 3, 4, 5, 0] rfl)

set_option maxHeartbeats 4000000 in
set_option maxRecDepth 100000 in
theorem c_X8_meanDegrees_no (l : Launch) (hnt : l.stackTraces = false) (D : va_G) (tc : Nat → ClassId) (z0 : Nat) (L : List Nat) (κ : Nat → Nat) (g : Nat → Nat → Value) (sz : Nat) (p0 : Nat) (hk0 : κ p0 = 10) (aC : Nat) (hC : g p0 1 = .ref aC) (hn9 : ∀ j : Nat, j < 6 → g aC j = .null) : vx_Met l yX8_meanDegrees wsX8_meanDegrees ({ frames := 6, cells := 1, slots := 6, locals := 98 }) (zPc D tc z0 [.ref p0] [] (L, κ, g) sz) (va_Qd (fun (r : UInt64) (u : zS) => False) (fun (u : zS) (t : State) => zB D tc (zA [] L sz) [] u t) (zA [] L sz)) (vx_X (fun u : zS => True) (fun (E : String) (u : zS) (t : State) => (E = "java/util/NoSuchElementException" ∧ u = (L, κ, g)) ∧ zB D tc (zA [] L sz) [] u t) (zA [] L sz)) 1 6 (zA [] L sz) := by
  refine vx_ofW (cc := cX8_meanDegrees) (maxL := 6) (ret := (some .double)) (by decide) rfl ?_
  intro p e s m args below meth c s₁ B hml hxt hv
  obtain ⟨rfl, rfl, hK, hE, hI⟩ := hv.opn
  have hx := B.exec
  have hb := B.bytes
  have hr := B.returns
  have hts := atoms_spec (ws := wsX8_meanDegrees) B.pre
  have hown : s.vm.findClass RX8 = some m.cls := findClass_of_methodNamed B.named
  have hlocks := B.notSynchronized
  have hout : ∀ (i : Nat), ∀ x ∈ c.exceptionTable.toList, covers x i = false := fun i x hx9 => (hxt x hx9).elim
  have hM : zM p s m c cX8_meanDegrees _ wsX8_meanDegrees RX8 D tc := ⟨hx, hb, hts, hown, hK⟩
  have hinX8 : ∀ w ∈ wsX80, w ∈ wsX8_meanDegrees := by decide +kernel
  have hl := lv_entry ([.ref p0]) (n := 6) (Nat.le_of_ble_eq_true rfl)
  rw [lg_entry_eq]
  generalize (lg_sl ([.ref p0]) ++ List.replicate (6 - (lg_sl ([.ref p0])).length) Slot.unset).toArray = ls at hl ⊢
  have hl : lv_has ls 6 [(0, .ref p0)] := hl
  refine lv_iconst (v := 0) hx hb dX8_meanDegrees_0 (by decide) ?_
  refine lv_istore_n (lv' := [(1, .int 0), (0, .ref p0)]) hx hb dX8_meanDegrees_1 rfl hl (by decide) rfl (fun ls hl => ?_)
  refine lv_aload_n hx hb dX8_meanDegrees_2 rfl (lv_at hl 1 rfl) ?_
  refine z_get (k := 10) (j := 7) hM hI hk0 rfl rfl hinX8 rfl (by decide) (by decide +kernel) (fun _ h9 => h9) dX8_meanDegrees_3 (fun v1 hv2 => ?_)
  obtain ⟨i3, rfl, hr4⟩ := hv2
  refine lv_iconst (v := 0) hx hb dX8_meanDegrees_6 (by decide) ?_
  refine z_cv hI (va_runV (As := [.int 0]) (rest := []) ⟨hx, hb, hml, hown, hts⟩ (c_X0_become l _ _ _ _ _ _ _ i3 hr4 0) (cwV 1 hts gX8_meanDegrees_X0_become rfl rfl rfl (by decide +kernel) ⟨Nat.le_of_ble_eq_true rfl, Nat.le_of_ble_eq_true rfl⟩) (z_preV hK hE hI [] rfl rfl (z_recv hK hI hr4 rfl rfl)) rfl rfl hl.1 rfl (lv_room (Nat.le_of_ble_eq_true rfl)) dX8_meanDegrees_7 ⟨Nat.le_of_ble_eq_true rfl, Nat.le_of_ble_eq_true rfl⟩) (fun u H locs hw6 hI => ?_)
  obtain rfl := hw6
  refine lv_aload_n hx hb dX8_meanDegrees_10 rfl (lv_at hl 1 rfl) ?_
  refine z_get (k := 10) (j := 1) hM hI hk0 rfl rfl hinX8 rfl (by decide) (by decide +kernel) (fun _ h9 => h9) dX8_meanDegrees_11 (fun v7 hv8 => ?_)
  obtain ⟨hg10, i9, rfl, hr11⟩ := hv8
  obtain rfl : aC = i9 := Value.ref.inj ((hC).symm.trans hg10.symm)
  refine lv_astore_n (lv' := [(2, .ref aC), (1, .int 0), (0, .ref p0)]) hx hb dX8_meanDegrees_14 rfl hl (by decide) rfl (fun ls hl => ?_)
  refine lv_aload_n hx hb dX8_meanDegrees_15 rfl (lv_at hl 0 rfl) ?_
  refine z_alen (v := 6) hM hI hr11 rfl rfl rfl (by decide) dX8_meanDegrees_16 ?_
  refine lv_istore_n (lv' := [(3, .int 6), (2, .ref aC), (1, .int 0), (0, .ref p0)]) hx hb dX8_meanDegrees_17 rfl hl (by decide) rfl (fun ls hl => ?_)
  refine lv_iconst (v := 0) hx hb dX8_meanDegrees_18 (by decide) ?_
  refine lv_istore (lv' := [(4, .int 0), (3, .int 6), (2, .ref aC), (1, .int 0), (0, .ref p0)]) hx hb dX8_meanDegrees_19 hl (by decide) rfl (fun ls hl => ?_)
  have hL21 : ∀ (n : Nat) (H : Heap) (locs : List Loc)   (i12 : Nat) (hi : i12 ≤ 6) (hn : 6 - i12 < n)   (hI : zI D tc (zA [] L s.heap.size) s.heap [] L κ g H locs) (ls : Array Slot) (hl : lv_has ls 6 [(3, .int 6), (2, .ref aC), (1, .int 0), (0, .ref p0), (4, .int ((nI i12)))]), W p l e (headSpec wsX8_meanDegrees ({ frames := 6, cells := 1, slots := 6, locals := 98 })).room s m ([.ref p0] : List Value).toArray below meth c H locs 0 0 (vx_MQ below (va_Qd (fun (r : UInt64) (u : zS) => False) (fun (u : zS) (t : State) => zB D tc (zA [] L s.heap.size) [] u t) (zA [] L s.heap.size)) (vx_X (fun u : zS => True) (fun (E : String) (u : zS) (t : State) => (E = "java/util/NoSuchElementException" ∧ u = (L, κ, g)) ∧ zB D tc (zA [] L s.heap.size) [] u t) (zA [] L s.heap.size)) ([.ref p0] : List Value).toArray s 1 6 (zA [] L s.heap.size)) (F0 m 21 ls []) := by
    intro n
    induction n with
    | zero => intro H locs i12 hi hn hI ls hl; exact absurd hn (Nat.not_lt_zero _)
    | succ n ih =>
      intro H locs i12 hi hn hI ls hl
      refine lv_iload hx hb dX8_meanDegrees_21 (lv_at hl 4 rfl) ?_
      refine lv_iload_n hx hb dX8_meanDegrees_23 rfl (lv_at hl 0 rfl) ?_
      refine lv_icmp_ge (tgt := 62) hx hb dX8_meanDegrees_24 (by decide) (fun c13 => ?_) (fun c13 => ?_)
      · skip
        have hgec13 : 6 ≤ i12 := z_ge (by omega) (by omega) c13
        refine lv_iload_n hx hb dX8_meanDegrees_62 rfl (lv_at hl 2 rfl) ?_
        refine lv_if_ne (tgt := 77) hx hb dX8_meanDegrees_63 (by decide) (fun c14 => ?_) (fun c14 => ?_)
        · skip
          exact absurd rfl c14
        · skip
          refine z_throwW (ik := 190) (is := 292) (ic := 194) (cls := "java/util/NoSuchElementException") (text := "no cores") (L0 := L) ["java/lang/RuntimeException", "java/lang/Exception"] (by decide) hM hE hI hnt (by decide) (by decide +kernel) (by decide +kernel) (by decide +kernel) (by decide +kernel) (by decide +kernel) (by decide +kernel) (hl.1.trans hml.symm) dX8_meanDegrees_66 dX8_meanDegrees_69 dX8_meanDegrees_70 dX8_meanDegrees_73 dX8_meanDegrees_76 hout (Nat.le_of_ble_eq_true rfl) (Nat.le_of_ble_eq_true rfl) (Nat.le_of_ble_eq_true rfl) (Nat.le_of_ble_eq_true rfl) hlocks ⟨rfl, rfl⟩ (Nat.le_of_ble_eq_true rfl) (Nat.le_of_ble_eq_true rfl)
      · skip
        have hltc13 : i12 < 6 := z_lt (by omega) c13
        refine lv_aload_n hx hb dX8_meanDegrees_27 rfl (lv_at hl 1 rfl) ?_
        refine lv_iload hx hb dX8_meanDegrees_28 (lv_at hl 4 rfl) ?_
        refine z_aald hM hI hr11 rfl rfl rfl (vp_in_nI (by omega) (by omega)) dX8_meanDegrees_30 (fun x15 hv16 => ?_)
        obtain ⟨hghv16, hn19 | ⟨r17, hn19, hr18⟩⟩ := hv16
        · rw [hn19]
          rw [hn19] at hghv16
          refine lv_astoreN (lv' := [(5, .null), (3, .int 6), (2, .ref aC), (1, .int 0), (0, .ref p0), (4, .int ((nI i12)))]) hx hb dX8_meanDegrees_31 hl (by decide) rfl (fun ls hl => ?_)
          refine lv_aloadN hx hb dX8_meanDegrees_33 (lv_at hl 0 rfl) ?_
          refine lv_ifnullN (tgt := 56) hx hb dX8_meanDegrees_35 (by decide) ?_
          refine lv_iinc (v := nI (i12 + 1)) (lv' := [(4, .int ((nI (i12 + 1)))), (5, .null), (3, .int 6), (2, .ref aC), (1, .int 0), (0, .ref p0)]) hx hb dX8_meanDegrees_56 hl (k := 5) rfl (z_inc i12) (by decide) rfl (fun ls hl => ?_)
          refine lv_goto (tgt := 21) hx hb dX8_meanDegrees_59 (by decide) ?_
          exact ih _ _ (i12 + 1) (by first | omega | (simp only [] at *; omega)) (by first | omega | (simp only [] at *; omega)) hI ls (lv_sub hl [2, 3, 4, 5, 0] rfl)
        · rw [hn19]
          rw [hn19] at hghv16
          rw [nI_clamp (by omega), hn9 _ (by omega)] at hghv16
          exact absurd hghv16 (by simp)
  exact hL21 (6 + 1) _ _ 0 (by first | omega | (simp only [] at *; omega)) (by first | omega | (simp only [] at *; omega)) hI ls (lv_sub hl [1, 2, 3, 4, 0] rfl)

