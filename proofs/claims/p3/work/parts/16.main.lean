set_option maxHeartbeats 4000000 in
set_option maxRecDepth 100000 in
theorem c_X8_isFrom (l : Launch) (D : va_G) (tc : Nat → ClassId) (z0 : Nat) (L : List Nat) (κ : Nat → Nat) (g : Nat → Nat → Value) (sz : Nat) (p0 : Int32) (p1 : Int32) (p2 : Int32) : Met l yX8_isFrom wsX8_isFrom ({ frames := 0, cells := 0, slots := 0, locals := 0 }) (zPc D tc z0 [.int p0, .int p1, .int p2] [] (L, κ, g) sz) (vp_Si (fun r : Int32 => r = 0 ↔ ¬ (p0 ≤ p1 ∧ p1 ≤ p2))) 0 0 (fun _ => False) := by
  refine Met.ofW (cc := cX8_isFrom) (maxL := 3) (ret := (some .boolean)) (by decide) rfl ?_
  intro p e s m args below meth c s₁ B hml hv
  obtain ⟨rfl, rfl, hK, hE, hI⟩ := hv.opn
  have hx := B.exec
  have hb := B.bytes
  have hr := B.returns
  have hts := atoms_spec (ws := wsX8_isFrom) B.pre
  have hown : s.vm.findClass RX8 = some m.cls := findClass_of_methodNamed B.named
  have hlocks := B.notSynchronized
  have hM : zM p s m c cX8_isFrom _ wsX8_isFrom RX8 D tc := ⟨hx, hb, hts, hown, hK⟩
  skip
  have hl := lv_entry ([.int p0, .int p1, .int p2]) (n := 3) (Nat.le_of_ble_eq_true rfl)
  rw [lg_entry_eq]
  generalize (lg_sl ([.int p0, .int p1, .int p2]) ++ List.replicate (3 - (lg_sl ([.int p0, .int p1, .int p2])).length) Slot.unset).toArray = ls at hl ⊢
  have hl : lv_has ls 3 [(0, .int p0), (1, .int p1), (2, .int p2)] := hl
  refine lv_iload_n hx hb dX8_isFrom_0 rfl (lv_at hl 1 rfl) ?_
  refine lv_iload_n hx hb dX8_isFrom_1 rfl (lv_at hl 0 rfl) ?_
  refine lv_icmp_lt (tgt := 14) hx hb dX8_isFrom_2 (by decide) (fun c1 => ?_) (fun c1 => ?_)
  · skip
    refine lv_iconst (v := 0) hx hb dX8_isFrom_14 (by decide) ?_
    exact W.zret (v := 0) hx hb hr (by decide) (fun t ht hW => ⟨_, rfl, ⟨fun _ h => absurd h.1 (Int32.not_le.mpr c1), fun _ => rfl⟩, ht⟩) (fun q h => by cases h) dX8_isFrom_15
  · skip
    refine lv_iload_n hx hb dX8_isFrom_5 rfl (lv_at hl 1 rfl) ?_
    refine lv_iload_n hx hb dX8_isFrom_6 rfl (lv_at hl 2 rfl) ?_
    refine lv_icmp_gt (tgt := 14) hx hb dX8_isFrom_7 (by decide) (fun c2 => ?_) (fun c2 => ?_)
    · skip
      refine lv_iconst (v := 0) hx hb dX8_isFrom_14 (by decide) ?_
      exact W.zret (v := 0) hx hb hr (by decide) (fun t ht hW => ⟨_, rfl, ⟨fun _ h => absurd h.2 (Int32.not_le.mpr c2), fun _ => rfl⟩, ht⟩) (fun q h => by cases h) dX8_isFrom_15
    · skip
      refine lv_iconst (v := 1) hx hb dX8_isFrom_10 (by decide) ?_
      refine lv_goto (tgt := 15) hx hb dX8_isFrom_11 (by decide) ?_
      exact W.zret (v := 1) hx hb hr (by decide) (fun t ht hW => ⟨_, rfl, ⟨fun h => absurd h (by decide), fun h => absurd ⟨Int32.not_lt.mp c1, Int32.not_lt.mp c2⟩ h⟩, ht⟩) (fun q h => by cases h) dX8_isFrom_15

set_option maxHeartbeats 4000000 in
set_option maxRecDepth 100000 in
theorem c_X8_coreAt (l : Launch) (hnt : l.stackTraces = false) (D : va_G) (tc : Nat → ClassId) (z0 : Nat) (L : List Nat) (κ : Nat → Nat) (g : Nat → Nat → Value) (sz : Nat) (p0 : Nat) (hk0 : κ p0 = 10) (p1 : Int32) (aC : Nat) (hC : g p0 1 = .ref aC) : vx_Met l yX8_coreAt wsX8_coreAt ({ frames := 6, cells := 1, slots := 6, locals := 98 }) (zPc D tc z0 [.ref p0, .int p1] [] (L, κ, g) sz) (va_Qq (fun (r : Option Nat) (u : zS) => ∃ a : Nat, r = some a ∧ κ a = 5 ∧ (vp_in p1 6 ∧ g aC p1.toNatClampNeg = .ref a) ∧ u = (L, κ, g)) (fun (u : zS) (t : State) => zB D tc (zA [] L sz) [] u t) (zA [] L sz)) (vx_X (fun u : zS => True) (fun (E : String) (u : zS) (t : State) => ((E = "java/lang/IndexOutOfBoundsException" ∧ ¬ zHas g aC 6 p1) ∧ u = (L, κ, g)) ∧ zB D tc (zA [] L sz) [] u t) (zA [] L sz)) 1 6 (zA [] L sz) := by
  refine vx_ofW (cc := cX8_coreAt) (maxL := 3) (ret := (some (.object "Wattgovern$Core"))) (by decide) rfl ?_
  intro p e s m args below meth c s₁ B hml hxt hv
  obtain ⟨rfl, rfl, hK, hE, hI⟩ := hv.opn
  have hx := B.exec
  have hb := B.bytes
  have hr := B.returns
  have hts := atoms_spec (ws := wsX8_coreAt) B.pre
  have hown : s.vm.findClass RX8 = some m.cls := findClass_of_methodNamed B.named
  have hlocks := B.notSynchronized
  have hout : ∀ (i : Nat), ∀ x ∈ c.exceptionTable.toList, covers x i = false := fun i x hx9 => (hxt x hx9).elim
  have hM : zM p s m c cX8_coreAt _ wsX8_coreAt RX8 D tc := ⟨hx, hb, hts, hown, hK⟩
  have hinX8 : ∀ w ∈ wsX80, w ∈ wsX8_coreAt := by decide +kernel
  have hl := lv_entry ([.ref p0, .int p1]) (n := 3) (Nat.le_of_ble_eq_true rfl)
  rw [lg_entry_eq]
  generalize (lg_sl ([.ref p0, .int p1]) ++ List.replicate (3 - (lg_sl ([.ref p0, .int p1])).length) Slot.unset).toArray = ls at hl ⊢
  have hl : lv_has ls 3 [(0, .ref p0), (1, .int p1)] := hl
  refine lv_iload_n hx hb dX8_coreAt_0 rfl (lv_at hl 1 rfl) ?_
  refine lv_if_lt (tgt := 13) hx hb dX8_coreAt_1 (by decide) (fun c1 => ?_) (fun c1 => ?_)
  · skip
    refine lv_null hx hb dX8_coreAt_13 ?_
    refine lv_goto (tgt := 23) hx hb dX8_coreAt_14 (by decide) ?_
    refine lv_astore_nN (lv' := [(2, .null), (0, .ref p0), (1, .int p1)]) hx hb dX8_coreAt_23 rfl hl (by decide) rfl (fun ls hl => ?_)
    refine lv_aload_nN hx hb dX8_coreAt_24 rfl (lv_at hl 0 rfl) ?_
    refine lv_ifnonnullN hx hb dX8_coreAt_25 ?_
    refine z_throwW (ik := 305) (is := 310) (ic := 309) (cls := "java/lang/IndexOutOfBoundsException") (text := "no such core") (L0 := L) ["java/lang/RuntimeException", "java/lang/Exception"] (by decide) hM hE hI hnt (by decide) (by decide +kernel) (by decide +kernel) (by decide +kernel) (by decide +kernel) (by decide +kernel) (by decide +kernel) (hl.1.trans hml.symm) dX8_coreAt_28 dX8_coreAt_31 dX8_coreAt_32 dX8_coreAt_35 dX8_coreAt_38 hout (Nat.le_of_ble_eq_true rfl) (Nat.le_of_ble_eq_true rfl) (Nat.le_of_ble_eq_true rfl) (Nat.le_of_ble_eq_true rfl) hlocks ⟨⟨rfl, (by first | exact z_no (z_neg (by assumption)) | exact z_no (z_out6 (Int32.not_lt.mp (by assumption))) | exact z_nul (by assumption))⟩, rfl⟩ (Nat.le_of_ble_eq_true rfl) (Nat.le_of_ble_eq_true rfl)
  · skip
    refine lv_iload_n hx hb dX8_coreAt_4 rfl (lv_at hl 1 rfl) ?_
    refine lv_aload_n hx hb dX8_coreAt_5 rfl (lv_at hl 0 rfl) ?_
    refine z_get (k := 10) (j := 1) hM hI hk0 rfl rfl hinX8 rfl (by decide) (by decide +kernel) (fun _ h9 => h9) dX8_coreAt_6 (fun v2 hv3 => ?_)
    obtain ⟨hg5, i4, rfl, hr6⟩ := hv3
    obtain rfl : aC = i4 := Value.ref.inj ((hC).symm.trans hg5.symm)
    refine z_alen (v := 6) hM hI hr6 rfl rfl rfl (by decide) dX8_coreAt_9 ?_
    refine lv_icmp_lt (tgt := 17) hx hb dX8_coreAt_10 (by decide) (fun c7 => ?_) (fun c7 => ?_)
    · skip
      refine lv_aload_n hx hb dX8_coreAt_17 rfl (lv_at hl 0 rfl) ?_
      refine z_get (k := 10) (j := 1) hM hI hk0 rfl rfl hinX8 rfl (by decide) (by decide +kernel) (fun _ h9 => h9) dX8_coreAt_18 (fun v8 hv9 => ?_)
      obtain ⟨hg11, i10, rfl, hr12⟩ := hv9
      obtain rfl : aC = i10 := Value.ref.inj ((hC).symm.trans hg11.symm)
      refine lv_iload_n hx hb dX8_coreAt_21 rfl (lv_at hl 1 rfl) ?_
      refine z_aald hM hI hr12 rfl rfl rfl (z_in6 (by assumption) (Int32.not_le.mpr (by assumption))) dX8_coreAt_22 (fun x13 hv14 => ?_)
      obtain ⟨hghv14, hn17 | ⟨r15, hn17, hr16⟩⟩ := hv14
      · rw [hn17]
        rw [hn17] at hghv14
        refine lv_astore_nN (lv' := [(2, .null), (0, .ref p0), (1, .int p1)]) hx hb dX8_coreAt_23 rfl hl (by decide) rfl (fun ls hl => ?_)
        refine lv_aload_nN hx hb dX8_coreAt_24 rfl (lv_at hl 0 rfl) ?_
        refine lv_ifnonnullN hx hb dX8_coreAt_25 ?_
        refine z_throwW (ik := 305) (is := 310) (ic := 309) (cls := "java/lang/IndexOutOfBoundsException") (text := "no such core") (L0 := L) ["java/lang/RuntimeException", "java/lang/Exception"] (by decide) hM hE hI hnt (by decide) (by decide +kernel) (by decide +kernel) (by decide +kernel) (by decide +kernel) (by decide +kernel) (by decide +kernel) (hl.1.trans hml.symm) dX8_coreAt_28 dX8_coreAt_31 dX8_coreAt_32 dX8_coreAt_35 dX8_coreAt_38 hout (Nat.le_of_ble_eq_true rfl) (Nat.le_of_ble_eq_true rfl) (Nat.le_of_ble_eq_true rfl) (Nat.le_of_ble_eq_true rfl) hlocks ⟨⟨rfl, (by first | exact z_no (z_neg (by assumption)) | exact z_no (z_out6 (Int32.not_lt.mp (by assumption))) | exact z_nul (by assumption))⟩, rfl⟩ (Nat.le_of_ble_eq_true rfl) (Nat.le_of_ble_eq_true rfl)
      · rw [hn17]
        rw [hn17] at hghv14
        refine lv_astore_n (lv' := [(2, .ref r15), (0, .ref p0), (1, .int p1)]) hx hb dX8_coreAt_23 rfl hl (by decide) rfl (fun ls hl => ?_)
        refine lv_aload_n hx hb dX8_coreAt_24 rfl (lv_at hl 0 rfl) ?_
        refine lv_ifnonnull (tgt := 39) hx hb dX8_coreAt_25 (by decide) ?_
        refine lv_aload_n hx hb dX8_coreAt_39 rfl (lv_at hl 0 rfl) ?_
        refine vx_ret ?_
        refine W.widen (k := 1) (n := 6) (Nat.le_of_ble_eq_true rfl) (Nat.le_of_ble_eq_true rfl) ?_
        exact W.aret (v := .ref r15) hx hb hr (Or.inl ⟨_, rfl⟩) (Or.inr ⟨_, rfl⟩) (fun t ht hW => ⟨⟨some r15, (L, κ, g), rfl, ⟨_, rfl, hr16, ⟨z_in6 (by assumption) (Int32.not_le.mpr (by assumption)), Eq.symm (by assumption)⟩, rfl⟩, z_end hK hI ht hW⟩, z_F hI ht⟩) (z_locs hI) dX8_coreAt_40
    · skip
      refine lv_null hx hb dX8_coreAt_13 ?_
      refine lv_goto (tgt := 23) hx hb dX8_coreAt_14 (by decide) ?_
      refine lv_astore_nN (lv' := [(2, .null), (0, .ref p0), (1, .int p1)]) hx hb dX8_coreAt_23 rfl hl (by decide) rfl (fun ls hl => ?_)
      refine lv_aload_nN hx hb dX8_coreAt_24 rfl (lv_at hl 0 rfl) ?_
      refine lv_ifnonnullN hx hb dX8_coreAt_25 ?_
      refine z_throwW (ik := 305) (is := 310) (ic := 309) (cls := "java/lang/IndexOutOfBoundsException") (text := "no such core") (L0 := L) ["java/lang/RuntimeException", "java/lang/Exception"] (by decide) hM hE hI hnt (by decide) (by decide +kernel) (by decide +kernel) (by decide +kernel) (by decide +kernel) (by decide +kernel) (by decide +kernel) (hl.1.trans hml.symm) dX8_coreAt_28 dX8_coreAt_31 dX8_coreAt_32 dX8_coreAt_35 dX8_coreAt_38 hout (Nat.le_of_ble_eq_true rfl) (Nat.le_of_ble_eq_true rfl) (Nat.le_of_ble_eq_true rfl) (Nat.le_of_ble_eq_true rfl) hlocks ⟨⟨rfl, (by first | exact z_no (z_neg (by assumption)) | exact z_no (z_out6 (Int32.not_lt.mp (by assumption))) | exact z_nul (by assumption))⟩, rfl⟩ (Nat.le_of_ble_eq_true rfl) (Nat.le_of_ble_eq_true rfl)

set_option maxHeartbeats 4000000 in
set_option maxRecDepth 100000 in
theorem c_X8_taskAt (l : Launch) (hnt : l.stackTraces = false) (D : va_G) (tc : Nat → ClassId) (z0 : Nat) (L : List Nat) (κ : Nat → Nat) (g : Nat → Nat → Value) (sz : Nat) (p0 : Nat) (hk0 : κ p0 = 10) (p1 : Int32) (aC : Nat) (hC : g p0 2 = .ref aC) : vx_Met l yX8_taskAt wsX8_taskAt ({ frames := 6, cells := 1, slots := 6, locals := 98 }) (zPc D tc z0 [.ref p0, .int p1] [] (L, κ, g) sz) (va_Qq (fun (r : Option Nat) (u : zS) => ∃ a : Nat, r = some a ∧ κ a = 9 ∧ (vp_in p1 8 ∧ g aC p1.toNatClampNeg = .ref a) ∧ u = (L, κ, g)) (fun (u : zS) (t : State) => zB D tc (zA [] L sz) [] u t) (zA [] L sz)) (vx_X (fun u : zS => True) (fun (E : String) (u : zS) (t : State) => ((E = "java/lang/IndexOutOfBoundsException" ∧ ¬ zHas g aC 8 p1) ∧ u = (L, κ, g)) ∧ zB D tc (zA [] L sz) [] u t) (zA [] L sz)) 1 6 (zA [] L sz) := by
  refine vx_ofW (cc := cX8_taskAt) (maxL := 3) (ret := (some (.object "Wattgovern$Task"))) (by decide) rfl ?_
  intro p e s m args below meth c s₁ B hml hxt hv
  obtain ⟨rfl, rfl, hK, hE, hI⟩ := hv.opn
  have hx := B.exec
  have hb := B.bytes
  have hr := B.returns
  have hts := atoms_spec (ws := wsX8_taskAt) B.pre
  have hown : s.vm.findClass RX8 = some m.cls := findClass_of_methodNamed B.named
  have hlocks := B.notSynchronized
  have hout : ∀ (i : Nat), ∀ x ∈ c.exceptionTable.toList, covers x i = false := fun i x hx9 => (hxt x hx9).elim
  have hM : zM p s m c cX8_taskAt _ wsX8_taskAt RX8 D tc := ⟨hx, hb, hts, hown, hK⟩
  have hinX8 : ∀ w ∈ wsX80, w ∈ wsX8_taskAt := by decide +kernel
  have hl := lv_entry ([.ref p0, .int p1]) (n := 3) (Nat.le_of_ble_eq_true rfl)
  rw [lg_entry_eq]
  generalize (lg_sl ([.ref p0, .int p1]) ++ List.replicate (3 - (lg_sl ([.ref p0, .int p1])).length) Slot.unset).toArray = ls at hl ⊢
  have hl : lv_has ls 3 [(0, .ref p0), (1, .int p1)] := hl
  refine lv_iload_n hx hb dX8_taskAt_0 rfl (lv_at hl 1 rfl) ?_
  refine lv_if_lt (tgt := 13) hx hb dX8_taskAt_1 (by decide) (fun c1 => ?_) (fun c1 => ?_)
  · skip
    refine lv_null hx hb dX8_taskAt_13 ?_
    refine lv_goto (tgt := 23) hx hb dX8_taskAt_14 (by decide) ?_
    refine lv_astore_nN (lv' := [(2, .null), (0, .ref p0), (1, .int p1)]) hx hb dX8_taskAt_23 rfl hl (by decide) rfl (fun ls hl => ?_)
    refine lv_aload_nN hx hb dX8_taskAt_24 rfl (lv_at hl 0 rfl) ?_
    refine lv_ifnonnullN hx hb dX8_taskAt_25 ?_
    refine z_throwW (ik := 305) (is := 312) (ic := 309) (cls := "java/lang/IndexOutOfBoundsException") (text := "no such thread") (L0 := L) ["java/lang/RuntimeException", "java/lang/Exception"] (by decide) hM hE hI hnt (by decide) (by decide +kernel) (by decide +kernel) (by decide +kernel) (by decide +kernel) (by decide +kernel) (by decide +kernel) (hl.1.trans hml.symm) dX8_taskAt_28 dX8_taskAt_31 dX8_taskAt_32 dX8_taskAt_35 dX8_taskAt_38 hout (Nat.le_of_ble_eq_true rfl) (Nat.le_of_ble_eq_true rfl) (Nat.le_of_ble_eq_true rfl) (Nat.le_of_ble_eq_true rfl) hlocks ⟨⟨rfl, (by first | exact z_no (z_neg (by assumption)) | exact z_no (z_out8 (Int32.not_lt.mp (by assumption))) | exact z_nul (by assumption))⟩, rfl⟩ (Nat.le_of_ble_eq_true rfl) (Nat.le_of_ble_eq_true rfl)
  · skip
    refine lv_iload_n hx hb dX8_taskAt_4 rfl (lv_at hl 1 rfl) ?_
    refine lv_aload_n hx hb dX8_taskAt_5 rfl (lv_at hl 0 rfl) ?_
    refine z_get (k := 10) (j := 2) hM hI hk0 rfl rfl hinX8 rfl (by decide) (by decide +kernel) (fun _ h9 => h9) dX8_taskAt_6 (fun v2 hv3 => ?_)
    obtain ⟨hg5, i4, rfl, hr6⟩ := hv3
    obtain rfl : aC = i4 := Value.ref.inj ((hC).symm.trans hg5.symm)
    refine z_alen (v := 8) hM hI hr6 rfl rfl rfl (by decide) dX8_taskAt_9 ?_
    refine lv_icmp_lt (tgt := 17) hx hb dX8_taskAt_10 (by decide) (fun c7 => ?_) (fun c7 => ?_)
    · skip
      refine lv_aload_n hx hb dX8_taskAt_17 rfl (lv_at hl 0 rfl) ?_
      refine z_get (k := 10) (j := 2) hM hI hk0 rfl rfl hinX8 rfl (by decide) (by decide +kernel) (fun _ h9 => h9) dX8_taskAt_18 (fun v8 hv9 => ?_)
      obtain ⟨hg11, i10, rfl, hr12⟩ := hv9
      obtain rfl : aC = i10 := Value.ref.inj ((hC).symm.trans hg11.symm)
      refine lv_iload_n hx hb dX8_taskAt_21 rfl (lv_at hl 1 rfl) ?_
      refine z_aald hM hI hr12 rfl rfl rfl (z_in8 (by assumption) (Int32.not_le.mpr (by assumption))) dX8_taskAt_22 (fun x13 hv14 => ?_)
      obtain ⟨hghv14, hn17 | ⟨r15, hn17, hr16⟩⟩ := hv14
      · rw [hn17]
        rw [hn17] at hghv14
        refine lv_astore_nN (lv' := [(2, .null), (0, .ref p0), (1, .int p1)]) hx hb dX8_taskAt_23 rfl hl (by decide) rfl (fun ls hl => ?_)
        refine lv_aload_nN hx hb dX8_taskAt_24 rfl (lv_at hl 0 rfl) ?_
        refine lv_ifnonnullN hx hb dX8_taskAt_25 ?_
        refine z_throwW (ik := 305) (is := 312) (ic := 309) (cls := "java/lang/IndexOutOfBoundsException") (text := "no such thread") (L0 := L) ["java/lang/RuntimeException", "java/lang/Exception"] (by decide) hM hE hI hnt (by decide) (by decide +kernel) (by decide +kernel) (by decide +kernel) (by decide +kernel) (by decide +kernel) (by decide +kernel) (hl.1.trans hml.symm) dX8_taskAt_28 dX8_taskAt_31 dX8_taskAt_32 dX8_taskAt_35 dX8_taskAt_38 hout (Nat.le_of_ble_eq_true rfl) (Nat.le_of_ble_eq_true rfl) (Nat.le_of_ble_eq_true rfl) (Nat.le_of_ble_eq_true rfl) hlocks ⟨⟨rfl, (by first | exact z_no (z_neg (by assumption)) | exact z_no (z_out8 (Int32.not_lt.mp (by assumption))) | exact z_nul (by assumption))⟩, rfl⟩ (Nat.le_of_ble_eq_true rfl) (Nat.le_of_ble_eq_true rfl)
      · rw [hn17]
        rw [hn17] at hghv14
        refine lv_astore_n (lv' := [(2, .ref r15), (0, .ref p0), (1, .int p1)]) hx hb dX8_taskAt_23 rfl hl (by decide) rfl (fun ls hl => ?_)
        refine lv_aload_n hx hb dX8_taskAt_24 rfl (lv_at hl 0 rfl) ?_
        refine lv_ifnonnull (tgt := 39) hx hb dX8_taskAt_25 (by decide) ?_
        refine lv_aload_n hx hb dX8_taskAt_39 rfl (lv_at hl 0 rfl) ?_
        refine vx_ret ?_
        refine W.widen (k := 1) (n := 6) (Nat.le_of_ble_eq_true rfl) (Nat.le_of_ble_eq_true rfl) ?_
        exact W.aret (v := .ref r15) hx hb hr (Or.inl ⟨_, rfl⟩) (Or.inr ⟨_, rfl⟩) (fun t ht hW => ⟨⟨some r15, (L, κ, g), rfl, ⟨_, rfl, hr16, ⟨z_in8 (by assumption) (Int32.not_le.mpr (by assumption)), Eq.symm (by assumption)⟩, rfl⟩, z_end hK hI ht hW⟩, z_F hI ht⟩) (z_locs hI) dX8_taskAt_40
    · skip
      refine lv_null hx hb dX8_taskAt_13 ?_
      refine lv_goto (tgt := 23) hx hb dX8_taskAt_14 (by decide) ?_
      refine lv_astore_nN (lv' := [(2, .null), (0, .ref p0), (1, .int p1)]) hx hb dX8_taskAt_23 rfl hl (by decide) rfl (fun ls hl => ?_)
      refine lv_aload_nN hx hb dX8_taskAt_24 rfl (lv_at hl 0 rfl) ?_
      refine lv_ifnonnullN hx hb dX8_taskAt_25 ?_
      refine z_throwW (ik := 305) (is := 312) (ic := 309) (cls := "java/lang/IndexOutOfBoundsException") (text := "no such thread") (L0 := L) ["java/lang/RuntimeException", "java/lang/Exception"] (by decide) hM hE hI hnt (by decide) (by decide +kernel) (by decide +kernel) (by decide +kernel) (by decide +kernel) (by decide +kernel) (by decide +kernel) (hl.1.trans hml.symm) dX8_taskAt_28 dX8_taskAt_31 dX8_taskAt_32 dX8_taskAt_35 dX8_taskAt_38 hout (Nat.le_of_ble_eq_true rfl) (Nat.le_of_ble_eq_true rfl) (Nat.le_of_ble_eq_true rfl) (Nat.le_of_ble_eq_true rfl) hlocks ⟨⟨rfl, (by first | exact z_no (z_neg (by assumption)) | exact z_no (z_out8 (Int32.not_lt.mp (by assumption))) | exact z_nul (by assumption))⟩, rfl⟩ (Nat.le_of_ble_eq_true rfl) (Nat.le_of_ble_eq_true rfl)

set_option maxHeartbeats 4000000 in
set_option maxRecDepth 100000 in
theorem c_X8_railAt (l : Launch) (hnt : l.stackTraces = false) (D : va_G) (tc : Nat → ClassId) (z0 : Nat) (L : List Nat) (κ : Nat → Nat) (g : Nat → Nat → Value) (sz : Nat) (p0 : Nat) (hk0 : κ p0 = 10) (p1 : Int32) : vx_Met l yX8_railAt wsX8_railAt ({ frames := 6, cells := 1, slots := 6, locals := 98 }) (zPc D tc z0 [.ref p0, .int p1] [] (L, κ, g) sz) (va_Qq (fun (r : Option Nat) (u : zS) => ∃ a : Nat, r = some a ∧ κ a = 6 ∧ vp_in p1 3 ∧ u = (L, κ, g)) (fun (u : zS) (t : State) => zB D tc (zA [] L sz) [] u t) (zA [] L sz)) (vx_X (fun u : zS => True) (fun (E : String) (u : zS) (t : State) => ((E = "java/lang/IndexOutOfBoundsException" ∧ ¬ vp_in p1 3) ∧ u = (L, κ, g)) ∧ zB D tc (zA [] L sz) [] u t) (zA [] L sz)) 1 6 (zA [] L sz) := by
  refine vx_ofW (cc := cX8_railAt) (maxL := 3) (ret := (some (.object "Wattgovern$Rail"))) (by decide) rfl ?_
  intro p e s m args below meth c s₁ B hml hxt hv
  obtain ⟨rfl, rfl, hK, hE, hI⟩ := hv.opn
  have hx := B.exec
  have hb := B.bytes
  have hr := B.returns
  have hts := atoms_spec (ws := wsX8_railAt) B.pre
  have hown : s.vm.findClass RX8 = some m.cls := findClass_of_methodNamed B.named
  have hlocks := B.notSynchronized
  have hout : ∀ (i : Nat), ∀ x ∈ c.exceptionTable.toList, covers x i = false := fun i x hx9 => (hxt x hx9).elim
  have hM : zM p s m c cX8_railAt _ wsX8_railAt RX8 D tc := ⟨hx, hb, hts, hown, hK⟩
  have hinX8 : ∀ w ∈ wsX80, w ∈ wsX8_railAt := by decide +kernel
  have hl := lv_entry ([.ref p0, .int p1]) (n := 3) (Nat.le_of_ble_eq_true rfl)
  rw [lg_entry_eq]
  generalize (lg_sl ([.ref p0, .int p1]) ++ List.replicate (3 - (lg_sl ([.ref p0, .int p1])).length) Slot.unset).toArray = ls at hl ⊢
  have hl : lv_has ls 3 [(0, .ref p0), (1, .int p1)] := hl
  refine lv_iload_n hx hb dX8_railAt_0 rfl (lv_at hl 1 rfl) ?_
  refine lv_if_lt (tgt := 13) hx hb dX8_railAt_1 (by decide) (fun c1 => ?_) (fun c1 => ?_)
  · skip
    refine lv_null hx hb dX8_railAt_13 ?_
    refine lv_goto (tgt := 23) hx hb dX8_railAt_14 (by decide) ?_
    refine lv_astore_nN (lv' := [(2, .null), (0, .ref p0), (1, .int p1)]) hx hb dX8_railAt_23 rfl hl (by decide) rfl (fun ls hl => ?_)
    refine lv_aload_nN hx hb dX8_railAt_24 rfl (lv_at hl 0 rfl) ?_
    refine lv_ifnonnullN hx hb dX8_railAt_25 ?_
    refine z_throwW (ik := 305) (is := 307) (ic := 309) (cls := "java/lang/IndexOutOfBoundsException") (text := "no such rail") (L0 := L) ["java/lang/RuntimeException", "java/lang/Exception"] (by decide) hM hE hI hnt (by decide) (by decide +kernel) (by decide +kernel) (by decide +kernel) (by decide +kernel) (by decide +kernel) (by decide +kernel) (hl.1.trans hml.symm) dX8_railAt_28 dX8_railAt_31 dX8_railAt_32 dX8_railAt_35 dX8_railAt_38 hout (Nat.le_of_ble_eq_true rfl) (Nat.le_of_ble_eq_true rfl) (Nat.le_of_ble_eq_true rfl) (Nat.le_of_ble_eq_true rfl) hlocks ⟨⟨rfl, (by first | exact z_neg (by assumption) | exact z_out3 (Int32.not_lt.mp (by assumption)))⟩, rfl⟩ (Nat.le_of_ble_eq_true rfl) (Nat.le_of_ble_eq_true rfl)
  · skip
    refine lv_iload_n hx hb dX8_railAt_4 rfl (lv_at hl 1 rfl) ?_
    refine lv_aload_n hx hb dX8_railAt_5 rfl (lv_at hl 0 rfl) ?_
    refine z_get (k := 10) (j := 0) hM hI hk0 rfl rfl hinX8 rfl (by decide) (by decide +kernel) (fun _ h9 => h9) dX8_railAt_6 (fun v2 hv3 => ?_)
    obtain ⟨hg5, i4, rfl, hr6⟩ := hv3
    refine z_alen (v := 3) hM hI hr6 rfl rfl rfl (by decide) dX8_railAt_9 ?_
    refine lv_icmp_lt (tgt := 17) hx hb dX8_railAt_10 (by decide) (fun c7 => ?_) (fun c7 => ?_)
    · skip
      refine lv_aload_n hx hb dX8_railAt_17 rfl (lv_at hl 0 rfl) ?_
      refine z_get (k := 10) (j := 0) hM hI hk0 rfl rfl hinX8 rfl (by decide) (by decide +kernel) (fun _ h9 => h9) dX8_railAt_18 (fun v8 hv9 => ?_)
      obtain ⟨hg11, i10, rfl, hr12⟩ := hv9
      refine lv_iload_n hx hb dX8_railAt_21 rfl (lv_at hl 1 rfl) ?_
      refine z_aald hM hI hr12 rfl rfl rfl (z_in3 (by assumption) (Int32.not_le.mpr (by assumption))) dX8_railAt_22 (fun x13 hv14 => ?_)
      obtain ⟨r15, hn17, hr16⟩ := hv14
      rw [hn17]
      refine lv_astore_n (lv' := [(2, .ref r15), (0, .ref p0), (1, .int p1)]) hx hb dX8_railAt_23 rfl hl (by decide) rfl (fun ls hl => ?_)
      refine lv_aload_n hx hb dX8_railAt_24 rfl (lv_at hl 0 rfl) ?_
      refine lv_ifnonnull (tgt := 39) hx hb dX8_railAt_25 (by decide) ?_
      refine lv_aload_n hx hb dX8_railAt_39 rfl (lv_at hl 0 rfl) ?_
      refine vx_ret ?_
      refine W.widen (k := 1) (n := 6) (Nat.le_of_ble_eq_true rfl) (Nat.le_of_ble_eq_true rfl) ?_
      exact W.aret (v := .ref r15) hx hb hr (Or.inl ⟨_, rfl⟩) (Or.inr ⟨_, rfl⟩) (fun t ht hW => ⟨⟨some r15, (L, κ, g), rfl, ⟨_, rfl, hr16, z_in3 (by assumption) (Int32.not_le.mpr (by assumption)), rfl⟩, z_end hK hI ht hW⟩, z_F hI ht⟩) (z_locs hI) dX8_railAt_40
    · skip
      refine lv_null hx hb dX8_railAt_13 ?_
      refine lv_goto (tgt := 23) hx hb dX8_railAt_14 (by decide) ?_
      refine lv_astore_nN (lv' := [(2, .null), (0, .ref p0), (1, .int p1)]) hx hb dX8_railAt_23 rfl hl (by decide) rfl (fun ls hl => ?_)
      refine lv_aload_nN hx hb dX8_railAt_24 rfl (lv_at hl 0 rfl) ?_
      refine lv_ifnonnullN hx hb dX8_railAt_25 ?_
      refine z_throwW (ik := 305) (is := 307) (ic := 309) (cls := "java/lang/IndexOutOfBoundsException") (text := "no such rail") (L0 := L) ["java/lang/RuntimeException", "java/lang/Exception"] (by decide) hM hE hI hnt (by decide) (by decide +kernel) (by decide +kernel) (by decide +kernel) (by decide +kernel) (by decide +kernel) (by decide +kernel) (hl.1.trans hml.symm) dX8_railAt_28 dX8_railAt_31 dX8_railAt_32 dX8_railAt_35 dX8_railAt_38 hout (Nat.le_of_ble_eq_true rfl) (Nat.le_of_ble_eq_true rfl) (Nat.le_of_ble_eq_true rfl) (Nat.le_of_ble_eq_true rfl) hlocks ⟨⟨rfl, (by first | exact z_neg (by assumption) | exact z_out3 (Int32.not_lt.mp (by assumption)))⟩, rfl⟩ (Nat.le_of_ble_eq_true rfl) (Nat.le_of_ble_eq_true rfl)

set_option maxHeartbeats 4000000 in
set_option maxRecDepth 100000 in
theorem c_X8_speed (l : Launch) (hnt : l.stackTraces = false) (D : va_G) (tc : Nat → ClassId) (z0 : Nat) (L : List Nat) (κ : Nat → Nat) (g : Nat → Nat → Value) (sz : Nat) (p0 : Nat) (hk0 : κ p0 = 10) (p1 : Int32) (aC : Nat) (hC : g p0 1 = .ref aC) : vx_Met l yX8_speed wsX8_speed ({ frames := 7, cells := 1, slots := 6, locals := 120 }) (zPc D tc z0 [.ref p0, .int p1] [] (L, κ, g) sz) (va_Qi (fun (r : Int32) (u : zS) => zHas g aC 6 p1 ∧ u = (L, κ, g)) (fun (u : zS) (t : State) => zB D tc (zA [] L sz) [] u t) (zA [] L sz)) (vx_X (fun u : zS => True) (fun (E : String) (u : zS) (t : State) => (((E = "java/lang/IndexOutOfBoundsException" ∧ ¬ zHas g aC 6 p1)) ∧ u = (L, κ, g)) ∧ zB D tc (zA [] L sz) [] u t) (zA [] L sz)) 1 6 (zA [] L sz) := by
  refine vx_ofW (cc := cX8_speed) (maxL := 2) (ret := (some .int)) (by decide) rfl ?_
  intro p e s m args below meth c s₁ B hml hxt hv
  obtain ⟨rfl, rfl, hK, hE, hI⟩ := hv.opn
  have hx := B.exec
  have hb := B.bytes
  have hr := B.returns
  have hts := atoms_spec (ws := wsX8_speed) B.pre
  have hown : s.vm.findClass RX8 = some m.cls := findClass_of_methodNamed B.named
  have hlocks := B.notSynchronized
  have hout : ∀ (i : Nat), ∀ x ∈ c.exceptionTable.toList, covers x i = false := fun i x hx9 => (hxt x hx9).elim
  have hM : zM p s m c cX8_speed _ wsX8_speed RX8 D tc := ⟨hx, hb, hts, hown, hK⟩
  have hinX3 : ∀ w ∈ wsX30, w ∈ wsX8_speed := by decide +kernel
  have hl := lv_entry ([.ref p0, .int p1]) (n := 2) (Nat.le_of_ble_eq_true rfl)
  rw [lg_entry_eq]
  generalize (lg_sl ([.ref p0, .int p1]) ++ List.replicate (2 - (lg_sl ([.ref p0, .int p1])).length) Slot.unset).toArray = ls at hl ⊢
  have hl : lv_has ls 2 [(0, .ref p0), (1, .int p1)] := hl
  refine lv_aload_n hx hb dX8_speed_0 rfl (lv_at hl 0 rfl) ?_
  refine lv_iload_n hx hb dX8_speed_1 rfl (lv_at hl 1 rfl) ?_
  refine z_xq hI (vx_runV (As := [.int p1]) (rest := []) ⟨hx, hb, hml, hown, hts⟩ (c_X8_coreAt l hnt _ _ _ _ _ _ _ p0 hk0 p1 aC hC) (cwV 1 hts gX8_speed_X8_coreAt rfl rfl rfl (by decide +kernel) ⟨Nat.le_of_ble_eq_true rfl, Nat.le_of_ble_eq_true rfl⟩) (z_preV hK hE hI [] rfl rfl (z_recv hK hI hk0 rfl rfl)) rfl rfl hl.1 rfl (lv_room (Nat.le_of_ble_eq_true rfl)) dX8_speed_2 ⟨Nat.le_of_ble_eq_true rfl, Nat.le_of_ble_eq_true rfl⟩) (fun E ce q9 u H locs hw hI he1 he2 he3 => ?_) (fun v1 u H locs hw2 hI => ?_)
  · obtain ⟨hxp, rfl⟩ := hw
    exact z_pass hK hI hout hlocks he1 he2 he3 (by first | exact ⟨hxp, rfl⟩ | exact ⟨Or.inl hxp, rfl⟩ | exact ⟨Or.inr hxp, rfl⟩ | exact ⟨Or.inr (Or.inl hxp), rfl⟩ | exact ⟨Or.inr (Or.inr hxp), rfl⟩) (Nat.le_of_ble_eq_true rfl) (Nat.le_of_ble_eq_true rfl)
  obtain ⟨r3, rfl, hr4, hq5, rfl⟩ := hw2
  show W p l e (headSpec wsX8_speed ({ frames := 7, cells := 1, slots := 6, locals := 120 })).room s m ([.ref p0, .int p1] : List Value).toArray below meth c _ _ 1 6 (vx_MQ below (va_Qi (fun (r : Int32) (u : zS) => zHas g aC 6 p1 ∧ u = (L, κ, g)) (fun (u : zS) (t : State) => zB D tc (zA [] L s.heap.size) [] u t) (zA [] L s.heap.size)) (vx_X (fun u : zS => True) (fun (E : String) (u : zS) (t : State) => (((E = "java/lang/IndexOutOfBoundsException" ∧ ¬ zHas g aC 6 p1)) ∧ u = (L, κ, g)) ∧ zB D tc (zA [] L s.heap.size) [] u t) (zA [] L s.heap.size)) ([.ref p0, .int p1] : List Value).toArray s 1 6 (zA [] L s.heap.size)) (F0 m 5 ls (.ref r3 :: []))
  refine z_get (k := 5) (j := 7) hM hI hr4 rfl rfl hinX3 rfl (by decide) (by decide +kernel) (fun _ h9 => h9) dX8_speed_5 (fun v6 hv7 => ?_)
  obtain ⟨i8, rfl⟩ := hv7
  refine vx_ret ?_
  exact W.iret (v := i8) hx hb hr (fun t ht hW => ⟨⟨_, (L, κ, g), rfl, ⟨⟨hq5.1, _, hq5.2⟩, rfl⟩, z_end hK hI ht hW⟩, z_F hI ht⟩) (z_locs hI) dX8_speed_8

set_option maxHeartbeats 4000000 in
set_option maxRecDepth 100000 in
theorem c_X8_wanted (l : Launch) (hnt : l.stackTraces = false) (D : va_G) (tc : Nat → ClassId) (z0 : Nat) (L : List Nat) (κ : Nat → Nat) (g : Nat → Nat → Value) (sz : Nat) (p0 : Nat) (hk0 : κ p0 = 10) (p1 : Int32) (aC : Nat) (hC : g p0 1 = .ref aC) : vx_Met l yX8_wanted wsX8_wanted ({ frames := 7, cells := 1, slots := 6, locals := 120 }) (zPc D tc z0 [.ref p0, .int p1] [] (L, κ, g) sz) (va_Qi (fun (r : Int32) (u : zS) => zHas g aC 6 p1 ∧ u = (L, κ, g)) (fun (u : zS) (t : State) => zB D tc (zA [] L sz) [] u t) (zA [] L sz)) (vx_X (fun u : zS => True) (fun (E : String) (u : zS) (t : State) => (((E = "java/lang/IndexOutOfBoundsException" ∧ ¬ zHas g aC 6 p1)) ∧ u = (L, κ, g)) ∧ zB D tc (zA [] L sz) [] u t) (zA [] L sz)) 1 6 (zA [] L sz) := by
  refine vx_ofW (cc := cX8_wanted) (maxL := 2) (ret := (some .int)) (by decide) rfl ?_
  intro p e s m args below meth c s₁ B hml hxt hv
  obtain ⟨rfl, rfl, hK, hE, hI⟩ := hv.opn
  have hx := B.exec
  have hb := B.bytes
  have hr := B.returns
  have hts := atoms_spec (ws := wsX8_wanted) B.pre
  have hown : s.vm.findClass RX8 = some m.cls := findClass_of_methodNamed B.named
  have hlocks := B.notSynchronized
  have hout : ∀ (i : Nat), ∀ x ∈ c.exceptionTable.toList, covers x i = false := fun i x hx9 => (hxt x hx9).elim
  have hM : zM p s m c cX8_wanted _ wsX8_wanted RX8 D tc := ⟨hx, hb, hts, hown, hK⟩
  have hinX3 : ∀ w ∈ wsX30, w ∈ wsX8_wanted := by decide +kernel
  have hl := lv_entry ([.ref p0, .int p1]) (n := 2) (Nat.le_of_ble_eq_true rfl)
  rw [lg_entry_eq]
  generalize (lg_sl ([.ref p0, .int p1]) ++ List.replicate (2 - (lg_sl ([.ref p0, .int p1])).length) Slot.unset).toArray = ls at hl ⊢
  have hl : lv_has ls 2 [(0, .ref p0), (1, .int p1)] := hl
  refine lv_aload_n hx hb dX8_wanted_0 rfl (lv_at hl 0 rfl) ?_
  refine lv_iload_n hx hb dX8_wanted_1 rfl (lv_at hl 1 rfl) ?_
  refine z_xq hI (vx_runV (As := [.int p1]) (rest := []) ⟨hx, hb, hml, hown, hts⟩ (c_X8_coreAt l hnt _ _ _ _ _ _ _ p0 hk0 p1 aC hC) (cwV 1 hts gX8_wanted_X8_coreAt rfl rfl rfl (by decide +kernel) ⟨Nat.le_of_ble_eq_true rfl, Nat.le_of_ble_eq_true rfl⟩) (z_preV hK hE hI [] rfl rfl (z_recv hK hI hk0 rfl rfl)) rfl rfl hl.1 rfl (lv_room (Nat.le_of_ble_eq_true rfl)) dX8_wanted_2 ⟨Nat.le_of_ble_eq_true rfl, Nat.le_of_ble_eq_true rfl⟩) (fun E ce q9 u H locs hw hI he1 he2 he3 => ?_) (fun v1 u H locs hw2 hI => ?_)
  · obtain ⟨hxp, rfl⟩ := hw
    exact z_pass hK hI hout hlocks he1 he2 he3 (by first | exact ⟨hxp, rfl⟩ | exact ⟨Or.inl hxp, rfl⟩ | exact ⟨Or.inr hxp, rfl⟩ | exact ⟨Or.inr (Or.inl hxp), rfl⟩ | exact ⟨Or.inr (Or.inr hxp), rfl⟩) (Nat.le_of_ble_eq_true rfl) (Nat.le_of_ble_eq_true rfl)
  obtain ⟨r3, rfl, hr4, hq5, rfl⟩ := hw2
  show W p l e (headSpec wsX8_wanted ({ frames := 7, cells := 1, slots := 6, locals := 120 })).room s m ([.ref p0, .int p1] : List Value).toArray below meth c _ _ 1 6 (vx_MQ below (va_Qi (fun (r : Int32) (u : zS) => zHas g aC 6 p1 ∧ u = (L, κ, g)) (fun (u : zS) (t : State) => zB D tc (zA [] L s.heap.size) [] u t) (zA [] L s.heap.size)) (vx_X (fun u : zS => True) (fun (E : String) (u : zS) (t : State) => (((E = "java/lang/IndexOutOfBoundsException" ∧ ¬ zHas g aC 6 p1)) ∧ u = (L, κ, g)) ∧ zB D tc (zA [] L s.heap.size) [] u t) (zA [] L s.heap.size)) ([.ref p0, .int p1] : List Value).toArray s 1 6 (zA [] L s.heap.size)) (F0 m 5 ls (.ref r3 :: []))
  refine z_get (k := 5) (j := 5) hM hI hr4 rfl rfl hinX3 rfl (by decide) (by decide +kernel) (fun _ h9 => h9) dX8_wanted_5 (fun v6 hv7 => ?_)
  obtain ⟨i8, rfl⟩ := hv7
  refine vx_ret ?_
  exact W.iret (v := i8) hx hb hr (fun t ht hW => ⟨⟨_, (L, κ, g), rfl, ⟨⟨hq5.1, _, hq5.2⟩, rfl⟩, z_end hK hI ht hW⟩, z_F hI ht⟩) (z_locs hI) dX8_wanted_8

set_option maxHeartbeats 4000000 in
set_option maxRecDepth 100000 in
theorem c_X8_clamp (l : Launch) (hnt : l.stackTraces = false) (D : va_G) (tc : Nat → ClassId) (z0 : Nat) (L : List Nat) (κ : Nat → Nat) (g : Nat → Nat → Value) (sz : Nat) (p0 : Nat) (hk0 : κ p0 = 10) (p1 : Int32) (aC : Nat) (hC : g p0 1 = .ref aC) : vx_Met l yX8_clamp wsX8_clamp ({ frames := 7, cells := 1, slots := 6, locals := 120 }) (zPc D tc z0 [.ref p0, .int p1] [] (L, κ, g) sz) (va_Qi (fun (r : Int32) (u : zS) => zHas g aC 6 p1 ∧ u = (L, κ, g)) (fun (u : zS) (t : State) => zB D tc (zA [] L sz) [] u t) (zA [] L sz)) (vx_X (fun u : zS => True) (fun (E : String) (u : zS) (t : State) => (((E = "java/lang/IndexOutOfBoundsException" ∧ ¬ zHas g aC 6 p1)) ∧ u = (L, κ, g)) ∧ zB D tc (zA [] L sz) [] u t) (zA [] L sz)) 1 6 (zA [] L sz) := by
  refine vx_ofW (cc := cX8_clamp) (maxL := 2) (ret := (some .char)) (by decide) rfl ?_
  intro p e s m args below meth c s₁ B hml hxt hv
  obtain ⟨rfl, rfl, hK, hE, hI⟩ := hv.opn
  have hx := B.exec
  have hb := B.bytes
  have hr := B.returns
  have hts := atoms_spec (ws := wsX8_clamp) B.pre
  have hown : s.vm.findClass RX8 = some m.cls := findClass_of_methodNamed B.named
  have hlocks := B.notSynchronized
  have hout : ∀ (i : Nat), ∀ x ∈ c.exceptionTable.toList, covers x i = false := fun i x hx9 => (hxt x hx9).elim
  have hM : zM p s m c cX8_clamp _ wsX8_clamp RX8 D tc := ⟨hx, hb, hts, hown, hK⟩
  have hinX3 : ∀ w ∈ wsX30, w ∈ wsX8_clamp := by decide +kernel
  have hl := lv_entry ([.ref p0, .int p1]) (n := 2) (Nat.le_of_ble_eq_true rfl)
  rw [lg_entry_eq]
  generalize (lg_sl ([.ref p0, .int p1]) ++ List.replicate (2 - (lg_sl ([.ref p0, .int p1])).length) Slot.unset).toArray = ls at hl ⊢
  have hl : lv_has ls 2 [(0, .ref p0), (1, .int p1)] := hl
  refine lv_aload_n hx hb dX8_clamp_0 rfl (lv_at hl 0 rfl) ?_
  refine lv_iload_n hx hb dX8_clamp_1 rfl (lv_at hl 1 rfl) ?_
  refine z_xq hI (vx_runV (As := [.int p1]) (rest := []) ⟨hx, hb, hml, hown, hts⟩ (c_X8_coreAt l hnt _ _ _ _ _ _ _ p0 hk0 p1 aC hC) (cwV 1 hts gX8_clamp_X8_coreAt rfl rfl rfl (by decide +kernel) ⟨Nat.le_of_ble_eq_true rfl, Nat.le_of_ble_eq_true rfl⟩) (z_preV hK hE hI [] rfl rfl (z_recv hK hI hk0 rfl rfl)) rfl rfl hl.1 rfl (lv_room (Nat.le_of_ble_eq_true rfl)) dX8_clamp_2 ⟨Nat.le_of_ble_eq_true rfl, Nat.le_of_ble_eq_true rfl⟩) (fun E ce q9 u H locs hw hI he1 he2 he3 => ?_) (fun v1 u H locs hw2 hI => ?_)
  · obtain ⟨hxp, rfl⟩ := hw
    exact z_pass hK hI hout hlocks he1 he2 he3 (by first | exact ⟨hxp, rfl⟩ | exact ⟨Or.inl hxp, rfl⟩ | exact ⟨Or.inr hxp, rfl⟩ | exact ⟨Or.inr (Or.inl hxp), rfl⟩ | exact ⟨Or.inr (Or.inr hxp), rfl⟩) (Nat.le_of_ble_eq_true rfl) (Nat.le_of_ble_eq_true rfl)
  obtain ⟨r3, rfl, hr4, hq5, rfl⟩ := hw2
  show W p l e (headSpec wsX8_clamp ({ frames := 7, cells := 1, slots := 6, locals := 120 })).room s m ([.ref p0, .int p1] : List Value).toArray below meth c _ _ 1 6 (vx_MQ below (va_Qi (fun (r : Int32) (u : zS) => zHas g aC 6 p1 ∧ u = (L, κ, g)) (fun (u : zS) (t : State) => zB D tc (zA [] L s.heap.size) [] u t) (zA [] L s.heap.size)) (vx_X (fun u : zS => True) (fun (E : String) (u : zS) (t : State) => (((E = "java/lang/IndexOutOfBoundsException" ∧ ¬ zHas g aC 6 p1)) ∧ u = (L, κ, g)) ∧ zB D tc (zA [] L s.heap.size) [] u t) (zA [] L s.heap.size)) ([.ref p0, .int p1] : List Value).toArray s 1 6 (zA [] L s.heap.size)) (F0 m 5 ls (.ref r3 :: []))
  refine z_get (k := 5) (j := 8) hM hI hr4 rfl rfl hinX3 rfl (by decide) (by decide +kernel) (fun _ h9 => h9) dX8_clamp_5 (fun v6 hv7 => ?_)
  obtain ⟨i8, rfl, hf9⟩ := hv7
  refine vx_ret ?_
  exact W.zret (v := i8) hx hb hr (z_cn (by assumption)) (fun t ht hW => ⟨⟨_, (L, κ, g), rfl, ⟨⟨hq5.1, _, hq5.2⟩, rfl⟩, z_end hK hI ht hW⟩, z_F hI ht⟩) (z_locs hI) dX8_clamp_8

set_option maxHeartbeats 4000000 in
set_option maxRecDepth 100000 in
theorem c_X8_sleep (l : Launch) (hnt : l.stackTraces = false) (D : va_G) (tc : Nat → ClassId) (z0 : Nat) (L : List Nat) (κ : Nat → Nat) (g : Nat → Nat → Value) (sz : Nat) (p0 : Nat) (hk0 : κ p0 = 10) (p1 : Int32) (aC : Nat) (hC : g p0 1 = .ref aC) : vx_Met l yX8_sleep wsX8_sleep ({ frames := 7, cells := 1, slots := 6, locals := 120 }) (zPc D tc z0 [.ref p0, .int p1] [] (L, κ, g) sz) (va_Qi (fun (r : Int32) (u : zS) => zHas g aC 6 p1 ∧ u = (L, κ, g)) (fun (u : zS) (t : State) => zB D tc (zA [] L sz) [] u t) (zA [] L sz)) (vx_X (fun u : zS => True) (fun (E : String) (u : zS) (t : State) => (((E = "java/lang/IndexOutOfBoundsException" ∧ ¬ zHas g aC 6 p1)) ∧ u = (L, κ, g)) ∧ zB D tc (zA [] L sz) [] u t) (zA [] L sz)) 1 6 (zA [] L sz) := by
  refine vx_ofW (cc := cX8_sleep) (maxL := 2) (ret := (some .char)) (by decide) rfl ?_
  intro p e s m args below meth c s₁ B hml hxt hv
  obtain ⟨rfl, rfl, hK, hE, hI⟩ := hv.opn
  have hx := B.exec
  have hb := B.bytes
  have hr := B.returns
  have hts := atoms_spec (ws := wsX8_sleep) B.pre
  have hown : s.vm.findClass RX8 = some m.cls := findClass_of_methodNamed B.named
  have hlocks := B.notSynchronized
  have hout : ∀ (i : Nat), ∀ x ∈ c.exceptionTable.toList, covers x i = false := fun i x hx9 => (hxt x hx9).elim
  have hM : zM p s m c cX8_sleep _ wsX8_sleep RX8 D tc := ⟨hx, hb, hts, hown, hK⟩
  have hinX3 : ∀ w ∈ wsX30, w ∈ wsX8_sleep := by decide +kernel
  have hl := lv_entry ([.ref p0, .int p1]) (n := 2) (Nat.le_of_ble_eq_true rfl)
  rw [lg_entry_eq]
  generalize (lg_sl ([.ref p0, .int p1]) ++ List.replicate (2 - (lg_sl ([.ref p0, .int p1])).length) Slot.unset).toArray = ls at hl ⊢
  have hl : lv_has ls 2 [(0, .ref p0), (1, .int p1)] := hl
  refine lv_aload_n hx hb dX8_sleep_0 rfl (lv_at hl 0 rfl) ?_
  refine lv_iload_n hx hb dX8_sleep_1 rfl (lv_at hl 1 rfl) ?_
  refine z_xq hI (vx_runV (As := [.int p1]) (rest := []) ⟨hx, hb, hml, hown, hts⟩ (c_X8_coreAt l hnt _ _ _ _ _ _ _ p0 hk0 p1 aC hC) (cwV 1 hts gX8_sleep_X8_coreAt rfl rfl rfl (by decide +kernel) ⟨Nat.le_of_ble_eq_true rfl, Nat.le_of_ble_eq_true rfl⟩) (z_preV hK hE hI [] rfl rfl (z_recv hK hI hk0 rfl rfl)) rfl rfl hl.1 rfl (lv_room (Nat.le_of_ble_eq_true rfl)) dX8_sleep_2 ⟨Nat.le_of_ble_eq_true rfl, Nat.le_of_ble_eq_true rfl⟩) (fun E ce q9 u H locs hw hI he1 he2 he3 => ?_) (fun v1 u H locs hw2 hI => ?_)
  · obtain ⟨hxp, rfl⟩ := hw
    exact z_pass hK hI hout hlocks he1 he2 he3 (by first | exact ⟨hxp, rfl⟩ | exact ⟨Or.inl hxp, rfl⟩ | exact ⟨Or.inr hxp, rfl⟩ | exact ⟨Or.inr (Or.inl hxp), rfl⟩ | exact ⟨Or.inr (Or.inr hxp), rfl⟩) (Nat.le_of_ble_eq_true rfl) (Nat.le_of_ble_eq_true rfl)
  obtain ⟨r3, rfl, hr4, hq5, rfl⟩ := hw2
  show W p l e (headSpec wsX8_sleep ({ frames := 7, cells := 1, slots := 6, locals := 120 })).room s m ([.ref p0, .int p1] : List Value).toArray below meth c _ _ 1 6 (vx_MQ below (va_Qi (fun (r : Int32) (u : zS) => zHas g aC 6 p1 ∧ u = (L, κ, g)) (fun (u : zS) (t : State) => zB D tc (zA [] L s.heap.size) [] u t) (zA [] L s.heap.size)) (vx_X (fun u : zS => True) (fun (E : String) (u : zS) (t : State) => (((E = "java/lang/IndexOutOfBoundsException" ∧ ¬ zHas g aC 6 p1)) ∧ u = (L, κ, g)) ∧ zB D tc (zA [] L s.heap.size) [] u t) (zA [] L s.heap.size)) ([.ref p0, .int p1] : List Value).toArray s 1 6 (zA [] L s.heap.size)) (F0 m 5 ls (.ref r3 :: []))
  refine z_get (k := 5) (j := 9) hM hI hr4 rfl rfl hinX3 rfl (by decide) (by decide +kernel) (fun _ h9 => h9) dX8_sleep_5 (fun v6 hv7 => ?_)
  obtain ⟨i8, rfl, hf9⟩ := hv7
  refine vx_ret ?_
  exact W.zret (v := i8) hx hb hr (z_cn (by assumption)) (fun t ht hW => ⟨⟨_, (L, κ, g), rfl, ⟨⟨hq5.1, _, hq5.2⟩, rfl⟩, z_end hK hI ht hW⟩, z_F hI ht⟩) (z_locs hI) dX8_sleep_8

set_option maxHeartbeats 4000000 in
set_option maxRecDepth 100000 in
theorem c_X8_isTripped (l : Launch) (hnt : l.stackTraces = false) (D : va_G) (tc : Nat → ClassId) (z0 : Nat) (L : List Nat) (κ : Nat → Nat) (g : Nat → Nat → Value) (sz : Nat) (p0 : Nat) (hk0 : κ p0 = 10) (p1 : Int32) (aC : Nat) (hC : g p0 1 = .ref aC) : vx_Met l yX8_isTripped wsX8_isTripped ({ frames := 7, cells := 1, slots := 6, locals := 120 }) (zPc D tc z0 [.ref p0, .int p1] [] (L, κ, g) sz) (va_Qi (fun (r : Int32) (u : zS) => zHas g aC 6 p1 ∧ u = (L, κ, g)) (fun (u : zS) (t : State) => zB D tc (zA [] L sz) [] u t) (zA [] L sz)) (vx_X (fun u : zS => True) (fun (E : String) (u : zS) (t : State) => (((E = "java/lang/IndexOutOfBoundsException" ∧ ¬ zHas g aC 6 p1)) ∧ u = (L, κ, g)) ∧ zB D tc (zA [] L sz) [] u t) (zA [] L sz)) 1 6 (zA [] L sz) := by
  refine vx_ofW (cc := cX8_isTripped) (maxL := 2) (ret := (some .boolean)) (by decide) rfl ?_
  intro p e s m args below meth c s₁ B hml hxt hv
  obtain ⟨rfl, rfl, hK, hE, hI⟩ := hv.opn
  have hx := B.exec
  have hb := B.bytes
  have hr := B.returns
  have hts := atoms_spec (ws := wsX8_isTripped) B.pre
  have hown : s.vm.findClass RX8 = some m.cls := findClass_of_methodNamed B.named
  have hlocks := B.notSynchronized
  have hout : ∀ (i : Nat), ∀ x ∈ c.exceptionTable.toList, covers x i = false := fun i x hx9 => (hxt x hx9).elim
  have hM : zM p s m c cX8_isTripped _ wsX8_isTripped RX8 D tc := ⟨hx, hb, hts, hown, hK⟩
  have hinX3 : ∀ w ∈ wsX30, w ∈ wsX8_isTripped := by decide +kernel
  have hl := lv_entry ([.ref p0, .int p1]) (n := 2) (Nat.le_of_ble_eq_true rfl)
  rw [lg_entry_eq]
  generalize (lg_sl ([.ref p0, .int p1]) ++ List.replicate (2 - (lg_sl ([.ref p0, .int p1])).length) Slot.unset).toArray = ls at hl ⊢
  have hl : lv_has ls 2 [(0, .ref p0), (1, .int p1)] := hl
  refine lv_aload_n hx hb dX8_isTripped_0 rfl (lv_at hl 0 rfl) ?_
  refine lv_iload_n hx hb dX8_isTripped_1 rfl (lv_at hl 1 rfl) ?_
  refine z_xq hI (vx_runV (As := [.int p1]) (rest := []) ⟨hx, hb, hml, hown, hts⟩ (c_X8_coreAt l hnt _ _ _ _ _ _ _ p0 hk0 p1 aC hC) (cwV 1 hts gX8_isTripped_X8_coreAt rfl rfl rfl (by decide +kernel) ⟨Nat.le_of_ble_eq_true rfl, Nat.le_of_ble_eq_true rfl⟩) (z_preV hK hE hI [] rfl rfl (z_recv hK hI hk0 rfl rfl)) rfl rfl hl.1 rfl (lv_room (Nat.le_of_ble_eq_true rfl)) dX8_isTripped_2 ⟨Nat.le_of_ble_eq_true rfl, Nat.le_of_ble_eq_true rfl⟩) (fun E ce q9 u H locs hw hI he1 he2 he3 => ?_) (fun v1 u H locs hw2 hI => ?_)
  · obtain ⟨hxp, rfl⟩ := hw
    exact z_pass hK hI hout hlocks he1 he2 he3 (by first | exact ⟨hxp, rfl⟩ | exact ⟨Or.inl hxp, rfl⟩ | exact ⟨Or.inr hxp, rfl⟩ | exact ⟨Or.inr (Or.inl hxp), rfl⟩ | exact ⟨Or.inr (Or.inr hxp), rfl⟩) (Nat.le_of_ble_eq_true rfl) (Nat.le_of_ble_eq_true rfl)
  obtain ⟨r3, rfl, hr4, hq5, rfl⟩ := hw2
  show W p l e (headSpec wsX8_isTripped ({ frames := 7, cells := 1, slots := 6, locals := 120 })).room s m ([.ref p0, .int p1] : List Value).toArray below meth c _ _ 1 6 (vx_MQ below (va_Qi (fun (r : Int32) (u : zS) => zHas g aC 6 p1 ∧ u = (L, κ, g)) (fun (u : zS) (t : State) => zB D tc (zA [] L s.heap.size) [] u t) (zA [] L s.heap.size)) (vx_X (fun u : zS => True) (fun (E : String) (u : zS) (t : State) => (((E = "java/lang/IndexOutOfBoundsException" ∧ ¬ zHas g aC 6 p1)) ∧ u = (L, κ, g)) ∧ zB D tc (zA [] L s.heap.size) [] u t) (zA [] L s.heap.size)) ([.ref p0, .int p1] : List Value).toArray s 1 6 (zA [] L s.heap.size)) (F0 m 5 ls (.ref r3 :: []))
  refine z_get (k := 5) (j := 18) hM hI hr4 rfl rfl hinX3 rfl (by decide) (by decide +kernel) (fun _ h9 => h9) dX8_isTripped_5 (fun v6 hv7 => ?_)
  obtain ⟨i8, rfl, hz9⟩ := zv_b hv7
  refine vx_ret ?_
  exact W.zret (v := i8) hx hb hr (z_bn (by assumption)) (fun t ht hW => ⟨⟨_, (L, κ, g), rfl, ⟨⟨hq5.1, _, hq5.2⟩, rfl⟩, z_end hK hI ht hW⟩, z_F hI ht⟩) (z_locs hI) dX8_isTripped_8

set_option maxHeartbeats 4000000 in
set_option maxRecDepth 100000 in
theorem c_X8_age (l : Launch) (hnt : l.stackTraces = false) (D : va_G) (tc : Nat → ClassId) (z0 : Nat) (L : List Nat) (κ : Nat → Nat) (g : Nat → Nat → Value) (sz : Nat) (p0 : Nat) (hk0 : κ p0 = 10) (p1 : Int32) (aC : Nat) (hC : g p0 1 = .ref aC) : vx_Met l yX8_age wsX8_age ({ frames := 7, cells := 1, slots := 6, locals := 120 }) (zPc D tc z0 [.ref p0, .int p1] [] (L, κ, g) sz) (va_Qi (fun (r : Int32) (u : zS) => zHas g aC 6 p1 ∧ u = (L, κ, g)) (fun (u : zS) (t : State) => zB D tc (zA [] L sz) [] u t) (zA [] L sz)) (vx_X (fun u : zS => True) (fun (E : String) (u : zS) (t : State) => (((E = "java/lang/IndexOutOfBoundsException" ∧ ¬ zHas g aC 6 p1)) ∧ u = (L, κ, g)) ∧ zB D tc (zA [] L sz) [] u t) (zA [] L sz)) 1 6 (zA [] L sz) := by
  refine vx_ofW (cc := cX8_age) (maxL := 2) (ret := (some .int)) (by decide) rfl ?_
  intro p e s m args below meth c s₁ B hml hxt hv
  obtain ⟨rfl, rfl, hK, hE, hI⟩ := hv.opn
  have hx := B.exec
  have hb := B.bytes
  have hr := B.returns
  have hts := atoms_spec (ws := wsX8_age) B.pre
  have hown : s.vm.findClass RX8 = some m.cls := findClass_of_methodNamed B.named
  have hlocks := B.notSynchronized
  have hout : ∀ (i : Nat), ∀ x ∈ c.exceptionTable.toList, covers x i = false := fun i x hx9 => (hxt x hx9).elim
  have hM : zM p s m c cX8_age _ wsX8_age RX8 D tc := ⟨hx, hb, hts, hown, hK⟩
  skip
  have hl := lv_entry ([.ref p0, .int p1]) (n := 2) (Nat.le_of_ble_eq_true rfl)
  rw [lg_entry_eq]
  generalize (lg_sl ([.ref p0, .int p1]) ++ List.replicate (2 - (lg_sl ([.ref p0, .int p1])).length) Slot.unset).toArray = ls at hl ⊢
  have hl : lv_has ls 2 [(0, .ref p0), (1, .int p1)] := hl
  refine lv_aload_n hx hb dX8_age_0 rfl (lv_at hl 0 rfl) ?_
  refine lv_iload_n hx hb dX8_age_1 rfl (lv_at hl 1 rfl) ?_
  refine z_xq hI (vx_runV (As := [.int p1]) (rest := []) ⟨hx, hb, hml, hown, hts⟩ (c_X8_coreAt l hnt _ _ _ _ _ _ _ p0 hk0 p1 aC hC) (cwV 1 hts gX8_age_X8_coreAt rfl rfl rfl (by decide +kernel) ⟨Nat.le_of_ble_eq_true rfl, Nat.le_of_ble_eq_true rfl⟩) (z_preV hK hE hI [] rfl rfl (z_recv hK hI hk0 rfl rfl)) rfl rfl hl.1 rfl (lv_room (Nat.le_of_ble_eq_true rfl)) dX8_age_2 ⟨Nat.le_of_ble_eq_true rfl, Nat.le_of_ble_eq_true rfl⟩) (fun E ce q9 u H locs hw hI he1 he2 he3 => ?_) (fun v1 u H locs hw2 hI => ?_)
  · obtain ⟨hxp, rfl⟩ := hw
    exact z_pass hK hI hout hlocks he1 he2 he3 (by first | exact ⟨hxp, rfl⟩ | exact ⟨Or.inl hxp, rfl⟩ | exact ⟨Or.inr hxp, rfl⟩ | exact ⟨Or.inr (Or.inl hxp), rfl⟩ | exact ⟨Or.inr (Or.inr hxp), rfl⟩) (Nat.le_of_ble_eq_true rfl) (Nat.le_of_ble_eq_true rfl)
  obtain ⟨r3, rfl, hr4, hq5, rfl⟩ := hw2
  show W p l e (headSpec wsX8_age ({ frames := 7, cells := 1, slots := 6, locals := 120 })).room s m ([.ref p0, .int p1] : List Value).toArray below meth c _ _ 1 6 (vx_MQ below (va_Qi (fun (r : Int32) (u : zS) => zHas g aC 6 p1 ∧ u = (L, κ, g)) (fun (u : zS) (t : State) => zB D tc (zA [] L s.heap.size) [] u t) (zA [] L s.heap.size)) (vx_X (fun u : zS => True) (fun (E : String) (u : zS) (t : State) => (((E = "java/lang/IndexOutOfBoundsException" ∧ ¬ zHas g aC 6 p1)) ∧ u = (L, κ, g)) ∧ zB D tc (zA [] L s.heap.size) [] u t) (zA [] L s.heap.size)) ([.ref p0, .int p1] : List Value).toArray s 1 6 (zA [] L s.heap.size)) (F0 m 5 ls (.ref r3 :: []))
  refine vp_callSi (W.runV (As := []) (rest := []) ⟨hx, hb, hml, hown, hts⟩ (c_X3_inAge l _ _ _ _ _ _ _ r3 hr4) (cwV 0 hts gX8_age_X3_inAge rfl rfl rfl (by decide +kernel) ⟨Nat.le_of_ble_eq_true rfl, Nat.le_of_ble_eq_true rfl⟩) (z_preV hK hE hI [] rfl rfl (z_recv hK hI hr4 rfl rfl)) rfl rfl hl.1 rfl (lv_room (Nat.le_of_ble_eq_true rfl)) dX8_age_5 ⟨Nat.le_of_ble_eq_true rfl, Nat.le_of_ble_eq_true rfl⟩) (fun v6 hw7 => ?_)
  refine vx_ret ?_
  exact W.iret (v := v6) hx hb hr (fun t ht hW => ⟨⟨_, (L, κ, g), rfl, ⟨⟨hq5.1, _, hq5.2⟩, rfl⟩, z_end hK hI ht hW⟩, z_F hI ht⟩) (z_locs hI) dX8_age_8

set_option maxHeartbeats 4000000 in
set_option maxRecDepth 100000 in
theorem c_X8_isRetired (l : Launch) (hnt : l.stackTraces = false) (D : va_G) (tc : Nat → ClassId) (z0 : Nat) (L : List Nat) (κ : Nat → Nat) (g : Nat → Nat → Value) (sz : Nat) (p0 : Nat) (hk0 : κ p0 = 10) (p1 : Int32) (aC : Nat) (hC : g p0 1 = .ref aC) : vx_Met l yX8_isRetired wsX8_isRetired ({ frames := 7, cells := 1, slots := 6, locals := 120 }) (zPc D tc z0 [.ref p0, .int p1] [] (L, κ, g) sz) (va_Qi (fun (r : Int32) (u : zS) => zHas g aC 6 p1 ∧ u = (L, κ, g)) (fun (u : zS) (t : State) => zB D tc (zA [] L sz) [] u t) (zA [] L sz)) (vx_X (fun u : zS => True) (fun (E : String) (u : zS) (t : State) => (((E = "java/lang/IndexOutOfBoundsException" ∧ ¬ zHas g aC 6 p1)) ∧ u = (L, κ, g)) ∧ zB D tc (zA [] L sz) [] u t) (zA [] L sz)) 1 6 (zA [] L sz) := by
  refine vx_ofW (cc := cX8_isRetired) (maxL := 2) (ret := (some .boolean)) (by decide) rfl ?_
  intro p e s m args below meth c s₁ B hml hxt hv
  obtain ⟨rfl, rfl, hK, hE, hI⟩ := hv.opn
  have hx := B.exec
  have hb := B.bytes
  have hr := B.returns
  have hts := atoms_spec (ws := wsX8_isRetired) B.pre
  have hown : s.vm.findClass RX8 = some m.cls := findClass_of_methodNamed B.named
  have hlocks := B.notSynchronized
  have hout : ∀ (i : Nat), ∀ x ∈ c.exceptionTable.toList, covers x i = false := fun i x hx9 => (hxt x hx9).elim
  have hM : zM p s m c cX8_isRetired _ wsX8_isRetired RX8 D tc := ⟨hx, hb, hts, hown, hK⟩
  skip
  have hl := lv_entry ([.ref p0, .int p1]) (n := 2) (Nat.le_of_ble_eq_true rfl)
  rw [lg_entry_eq]
  generalize (lg_sl ([.ref p0, .int p1]) ++ List.replicate (2 - (lg_sl ([.ref p0, .int p1])).length) Slot.unset).toArray = ls at hl ⊢
  have hl : lv_has ls 2 [(0, .ref p0), (1, .int p1)] := hl
  refine lv_aload_n hx hb dX8_isRetired_0 rfl (lv_at hl 0 rfl) ?_
  refine lv_iload_n hx hb dX8_isRetired_1 rfl (lv_at hl 1 rfl) ?_
  refine z_xq hI (vx_runV (As := [.int p1]) (rest := []) ⟨hx, hb, hml, hown, hts⟩ (c_X8_coreAt l hnt _ _ _ _ _ _ _ p0 hk0 p1 aC hC) (cwV 1 hts gX8_isRetired_X8_coreAt rfl rfl rfl (by decide +kernel) ⟨Nat.le_of_ble_eq_true rfl, Nat.le_of_ble_eq_true rfl⟩) (z_preV hK hE hI [] rfl rfl (z_recv hK hI hk0 rfl rfl)) rfl rfl hl.1 rfl (lv_room (Nat.le_of_ble_eq_true rfl)) dX8_isRetired_2 ⟨Nat.le_of_ble_eq_true rfl, Nat.le_of_ble_eq_true rfl⟩) (fun E ce q9 u H locs hw hI he1 he2 he3 => ?_) (fun v1 u H locs hw2 hI => ?_)
  · obtain ⟨hxp, rfl⟩ := hw
    exact z_pass hK hI hout hlocks he1 he2 he3 (by first | exact ⟨hxp, rfl⟩ | exact ⟨Or.inl hxp, rfl⟩ | exact ⟨Or.inr hxp, rfl⟩ | exact ⟨Or.inr (Or.inl hxp), rfl⟩ | exact ⟨Or.inr (Or.inr hxp), rfl⟩) (Nat.le_of_ble_eq_true rfl) (Nat.le_of_ble_eq_true rfl)
  obtain ⟨r3, rfl, hr4, hq5, rfl⟩ := hw2
  show W p l e (headSpec wsX8_isRetired ({ frames := 7, cells := 1, slots := 6, locals := 120 })).room s m ([.ref p0, .int p1] : List Value).toArray below meth c _ _ 1 6 (vx_MQ below (va_Qi (fun (r : Int32) (u : zS) => zHas g aC 6 p1 ∧ u = (L, κ, g)) (fun (u : zS) (t : State) => zB D tc (zA [] L s.heap.size) [] u t) (zA [] L s.heap.size)) (vx_X (fun u : zS => True) (fun (E : String) (u : zS) (t : State) => (((E = "java/lang/IndexOutOfBoundsException" ∧ ¬ zHas g aC 6 p1)) ∧ u = (L, κ, g)) ∧ zB D tc (zA [] L s.heap.size) [] u t) (zA [] L s.heap.size)) ([.ref p0, .int p1] : List Value).toArray s 1 6 (zA [] L s.heap.size)) (F0 m 5 ls (.ref r3 :: []))
  refine vp_callSi (W.runV (As := []) (rest := []) ⟨hx, hb, hml, hown, hts⟩ (c_X3_isTooOld l _ _ _ _ _ _ _ r3 hr4) (cwV 0 hts gX8_isRetired_X3_isTooOld rfl rfl rfl (by decide +kernel) ⟨Nat.le_of_ble_eq_true rfl, Nat.le_of_ble_eq_true rfl⟩) (z_preV hK hE hI [] rfl rfl (z_recv hK hI hr4 rfl rfl)) rfl rfl hl.1 rfl (lv_room (Nat.le_of_ble_eq_true rfl)) dX8_isRetired_5 ⟨Nat.le_of_ble_eq_true rfl, Nat.le_of_ble_eq_true rfl⟩) (fun v6 hw7 => ?_)
  refine vx_ret ?_
  exact W.zret (v := v6) hx hb hr (z_bn (by assumption)) (fun t ht hW => ⟨⟨_, (L, κ, g), rfl, ⟨⟨hq5.1, _, hq5.2⟩, rfl⟩, z_end hK hI ht hW⟩, z_F hI ht⟩) (z_locs hI) dX8_isRetired_8

set_option maxHeartbeats 4000000 in
set_option maxRecDepth 100000 in
theorem c_X8_work (l : Launch) (hnt : l.stackTraces = false) (D : va_G) (tc : Nat → ClassId) (z0 : Nat) (L : List Nat) (κ : Nat → Nat) (g : Nat → Nat → Value) (sz : Nat) (p0 : Nat) (hk0 : κ p0 = 10) (p1 : Int32) (aT : Nat) (hT : g p0 2 = .ref aT) : vx_Met l yX8_work wsX8_work ({ frames := 7, cells := 1, slots := 6, locals := 120 }) (zPc D tc z0 [.ref p0, .int p1] [] (L, κ, g) sz) (va_Qi (fun (r : Int32) (u : zS) => zHas g aT 8 p1 ∧ u = (L, κ, g)) (fun (u : zS) (t : State) => zB D tc (zA [] L sz) [] u t) (zA [] L sz)) (vx_X (fun u : zS => True) (fun (E : String) (u : zS) (t : State) => (((E = "java/lang/IndexOutOfBoundsException" ∧ ¬ zHas g aT 8 p1)) ∧ u = (L, κ, g)) ∧ zB D tc (zA [] L sz) [] u t) (zA [] L sz)) 1 6 (zA [] L sz) := by
  refine vx_ofW (cc := cX8_work) (maxL := 2) (ret := (some .int)) (by decide) rfl ?_
  intro p e s m args below meth c s₁ B hml hxt hv
  obtain ⟨rfl, rfl, hK, hE, hI⟩ := hv.opn
  have hx := B.exec
  have hb := B.bytes
  have hr := B.returns
  have hts := atoms_spec (ws := wsX8_work) B.pre
  have hown : s.vm.findClass RX8 = some m.cls := findClass_of_methodNamed B.named
  have hlocks := B.notSynchronized
  have hout : ∀ (i : Nat), ∀ x ∈ c.exceptionTable.toList, covers x i = false := fun i x hx9 => (hxt x hx9).elim
  have hM : zM p s m c cX8_work _ wsX8_work RX8 D tc := ⟨hx, hb, hts, hown, hK⟩
  have hinX7 : ∀ w ∈ wsX70, w ∈ wsX8_work := by decide +kernel
  have hl := lv_entry ([.ref p0, .int p1]) (n := 2) (Nat.le_of_ble_eq_true rfl)
  rw [lg_entry_eq]
  generalize (lg_sl ([.ref p0, .int p1]) ++ List.replicate (2 - (lg_sl ([.ref p0, .int p1])).length) Slot.unset).toArray = ls at hl ⊢
  have hl : lv_has ls 2 [(0, .ref p0), (1, .int p1)] := hl
  refine lv_aload_n hx hb dX8_work_0 rfl (lv_at hl 0 rfl) ?_
  refine lv_iload_n hx hb dX8_work_1 rfl (lv_at hl 1 rfl) ?_
  refine z_xq hI (vx_runV (As := [.int p1]) (rest := []) ⟨hx, hb, hml, hown, hts⟩ (c_X8_taskAt l hnt _ _ _ _ _ _ _ p0 hk0 p1 aT hT) (cwV 1 hts gX8_work_X8_taskAt rfl rfl rfl (by decide +kernel) ⟨Nat.le_of_ble_eq_true rfl, Nat.le_of_ble_eq_true rfl⟩) (z_preV hK hE hI [] rfl rfl (z_recv hK hI hk0 rfl rfl)) rfl rfl hl.1 rfl (lv_room (Nat.le_of_ble_eq_true rfl)) dX8_work_2 ⟨Nat.le_of_ble_eq_true rfl, Nat.le_of_ble_eq_true rfl⟩) (fun E ce q9 u H locs hw hI he1 he2 he3 => ?_) (fun v1 u H locs hw2 hI => ?_)
  · obtain ⟨hxp, rfl⟩ := hw
    exact z_pass hK hI hout hlocks he1 he2 he3 (by first | exact ⟨hxp, rfl⟩ | exact ⟨Or.inl hxp, rfl⟩ | exact ⟨Or.inr hxp, rfl⟩ | exact ⟨Or.inr (Or.inl hxp), rfl⟩ | exact ⟨Or.inr (Or.inr hxp), rfl⟩) (Nat.le_of_ble_eq_true rfl) (Nat.le_of_ble_eq_true rfl)
  obtain ⟨r3, rfl, hr4, hq5, rfl⟩ := hw2
  show W p l e (headSpec wsX8_work ({ frames := 7, cells := 1, slots := 6, locals := 120 })).room s m ([.ref p0, .int p1] : List Value).toArray below meth c _ _ 1 6 (vx_MQ below (va_Qi (fun (r : Int32) (u : zS) => zHas g aT 8 p1 ∧ u = (L, κ, g)) (fun (u : zS) (t : State) => zB D tc (zA [] L s.heap.size) [] u t) (zA [] L s.heap.size)) (vx_X (fun u : zS => True) (fun (E : String) (u : zS) (t : State) => (((E = "java/lang/IndexOutOfBoundsException" ∧ ¬ zHas g aT 8 p1)) ∧ u = (L, κ, g)) ∧ zB D tc (zA [] L s.heap.size) [] u t) (zA [] L s.heap.size)) ([.ref p0, .int p1] : List Value).toArray s 1 6 (zA [] L s.heap.size)) (F0 m 5 ls (.ref r3 :: []))
  refine z_get (k := 9) (j := 2) hM hI hr4 rfl rfl hinX7 rfl (by decide) (by decide +kernel) (fun _ h9 => h9) dX8_work_5 (fun v6 hv7 => ?_)
  obtain ⟨i8, rfl⟩ := hv7
  refine vx_ret ?_
  exact W.iret (v := i8) hx hb hr (fun t ht hW => ⟨⟨_, (L, κ, g), rfl, ⟨⟨hq5.1, _, hq5.2⟩, rfl⟩, z_end hK hI ht hW⟩, z_F hI ht⟩) (z_locs hI) dX8_work_8

set_option maxHeartbeats 4000000 in
set_option maxRecDepth 100000 in
theorem c_X8_isCold (l : Launch) (hnt : l.stackTraces = false) (D : va_G) (tc : Nat → ClassId) (z0 : Nat) (L : List Nat) (κ : Nat → Nat) (g : Nat → Nat → Value) (sz : Nat) (p0 : Nat) (hk0 : κ p0 = 10) (p1 : Int32) (aT : Nat) (hT : g p0 2 = .ref aT) : vx_Met l yX8_isCold wsX8_isCold ({ frames := 7, cells := 1, slots := 6, locals := 120 }) (zPc D tc z0 [.ref p0, .int p1] [] (L, κ, g) sz) (va_Qi (fun (r : Int32) (u : zS) => zHas g aT 8 p1 ∧ u = (L, κ, g)) (fun (u : zS) (t : State) => zB D tc (zA [] L sz) [] u t) (zA [] L sz)) (vx_X (fun u : zS => True) (fun (E : String) (u : zS) (t : State) => (((E = "java/lang/IndexOutOfBoundsException" ∧ ¬ zHas g aT 8 p1)) ∧ u = (L, κ, g)) ∧ zB D tc (zA [] L sz) [] u t) (zA [] L sz)) 1 6 (zA [] L sz) := by
  refine vx_ofW (cc := cX8_isCold) (maxL := 2) (ret := (some .boolean)) (by decide) rfl ?_
  intro p e s m args below meth c s₁ B hml hxt hv
  obtain ⟨rfl, rfl, hK, hE, hI⟩ := hv.opn
  have hx := B.exec
  have hb := B.bytes
  have hr := B.returns
  have hts := atoms_spec (ws := wsX8_isCold) B.pre
  have hown : s.vm.findClass RX8 = some m.cls := findClass_of_methodNamed B.named
  have hlocks := B.notSynchronized
  have hout : ∀ (i : Nat), ∀ x ∈ c.exceptionTable.toList, covers x i = false := fun i x hx9 => (hxt x hx9).elim
  have hM : zM p s m c cX8_isCold _ wsX8_isCold RX8 D tc := ⟨hx, hb, hts, hown, hK⟩
  have hinX7 : ∀ w ∈ wsX70, w ∈ wsX8_isCold := by decide +kernel
  have hl := lv_entry ([.ref p0, .int p1]) (n := 2) (Nat.le_of_ble_eq_true rfl)
  rw [lg_entry_eq]
  generalize (lg_sl ([.ref p0, .int p1]) ++ List.replicate (2 - (lg_sl ([.ref p0, .int p1])).length) Slot.unset).toArray = ls at hl ⊢
  have hl : lv_has ls 2 [(0, .ref p0), (1, .int p1)] := hl
  refine lv_aload_n hx hb dX8_isCold_0 rfl (lv_at hl 0 rfl) ?_
  refine lv_iload_n hx hb dX8_isCold_1 rfl (lv_at hl 1 rfl) ?_
  refine z_xq hI (vx_runV (As := [.int p1]) (rest := []) ⟨hx, hb, hml, hown, hts⟩ (c_X8_taskAt l hnt _ _ _ _ _ _ _ p0 hk0 p1 aT hT) (cwV 1 hts gX8_isCold_X8_taskAt rfl rfl rfl (by decide +kernel) ⟨Nat.le_of_ble_eq_true rfl, Nat.le_of_ble_eq_true rfl⟩) (z_preV hK hE hI [] rfl rfl (z_recv hK hI hk0 rfl rfl)) rfl rfl hl.1 rfl (lv_room (Nat.le_of_ble_eq_true rfl)) dX8_isCold_2 ⟨Nat.le_of_ble_eq_true rfl, Nat.le_of_ble_eq_true rfl⟩) (fun E ce q9 u H locs hw hI he1 he2 he3 => ?_) (fun v1 u H locs hw2 hI => ?_)
  · obtain ⟨hxp, rfl⟩ := hw
    exact z_pass hK hI hout hlocks he1 he2 he3 (by first | exact ⟨hxp, rfl⟩ | exact ⟨Or.inl hxp, rfl⟩ | exact ⟨Or.inr hxp, rfl⟩ | exact ⟨Or.inr (Or.inl hxp), rfl⟩ | exact ⟨Or.inr (Or.inr hxp), rfl⟩) (Nat.le_of_ble_eq_true rfl) (Nat.le_of_ble_eq_true rfl)
  obtain ⟨r3, rfl, hr4, hq5, rfl⟩ := hw2
  show W p l e (headSpec wsX8_isCold ({ frames := 7, cells := 1, slots := 6, locals := 120 })).room s m ([.ref p0, .int p1] : List Value).toArray below meth c _ _ 1 6 (vx_MQ below (va_Qi (fun (r : Int32) (u : zS) => zHas g aT 8 p1 ∧ u = (L, κ, g)) (fun (u : zS) (t : State) => zB D tc (zA [] L s.heap.size) [] u t) (zA [] L s.heap.size)) (vx_X (fun u : zS => True) (fun (E : String) (u : zS) (t : State) => (((E = "java/lang/IndexOutOfBoundsException" ∧ ¬ zHas g aT 8 p1)) ∧ u = (L, κ, g)) ∧ zB D tc (zA [] L s.heap.size) [] u t) (zA [] L s.heap.size)) ([.ref p0, .int p1] : List Value).toArray s 1 6 (zA [] L s.heap.size)) (F0 m 5 ls (.ref r3 :: []))
  refine z_get (k := 9) (j := 3) hM hI hr4 rfl rfl hinX7 rfl (by decide) (by decide +kernel) (fun _ h9 => h9) dX8_isCold_5 (fun v6 hv7 => ?_)
  obtain ⟨i8, rfl⟩ := hv7
  refine lv_if_le (tgt := 15) hx hb dX8_isCold_8 (by decide) (fun c9 => ?_) (fun c9 => ?_)
  · skip
    refine lv_iconst (v := 0) hx hb dX8_isCold_15 (by decide) ?_
    refine vx_ret ?_
    exact W.zret (v := 0) hx hb hr (by decide) (fun t ht hW => ⟨⟨_, (L, κ, g), rfl, ⟨⟨hq5.1, _, hq5.2⟩, rfl⟩, z_end hK hI ht hW⟩, z_F hI ht⟩) (z_locs hI) dX8_isCold_16
  · skip
    refine lv_iconst (v := 1) hx hb dX8_isCold_11 (by decide) ?_
    refine lv_goto (tgt := 16) hx hb dX8_isCold_12 (by decide) ?_
    refine vx_ret ?_
    exact W.zret (v := 1) hx hb hr (by decide) (fun t ht hW => ⟨⟨_, (L, κ, g), rfl, ⟨⟨hq5.1, _, hq5.2⟩, rfl⟩, z_end hK hI ht hW⟩, z_F hI ht⟩) (z_locs hI) dX8_isCold_16

set_option maxHeartbeats 4000000 in
set_option maxRecDepth 100000 in
theorem c_X8_isBusy (l : Launch) (hnt : l.stackTraces = false) (D : va_G) (tc : Nat → ClassId) (z0 : Nat) (L : List Nat) (κ : Nat → Nat) (g : Nat → Nat → Value) (sz : Nat) (p0 : Nat) (hk0 : κ p0 = 10) (p1 : Int32) (aC : Nat) (hC : g p0 1 = .ref aC) : vx_Met l yX8_isBusy wsX8_isBusy ({ frames := 7, cells := 1, slots := 6, locals := 120 }) (zPc D tc z0 [.ref p0, .int p1] [] (L, κ, g) sz) (va_Qi (fun (r : Int32) (u : zS) => zHas g aC 6 p1 ∧ u = (L, κ, g)) (fun (u : zS) (t : State) => zB D tc (zA [] L sz) [] u t) (zA [] L sz)) (vx_X (fun u : zS => True) (fun (E : String) (u : zS) (t : State) => (((E = "java/lang/IndexOutOfBoundsException" ∧ ¬ zHas g aC 6 p1)) ∧ u = (L, κ, g)) ∧ zB D tc (zA [] L sz) [] u t) (zA [] L sz)) 1 6 (zA [] L sz) := by
  refine vx_ofW (cc := cX8_isBusy) (maxL := 2) (ret := (some .boolean)) (by decide) rfl ?_
  intro p e s m args below meth c s₁ B hml hxt hv
  obtain ⟨rfl, rfl, hK, hE, hI⟩ := hv.opn
  have hx := B.exec
  have hb := B.bytes
  have hr := B.returns
  have hts := atoms_spec (ws := wsX8_isBusy) B.pre
  have hown : s.vm.findClass RX8 = some m.cls := findClass_of_methodNamed B.named
  have hlocks := B.notSynchronized
  have hout : ∀ (i : Nat), ∀ x ∈ c.exceptionTable.toList, covers x i = false := fun i x hx9 => (hxt x hx9).elim
  have hM : zM p s m c cX8_isBusy _ wsX8_isBusy RX8 D tc := ⟨hx, hb, hts, hown, hK⟩
  skip
  have hl := lv_entry ([.ref p0, .int p1]) (n := 2) (Nat.le_of_ble_eq_true rfl)
  rw [lg_entry_eq]
  generalize (lg_sl ([.ref p0, .int p1]) ++ List.replicate (2 - (lg_sl ([.ref p0, .int p1])).length) Slot.unset).toArray = ls at hl ⊢
  have hl : lv_has ls 2 [(0, .ref p0), (1, .int p1)] := hl
  refine lv_aload_n hx hb dX8_isBusy_0 rfl (lv_at hl 0 rfl) ?_
  refine lv_iload_n hx hb dX8_isBusy_1 rfl (lv_at hl 1 rfl) ?_
  refine z_xq hI (vx_runV (As := [.int p1]) (rest := []) ⟨hx, hb, hml, hown, hts⟩ (c_X8_coreAt l hnt _ _ _ _ _ _ _ p0 hk0 p1 aC hC) (cwV 1 hts gX8_isBusy_X8_coreAt rfl rfl rfl (by decide +kernel) ⟨Nat.le_of_ble_eq_true rfl, Nat.le_of_ble_eq_true rfl⟩) (z_preV hK hE hI [] rfl rfl (z_recv hK hI hk0 rfl rfl)) rfl rfl hl.1 rfl (lv_room (Nat.le_of_ble_eq_true rfl)) dX8_isBusy_2 ⟨Nat.le_of_ble_eq_true rfl, Nat.le_of_ble_eq_true rfl⟩) (fun E ce q9 u H locs hw hI he1 he2 he3 => ?_) (fun v1 u H locs hw2 hI => ?_)
  · obtain ⟨hxp, rfl⟩ := hw
    exact z_pass hK hI hout hlocks he1 he2 he3 (by first | exact ⟨hxp, rfl⟩ | exact ⟨Or.inl hxp, rfl⟩ | exact ⟨Or.inr hxp, rfl⟩ | exact ⟨Or.inr (Or.inl hxp), rfl⟩ | exact ⟨Or.inr (Or.inr hxp), rfl⟩) (Nat.le_of_ble_eq_true rfl) (Nat.le_of_ble_eq_true rfl)
  obtain ⟨r3, rfl, hr4, hq5, rfl⟩ := hw2
  show W p l e (headSpec wsX8_isBusy ({ frames := 7, cells := 1, slots := 6, locals := 120 })).room s m ([.ref p0, .int p1] : List Value).toArray below meth c _ _ 1 6 (vx_MQ below (va_Qi (fun (r : Int32) (u : zS) => zHas g aC 6 p1 ∧ u = (L, κ, g)) (fun (u : zS) (t : State) => zB D tc (zA [] L s.heap.size) [] u t) (zA [] L s.heap.size)) (vx_X (fun u : zS => True) (fun (E : String) (u : zS) (t : State) => (((E = "java/lang/IndexOutOfBoundsException" ∧ ¬ zHas g aC 6 p1)) ∧ u = (L, κ, g)) ∧ zB D tc (zA [] L s.heap.size) [] u t) (zA [] L s.heap.size)) ([.ref p0, .int p1] : List Value).toArray s 1 6 (zA [] L s.heap.size)) (F0 m 5 ls (.ref r3 :: []))
  refine lv_pop hx hb dX8_isBusy_5 rfl ?_
  refine lv_aload_n hx hb dX8_isBusy_6 rfl (lv_at hl 0 rfl) ?_
  refine lv_iload_n hx hb dX8_isBusy_7 rfl (lv_at hl 1 rfl) ?_
  refine va_csq (W.runV (As := [.int p1]) (rest := []) ⟨hx, hb, hml, hown, hts⟩ (c_X8_runningOn l _ _ _ _ _ _ _ p0 hk0 p1) (cwV 1 hts gX8_isBusy_X8_runningOn rfl rfl rfl (by decide +kernel) ⟨Nat.le_of_ble_eq_true rfl, Nat.le_of_ble_eq_true rfl⟩) (z_preV hK hE hI [] rfl rfl (z_recv hK hI hk0 rfl rfl)) rfl rfl hl.1 rfl (lv_room (Nat.le_of_ble_eq_true rfl)) dX8_isBusy_8 ⟨Nat.le_of_ble_eq_true rfl, Nat.le_of_ble_eq_true rfl⟩) (fun v6 hw7 => ?_)
  rcases v6 with _ | r8
  · show W p l e (headSpec wsX8_isBusy ({ frames := 7, cells := 1, slots := 6, locals := 120 })).room s m ([.ref p0, .int p1] : List Value).toArray below meth c _ _ _ _ (vx_MQ below (va_Qi (fun (r : Int32) (u : zS) => zHas g aC 6 p1 ∧ u = (L, κ, g)) (fun (u : zS) (t : State) => zB D tc (zA [] L s.heap.size) [] u t) (zA [] L s.heap.size)) (vx_X (fun u : zS => True) (fun (E : String) (u : zS) (t : State) => (((E = "java/lang/IndexOutOfBoundsException" ∧ ¬ zHas g aC 6 p1)) ∧ u = (L, κ, g)) ∧ zB D tc (zA [] L s.heap.size) [] u t) (zA [] L s.heap.size)) ([.ref p0, .int p1] : List Value).toArray s 1 6 (zA [] L s.heap.size)) (F0 m 11 ls (.null :: []))
    skip
    refine lv_ifnullN (tgt := 18) hx hb dX8_isBusy_11 (by decide) ?_
    refine lv_iconst (v := 0) hx hb dX8_isBusy_18 (by decide) ?_
    refine vx_ret ?_
    exact W.zret (v := 0) hx hb hr (by decide) (fun t ht hW => ⟨⟨_, (L, κ, g), rfl, ⟨⟨hq5.1, _, hq5.2⟩, rfl⟩, z_end hK hI ht hW⟩, z_F hI ht⟩) (z_locs hI) dX8_isBusy_19
  · show W p l e (headSpec wsX8_isBusy ({ frames := 7, cells := 1, slots := 6, locals := 120 })).room s m ([.ref p0, .int p1] : List Value).toArray below meth c _ _ _ _ (vx_MQ below (va_Qi (fun (r : Int32) (u : zS) => zHas g aC 6 p1 ∧ u = (L, κ, g)) (fun (u : zS) (t : State) => zB D tc (zA [] L s.heap.size) [] u t) (zA [] L s.heap.size)) (vx_X (fun u : zS => True) (fun (E : String) (u : zS) (t : State) => (((E = "java/lang/IndexOutOfBoundsException" ∧ ¬ zHas g aC 6 p1)) ∧ u = (L, κ, g)) ∧ zB D tc (zA [] L s.heap.size) [] u t) (zA [] L s.heap.size)) ([.ref p0, .int p1] : List Value).toArray s 1 6 (zA [] L s.heap.size)) (F0 m 11 ls (.ref r8 :: []))
    have hr9 : κ r8 = 9 := hw7 _ rfl
    refine lv_ifnull hx hb dX8_isBusy_11 ?_
    refine lv_iconst (v := 1) hx hb dX8_isBusy_14 (by decide) ?_
    refine lv_goto (tgt := 19) hx hb dX8_isBusy_15 (by decide) ?_
    refine vx_ret ?_
    exact W.zret (v := 1) hx hb hr (by decide) (fun t ht hW => ⟨⟨_, (L, κ, g), rfl, ⟨⟨hq5.1, _, hq5.2⟩, rfl⟩, z_end hK hI ht hW⟩, z_F hI ht⟩) (z_locs hI) dX8_isBusy_19

set_option maxHeartbeats 4000000 in
set_option maxRecDepth 100000 in
theorem c_X8_need (l : Launch) (hnt : l.stackTraces = false) (D : va_G) (tc : Nat → ClassId) (z0 : Nat) (L : List Nat) (κ : Nat → Nat) (g : Nat → Nat → Value) (sz : Nat) (p0 : Nat) (hk0 : κ p0 = 10) (p1 : Int32) (p2 : Int32) (aC : Nat) (hC : g p0 1 = .ref aC) : vx_Met l yX8_need wsX8_need ({ frames := 7, cells := 2, slots := 12, locals := 120 }) (zPc D tc z0 [.ref p0, .int p1, .int p2] [] (L, κ, g) sz) (va_Qi (fun (r : Int32) (u : zS) => zHas g aC 6 p1 ∧ u = (L, κ, g)) (fun (u : zS) (t : State) => zB D tc (zA [] L sz) [] u t) (zA [] L sz)) (vx_X (fun u : zS => True) (fun (E : String) (u : zS) (t : State) => (((E = "java/lang/IndexOutOfBoundsException" ∧ ¬ zHas g aC 6 p1) ∨ (E = "java/lang/IllegalArgumentException")) ∧ u = (L, κ, g)) ∧ zB D tc (zA [] L sz) [] u t) (zA [] L sz)) 2 12 (zA [] L sz) := by
  refine vx_ofW (cc := cX8_need) (maxL := 4) (ret := (some .int)) (by decide) rfl ?_
  intro p e s m args below meth c s₁ B hml hxt hv
  obtain ⟨rfl, rfl, hK, hE, hI⟩ := hv.opn
  have hx := B.exec
  have hb := B.bytes
  have hr := B.returns
  have hts := atoms_spec (ws := wsX8_need) B.pre
  have hown : s.vm.findClass RX8 = some m.cls := findClass_of_methodNamed B.named
  have hlocks := B.notSynchronized
  have hout : ∀ (i : Nat), ∀ x ∈ c.exceptionTable.toList, covers x i = false := fun i x hx9 => (hxt x hx9).elim
  have hM : zM p s m c cX8_need _ wsX8_need RX8 D tc := ⟨hx, hb, hts, hown, hK⟩
  skip
  have hl := lv_entry ([.ref p0, .int p1, .int p2]) (n := 4) (Nat.le_of_ble_eq_true rfl)
  rw [lg_entry_eq]
  generalize (lg_sl ([.ref p0, .int p1, .int p2]) ++ List.replicate (4 - (lg_sl ([.ref p0, .int p1, .int p2])).length) Slot.unset).toArray = ls at hl ⊢
  have hl : lv_has ls 4 [(0, .ref p0), (1, .int p1), (2, .int p2)] := hl
  refine lv_aload_n hx hb dX8_need_0 rfl (lv_at hl 0 rfl) ?_
  refine lv_iload_n hx hb dX8_need_1 rfl (lv_at hl 1 rfl) ?_
  refine z_xq hI (vx_runV (As := [.int p1]) (rest := []) ⟨hx, hb, hml, hown, hts⟩ (c_X8_coreAt l hnt _ _ _ _ _ _ _ p0 hk0 p1 aC hC) (cwV 1 hts gX8_need_X8_coreAt rfl rfl rfl (by decide +kernel) ⟨Nat.le_of_ble_eq_true rfl, Nat.le_of_ble_eq_true rfl⟩) (z_preV hK hE hI [] rfl rfl (z_recv hK hI hk0 rfl rfl)) rfl rfl hl.1 rfl (lv_room (Nat.le_of_ble_eq_true rfl)) dX8_need_2 ⟨Nat.le_of_ble_eq_true rfl, Nat.le_of_ble_eq_true rfl⟩) (fun E ce q9 u H locs hw hI he1 he2 he3 => ?_) (fun v1 u H locs hw2 hI => ?_)
  · obtain ⟨hxp, rfl⟩ := hw
    exact z_pass hK hI hout hlocks he1 he2 he3 (by first | exact ⟨hxp, rfl⟩ | exact ⟨Or.inl hxp, rfl⟩ | exact ⟨Or.inr hxp, rfl⟩ | exact ⟨Or.inr (Or.inl hxp), rfl⟩ | exact ⟨Or.inr (Or.inr hxp), rfl⟩) (Nat.le_of_ble_eq_true rfl) (Nat.le_of_ble_eq_true rfl)
  obtain ⟨r3, rfl, hr4, hq5, rfl⟩ := hw2
  show W p l e (headSpec wsX8_need ({ frames := 7, cells := 2, slots := 12, locals := 120 })).room s m ([.ref p0, .int p1, .int p2] : List Value).toArray below meth c _ _ 1 6 (vx_MQ below (va_Qi (fun (r : Int32) (u : zS) => zHas g aC 6 p1 ∧ u = (L, κ, g)) (fun (u : zS) (t : State) => zB D tc (zA [] L s.heap.size) [] u t) (zA [] L s.heap.size)) (vx_X (fun u : zS => True) (fun (E : String) (u : zS) (t : State) => (((E = "java/lang/IndexOutOfBoundsException" ∧ ¬ zHas g aC 6 p1) ∨ (E = "java/lang/IllegalArgumentException")) ∧ u = (L, κ, g)) ∧ zB D tc (zA [] L s.heap.size) [] u t) (zA [] L s.heap.size)) ([.ref p0, .int p1, .int p2] : List Value).toArray s 2 12 (zA [] L s.heap.size)) (F0 m 5 ls (.ref r3 :: []))
  refine lv_astore_n (lv' := [(3, .ref r3), (0, .ref p0), (1, .int p1), (2, .int p2)]) hx hb dX8_need_5 rfl hl (by decide) rfl (fun ls hl => ?_)
  refine lv_iconst (v := 0) hx hb dX8_need_6 (by decide) ?_
  refine lv_iload_n hx hb dX8_need_7 rfl (lv_at hl 3 rfl) ?_
  refine lv_aload_n hx hb dX8_need_8 rfl (lv_at hl 0 rfl) ?_
  refine vp_callSi (W.runV (As := []) (rest := [.int p2, .int 0]) ⟨hx, hb, hml, hown, hts⟩ (c_X3_greatestSpeed l _ _ _ _ _ _ _ r3 hr4) (cwV 0 hts gX8_need_X3_greatestSpeed rfl rfl rfl (by decide +kernel) ⟨Nat.le_of_ble_eq_true rfl, Nat.le_of_ble_eq_true rfl⟩) (z_preV hK hE hI [] rfl rfl (z_recv hK hI hr4 rfl rfl)) rfl rfl hl.1 rfl (lv_room (Nat.le_of_ble_eq_true rfl)) dX8_need_9 ⟨Nat.le_of_ble_eq_true rfl, Nat.le_of_ble_eq_true rfl⟩) (fun v6 hw7 => ?_)
  refine vp_callSi (W.runS (As := [.int 0, .int p2, .int v6]) (rest := []) ⟨hx, hb, hml, hown, hts⟩ (c_X8_isFrom l _ _ _ _ _ _ _ 0 p2 v6) (va_cwS 3 hts gX8_need_X8_isFrom rfl rfl rfl (by decide +kernel) ⟨Nat.le_of_ble_eq_true rfl, Nat.le_of_ble_eq_true rfl⟩) (z_pre hK hE hI [] rfl rfl) rfl rfl hl.1 rfl (lv_room (Nat.le_of_ble_eq_true rfl)) dX8_need_12 ⟨Nat.le_of_ble_eq_true rfl, Nat.le_of_ble_eq_true rfl⟩) (fun v8 hw9 => ?_)
  refine lv_if_ne (tgt := 28) hx hb dX8_need_15 (by decide) (fun c10 => ?_) (fun c10 => ?_)
  · skip
    refine lv_aload_n hx hb dX8_need_28 rfl (lv_at hl 0 rfl) ?_
    refine lv_iload_n hx hb dX8_need_29 rfl (lv_at hl 3 rfl) ?_
    refine vp_callSi (W.runV (As := [.int p2]) (rest := []) ⟨hx, hb, hml, hown, hts⟩ (c_X3_voltsFor l _ _ _ _ _ _ _ r3 hr4 p2) (cwV 1 hts gX8_need_X3_voltsFor rfl rfl rfl (by decide +kernel) ⟨Nat.le_of_ble_eq_true rfl, Nat.le_of_ble_eq_true rfl⟩) (z_preV hK hE hI [] rfl rfl (z_recv hK hI hr4 rfl rfl)) rfl rfl hl.1 rfl (lv_room (Nat.le_of_ble_eq_true rfl)) dX8_need_30 ⟨Nat.le_of_ble_eq_true rfl, Nat.le_of_ble_eq_true rfl⟩) (fun v11 hw12 => ?_)
    refine vx_ret ?_
    refine W.widen (k := 2) (n := 12) (Nat.le_of_ble_eq_true rfl) (Nat.le_of_ble_eq_true rfl) ?_
    exact W.iret (v := v11) hx hb hr (fun t ht hW => ⟨⟨_, (L, κ, g), rfl, ⟨⟨hq5.1, _, hq5.2⟩, rfl⟩, z_end hK hI ht hW⟩, z_F hI ht⟩) (z_locs hI) dX8_need_33
  · skip
    refine z_throw (ik := 71) (is := 158) (ic := 75) (cls := "java/lang/IllegalArgumentException") (text := "no speed of its kind") (L0 := L) ["java/lang/RuntimeException", "java/lang/Exception"] (by decide) hM hE hI hnt (by decide) (by decide +kernel) (by decide +kernel) (by decide +kernel) (by decide +kernel) (by decide +kernel) (by decide +kernel) (hl.1.trans hml.symm) dX8_need_18 dX8_need_21 dX8_need_22 dX8_need_24 dX8_need_27 hout (Nat.le_of_ble_eq_true rfl) (Nat.le_of_ble_eq_true rfl) (Nat.le_of_ble_eq_true rfl) (Nat.le_of_ble_eq_true rfl) hlocks ⟨Or.inr rfl, rfl⟩ (Nat.le_of_ble_eq_true rfl) (Nat.le_of_ble_eq_true rfl)

set_option maxHeartbeats 4000000 in
set_option maxRecDepth 100000 in
theorem c_X8_heat (l : Launch) (hnt : l.stackTraces = false) (D : va_G) (tc : Nat → ClassId) (z0 : Nat) (L : List Nat) (κ : Nat → Nat) (g : Nat → Nat → Value) (sz : Nat) (p0 : Nat) (hk0 : κ p0 = 10) (p1 : Int32) (aC : Nat) (hC : g p0 1 = .ref aC) : vx_Met l yX8_heat wsX8_heat ({ frames := 7, cells := 1, slots := 6, locals := 120 }) (zPc D tc z0 [.ref p0, .int p1] [] (L, κ, g) sz) (va_Qi (fun (r : Int32) (u : zS) => zHas g aC 6 p1 ∧ u = (L, κ, g)) (fun (u : zS) (t : State) => zB D tc (zA [] L sz) [] u t) (zA [] L sz)) (vx_X (fun u : zS => True) (fun (E : String) (u : zS) (t : State) => (((E = "java/lang/IndexOutOfBoundsException" ∧ ¬ zHas g aC 6 p1)) ∧ u = (L, κ, g)) ∧ zB D tc (zA [] L sz) [] u t) (zA [] L sz)) 1 6 (zA [] L sz) := by
  refine vx_ofW (cc := cX8_heat) (maxL := 2) (ret := (some .int)) (by decide) rfl ?_
  intro p e s m args below meth c s₁ B hml hxt hv
  obtain ⟨rfl, rfl, hK, hE, hI⟩ := hv.opn
  have hx := B.exec
  have hb := B.bytes
  have hr := B.returns
  have hts := atoms_spec (ws := wsX8_heat) B.pre
  have hown : s.vm.findClass RX8 = some m.cls := findClass_of_methodNamed B.named
  have hlocks := B.notSynchronized
  have hout : ∀ (i : Nat), ∀ x ∈ c.exceptionTable.toList, covers x i = false := fun i x hx9 => (hxt x hx9).elim
  have hM : zM p s m c cX8_heat _ wsX8_heat RX8 D tc := ⟨hx, hb, hts, hown, hK⟩
  have hinX3 : ∀ w ∈ wsX30, w ∈ wsX8_heat := by decide +kernel
  have hinX1 : ∀ w ∈ wsX10, w ∈ wsX8_heat := by decide +kernel
  have hl := lv_entry ([.ref p0, .int p1]) (n := 2) (Nat.le_of_ble_eq_true rfl)
  rw [lg_entry_eq]
  generalize (lg_sl ([.ref p0, .int p1]) ++ List.replicate (2 - (lg_sl ([.ref p0, .int p1])).length) Slot.unset).toArray = ls at hl ⊢
  have hl : lv_has ls 2 [(0, .ref p0), (1, .int p1)] := hl
  refine lv_aload_n hx hb dX8_heat_0 rfl (lv_at hl 0 rfl) ?_
  refine lv_iload_n hx hb dX8_heat_1 rfl (lv_at hl 1 rfl) ?_
  refine z_xq hI (vx_runV (As := [.int p1]) (rest := []) ⟨hx, hb, hml, hown, hts⟩ (c_X8_coreAt l hnt _ _ _ _ _ _ _ p0 hk0 p1 aC hC) (cwV 1 hts gX8_heat_X8_coreAt rfl rfl rfl (by decide +kernel) ⟨Nat.le_of_ble_eq_true rfl, Nat.le_of_ble_eq_true rfl⟩) (z_preV hK hE hI [] rfl rfl (z_recv hK hI hk0 rfl rfl)) rfl rfl hl.1 rfl (lv_room (Nat.le_of_ble_eq_true rfl)) dX8_heat_2 ⟨Nat.le_of_ble_eq_true rfl, Nat.le_of_ble_eq_true rfl⟩) (fun E ce q9 u H locs hw hI he1 he2 he3 => ?_) (fun v1 u H locs hw2 hI => ?_)
  · obtain ⟨hxp, rfl⟩ := hw
    exact z_pass hK hI hout hlocks he1 he2 he3 (by first | exact ⟨hxp, rfl⟩ | exact ⟨Or.inl hxp, rfl⟩ | exact ⟨Or.inr hxp, rfl⟩ | exact ⟨Or.inr (Or.inl hxp), rfl⟩ | exact ⟨Or.inr (Or.inr hxp), rfl⟩) (Nat.le_of_ble_eq_true rfl) (Nat.le_of_ble_eq_true rfl)
  obtain ⟨r3, rfl, hr4, hq5, rfl⟩ := hw2
  show W p l e (headSpec wsX8_heat ({ frames := 7, cells := 1, slots := 6, locals := 120 })).room s m ([.ref p0, .int p1] : List Value).toArray below meth c _ _ 1 6 (vx_MQ below (va_Qi (fun (r : Int32) (u : zS) => zHas g aC 6 p1 ∧ u = (L, κ, g)) (fun (u : zS) (t : State) => zB D tc (zA [] L s.heap.size) [] u t) (zA [] L s.heap.size)) (vx_X (fun u : zS => True) (fun (E : String) (u : zS) (t : State) => (((E = "java/lang/IndexOutOfBoundsException" ∧ ¬ zHas g aC 6 p1)) ∧ u = (L, κ, g)) ∧ zB D tc (zA [] L s.heap.size) [] u t) (zA [] L s.heap.size)) ([.ref p0, .int p1] : List Value).toArray s 1 6 (zA [] L s.heap.size)) (F0 m 5 ls (.ref r3 :: []))
  refine z_get (k := 5) (j := 15) hM hI hr4 rfl rfl hinX3 rfl (by decide) (by decide +kernel) (fun _ h9 => h9) dX8_heat_5 (fun v6 hv7 => ?_)
  obtain ⟨i8, rfl, hr9⟩ := hv7
  refine z_get (k := 3) (j := 1) hM hI hr9 rfl rfl hinX1 rfl (by decide) (by decide +kernel) (fun _ h9 => h9) dX8_heat_8 (fun v10 hv11 => ?_)
  obtain ⟨i12, rfl, hr13⟩ := hv11
  refine vp_callSl (W.runV (As := []) (rest := []) ⟨hx, hb, hml, hown, hts⟩ (c_X0_lowBits l _ _ _ _ _ _ _ i12 hr13) (cwV 0 hts gX8_heat_X0_lowBits rfl rfl rfl (by decide +kernel) ⟨Nat.le_of_ble_eq_true rfl, Nat.le_of_ble_eq_true rfl⟩) (z_preV hK hE hI [] rfl rfl (z_recv hK hI hr13 rfl rfl)) rfl rfl hl.1 rfl (lv_room (Nat.le_of_ble_eq_true rfl)) dX8_heat_11 ⟨Nat.le_of_ble_eq_true rfl, Nat.le_of_ble_eq_true rfl⟩) (fun v14 hw15 => ?_)
  refine lv_l2i hx hb dX8_heat_14 rfl ?_
  refine lv_topi (fun v16 e17 => ?_)
  refine vx_ret ?_
  exact W.iret (v := v16) hx hb hr (fun t ht hW => ⟨⟨_, (L, κ, g), rfl, ⟨⟨hq5.1, _, hq5.2⟩, rfl⟩, z_end hK hI ht hW⟩, z_F hI ht⟩) (z_locs hI) dX8_heat_15

set_option maxHeartbeats 4000000 in
set_option maxRecDepth 100000 in
theorem c_X8_degrees (l : Launch) (hnt : l.stackTraces = false) (D : va_G) (tc : Nat → ClassId) (z0 : Nat) (L : List Nat) (κ : Nat → Nat) (g : Nat → Nat → Value) (sz : Nat) (p0 : Nat) (hk0 : κ p0 = 10) (p1 : Int32) (aC : Nat) (hC : g p0 1 = .ref aC) : vx_Met l yX8_degrees wsX8_degrees ({ frames := 7, cells := 1, slots := 6, locals := 120 }) (zPc D tc z0 [.ref p0, .int p1] [] (L, κ, g) sz) (va_Qi (fun (r : Int32) (u : zS) => zHas g aC 6 p1 ∧ u = (L, κ, g)) (fun (u : zS) (t : State) => zB D tc (zA [] L sz) [] u t) (zA [] L sz)) (vx_X (fun u : zS => True) (fun (E : String) (u : zS) (t : State) => (((E = "java/lang/IndexOutOfBoundsException" ∧ ¬ zHas g aC 6 p1)) ∧ u = (L, κ, g)) ∧ zB D tc (zA [] L sz) [] u t) (zA [] L sz)) 1 6 (zA [] L sz) := by
  refine vx_ofW (cc := cX8_degrees) (maxL := 2) (ret := (some .int)) (by decide) rfl ?_
  intro p e s m args below meth c s₁ B hml hxt hv
  obtain ⟨rfl, rfl, hK, hE, hI⟩ := hv.opn
  have hx := B.exec
  have hb := B.bytes
  have hr := B.returns
  have hts := atoms_spec (ws := wsX8_degrees) B.pre
  have hown : s.vm.findClass RX8 = some m.cls := findClass_of_methodNamed B.named
  have hlocks := B.notSynchronized
  have hout : ∀ (i : Nat), ∀ x ∈ c.exceptionTable.toList, covers x i = false := fun i x hx9 => (hxt x hx9).elim
  have hM : zM p s m c cX8_degrees _ wsX8_degrees RX8 D tc := ⟨hx, hb, hts, hown, hK⟩
  have hinX3 : ∀ w ∈ wsX30, w ∈ wsX8_degrees := by decide +kernel
  have hinX1 : ∀ w ∈ wsX10, w ∈ wsX8_degrees := by decide +kernel
  have hl := lv_entry ([.ref p0, .int p1]) (n := 2) (Nat.le_of_ble_eq_true rfl)
  rw [lg_entry_eq]
  generalize (lg_sl ([.ref p0, .int p1]) ++ List.replicate (2 - (lg_sl ([.ref p0, .int p1])).length) Slot.unset).toArray = ls at hl ⊢
  have hl : lv_has ls 2 [(0, .ref p0), (1, .int p1)] := hl
  refine lv_aload_n hx hb dX8_degrees_0 rfl (lv_at hl 0 rfl) ?_
  refine lv_iload_n hx hb dX8_degrees_1 rfl (lv_at hl 1 rfl) ?_
  refine z_xq hI (vx_runV (As := [.int p1]) (rest := []) ⟨hx, hb, hml, hown, hts⟩ (c_X8_coreAt l hnt _ _ _ _ _ _ _ p0 hk0 p1 aC hC) (cwV 1 hts gX8_degrees_X8_coreAt rfl rfl rfl (by decide +kernel) ⟨Nat.le_of_ble_eq_true rfl, Nat.le_of_ble_eq_true rfl⟩) (z_preV hK hE hI [] rfl rfl (z_recv hK hI hk0 rfl rfl)) rfl rfl hl.1 rfl (lv_room (Nat.le_of_ble_eq_true rfl)) dX8_degrees_2 ⟨Nat.le_of_ble_eq_true rfl, Nat.le_of_ble_eq_true rfl⟩) (fun E ce q9 u H locs hw hI he1 he2 he3 => ?_) (fun v1 u H locs hw2 hI => ?_)
  · obtain ⟨hxp, rfl⟩ := hw
    exact z_pass hK hI hout hlocks he1 he2 he3 (by first | exact ⟨hxp, rfl⟩ | exact ⟨Or.inl hxp, rfl⟩ | exact ⟨Or.inr hxp, rfl⟩ | exact ⟨Or.inr (Or.inl hxp), rfl⟩ | exact ⟨Or.inr (Or.inr hxp), rfl⟩) (Nat.le_of_ble_eq_true rfl) (Nat.le_of_ble_eq_true rfl)
  obtain ⟨r3, rfl, hr4, hq5, rfl⟩ := hw2
  show W p l e (headSpec wsX8_degrees ({ frames := 7, cells := 1, slots := 6, locals := 120 })).room s m ([.ref p0, .int p1] : List Value).toArray below meth c _ _ 1 6 (vx_MQ below (va_Qi (fun (r : Int32) (u : zS) => zHas g aC 6 p1 ∧ u = (L, κ, g)) (fun (u : zS) (t : State) => zB D tc (zA [] L s.heap.size) [] u t) (zA [] L s.heap.size)) (vx_X (fun u : zS => True) (fun (E : String) (u : zS) (t : State) => (((E = "java/lang/IndexOutOfBoundsException" ∧ ¬ zHas g aC 6 p1)) ∧ u = (L, κ, g)) ∧ zB D tc (zA [] L s.heap.size) [] u t) (zA [] L s.heap.size)) ([.ref p0, .int p1] : List Value).toArray s 1 6 (zA [] L s.heap.size)) (F0 m 5 ls (.ref r3 :: []))
  refine z_get (k := 5) (j := 15) hM hI hr4 rfl rfl hinX3 rfl (by decide) (by decide +kernel) (fun _ h9 => h9) dX8_degrees_5 (fun v6 hv7 => ?_)
  obtain ⟨i8, rfl, hr9⟩ := hv7
  refine z_get (k := 3) (j := 2) hM hI hr9 rfl rfl hinX1 rfl (by decide) (by decide +kernel) (fun _ h9 => h9) dX8_degrees_8 (fun v10 hv11 => ?_)
  obtain ⟨i12, rfl, hr13⟩ := hv11
  refine vp_callSl (W.runV (As := []) (rest := []) ⟨hx, hb, hml, hown, hts⟩ (c_X0_lowBits l _ _ _ _ _ _ _ i12 hr13) (cwV 0 hts gX8_degrees_X0_lowBits rfl rfl rfl (by decide +kernel) ⟨Nat.le_of_ble_eq_true rfl, Nat.le_of_ble_eq_true rfl⟩) (z_preV hK hE hI [] rfl rfl (z_recv hK hI hr13 rfl rfl)) rfl rfl hl.1 rfl (lv_room (Nat.le_of_ble_eq_true rfl)) dX8_degrees_11 ⟨Nat.le_of_ble_eq_true rfl, Nat.le_of_ble_eq_true rfl⟩) (fun v14 hw15 => ?_)
  refine lv_l2i hx hb dX8_degrees_14 rfl ?_
  refine lv_topi (fun v16 e17 => ?_)
  refine vx_ret ?_
  exact W.iret (v := v16) hx hb hr (fun t ht hW => ⟨⟨_, (L, κ, g), rfl, ⟨⟨hq5.1, _, hq5.2⟩, rfl⟩, z_end hK hI ht hW⟩, z_F hI ht⟩) (z_locs hI) dX8_degrees_15

set_option maxHeartbeats 4000000 in
set_option maxRecDepth 100000 in
theorem c_X8_sensor (l : Launch) (hnt : l.stackTraces = false) (D : va_G) (tc : Nat → ClassId) (z0 : Nat) (L : List Nat) (κ : Nat → Nat) (g : Nat → Nat → Value) (sz : Nat) (p0 : Nat) (hk0 : κ p0 = 10) (p1 : Int32) (aC : Nat) (hC : g p0 1 = .ref aC) : vx_Met l yX8_sensor wsX8_sensor ({ frames := 7, cells := 2, slots := 12, locals := 120 }) (zPc D tc z0 [.ref p0, .int p1] [] (L, κ, g) sz) (va_Qi (fun (r : Int32) (u : zS) => zHas g aC 6 p1 ∧ u = (L, κ, g)) (fun (u : zS) (t : State) => zB D tc (zA [] L sz) [] u t) (zA [] L sz)) (vx_X (fun u : zS => True) (fun (E : String) (u : zS) (t : State) => (((E = "java/lang/IndexOutOfBoundsException" ∧ ¬ zHas g aC 6 p1) ∨ (E = "java/util/NoSuchElementException")) ∧ u = (L, κ, g)) ∧ zB D tc (zA [] L sz) [] u t) (zA [] L sz)) 2 12 (zA [] L sz) := by
  refine vx_ofW (cc := cX8_sensor) (maxL := 3) (ret := (some .int)) (by decide) rfl ?_
  intro p e s m args below meth c s₁ B hml hxt hv
  obtain ⟨rfl, rfl, hK, hE, hI⟩ := hv.opn
  have hx := B.exec
  have hb := B.bytes
  have hr := B.returns
  have hts := atoms_spec (ws := wsX8_sensor) B.pre
  have hown : s.vm.findClass RX8 = some m.cls := findClass_of_methodNamed B.named
  have hlocks := B.notSynchronized
  have hout : ∀ (i : Nat), ∀ x ∈ c.exceptionTable.toList, covers x i = false := fun i x hx9 => (hxt x hx9).elim
  have hM : zM p s m c cX8_sensor _ wsX8_sensor RX8 D tc := ⟨hx, hb, hts, hown, hK⟩
  have hinX3 : ∀ w ∈ wsX30, w ∈ wsX8_sensor := by decide +kernel
  have hl := lv_entry ([.ref p0, .int p1]) (n := 3) (Nat.le_of_ble_eq_true rfl)
  rw [lg_entry_eq]
  generalize (lg_sl ([.ref p0, .int p1]) ++ List.replicate (3 - (lg_sl ([.ref p0, .int p1])).length) Slot.unset).toArray = ls at hl ⊢
  have hl : lv_has ls 3 [(0, .ref p0), (1, .int p1)] := hl
  refine lv_aload_n hx hb dX8_sensor_0 rfl (lv_at hl 0 rfl) ?_
  refine lv_iload_n hx hb dX8_sensor_1 rfl (lv_at hl 1 rfl) ?_
  refine z_xq hI (vx_runV (As := [.int p1]) (rest := []) ⟨hx, hb, hml, hown, hts⟩ (c_X8_coreAt l hnt _ _ _ _ _ _ _ p0 hk0 p1 aC hC) (cwV 1 hts gX8_sensor_X8_coreAt rfl rfl rfl (by decide +kernel) ⟨Nat.le_of_ble_eq_true rfl, Nat.le_of_ble_eq_true rfl⟩) (z_preV hK hE hI [] rfl rfl (z_recv hK hI hk0 rfl rfl)) rfl rfl hl.1 rfl (lv_room (Nat.le_of_ble_eq_true rfl)) dX8_sensor_2 ⟨Nat.le_of_ble_eq_true rfl, Nat.le_of_ble_eq_true rfl⟩) (fun E ce q9 u H locs hw hI he1 he2 he3 => ?_) (fun v1 u H locs hw2 hI => ?_)
  · obtain ⟨hxp, rfl⟩ := hw
    exact z_pass hK hI hout hlocks he1 he2 he3 (by first | exact ⟨hxp, rfl⟩ | exact ⟨Or.inl hxp, rfl⟩ | exact ⟨Or.inr hxp, rfl⟩ | exact ⟨Or.inr (Or.inl hxp), rfl⟩ | exact ⟨Or.inr (Or.inr hxp), rfl⟩) (Nat.le_of_ble_eq_true rfl) (Nat.le_of_ble_eq_true rfl)
  obtain ⟨r3, rfl, hr4, hq5, rfl⟩ := hw2
  show W p l e (headSpec wsX8_sensor ({ frames := 7, cells := 2, slots := 12, locals := 120 })).room s m ([.ref p0, .int p1] : List Value).toArray below meth c _ _ 1 6 (vx_MQ below (va_Qi (fun (r : Int32) (u : zS) => zHas g aC 6 p1 ∧ u = (L, κ, g)) (fun (u : zS) (t : State) => zB D tc (zA [] L s.heap.size) [] u t) (zA [] L s.heap.size)) (vx_X (fun u : zS => True) (fun (E : String) (u : zS) (t : State) => (((E = "java/lang/IndexOutOfBoundsException" ∧ ¬ zHas g aC 6 p1) ∨ (E = "java/util/NoSuchElementException")) ∧ u = (L, κ, g)) ∧ zB D tc (zA [] L s.heap.size) [] u t) (zA [] L s.heap.size)) ([.ref p0, .int p1] : List Value).toArray s 2 12 (zA [] L s.heap.size)) (F0 m 5 ls (.ref r3 :: []))
  refine lv_astore_n (lv' := [(2, .ref r3), (0, .ref p0), (1, .int p1)]) hx hb dX8_sensor_5 rfl hl (by decide) rfl (fun ls hl => ?_)
  refine lv_aload_n hx hb dX8_sensor_6 rfl (lv_at hl 0 rfl) ?_
  refine z_get (k := 5) (j := 17) hM hI hr4 rfl rfl hinX3 rfl (by decide) (by decide +kernel) (fun _ h9 => h9) dX8_sensor_7 (fun v6 hv7 => ?_)
  obtain ⟨hg9, i8, rfl, hz10⟩ := zv_tb hv7
  refine lv_if_eq (tgt := 23) hx hb dX8_sensor_10 (by decide) (fun c11 => ?_) (fun c11 => ?_)
  · skip
    refine lv_aload_n hx hb dX8_sensor_23 rfl (lv_at hl 0 rfl) ?_
    refine z_get (k := 5) (j := 16) hM hI hr4 rfl rfl hinX3 rfl (by decide) (by decide +kernel) (fun _ h9 => h9) dX8_sensor_24 (fun v12 hv13 => ?_)
    obtain ⟨i14, rfl⟩ := hv13
    refine vx_ret ?_
    refine W.widen (k := 2) (n := 12) (Nat.le_of_ble_eq_true rfl) (Nat.le_of_ble_eq_true rfl) ?_
    exact W.iret (v := i14) hx hb hr (fun t ht hW => ⟨⟨_, (L, κ, g), rfl, ⟨⟨hq5.1, _, hq5.2⟩, rfl⟩, z_end hK hI ht hW⟩, z_F hI ht⟩) (z_locs hI) dX8_sensor_27
  · skip
    refine z_throw (ik := 190) (is := 192) (ic := 194) (cls := "java/util/NoSuchElementException") (text := "the sensor is lost") (L0 := L) ["java/lang/RuntimeException", "java/lang/Exception"] (by decide) hM hE hI hnt (by decide) (by decide +kernel) (by decide +kernel) (by decide +kernel) (by decide +kernel) (by decide +kernel) (by decide +kernel) (hl.1.trans hml.symm) dX8_sensor_13 dX8_sensor_16 dX8_sensor_17 dX8_sensor_19 dX8_sensor_22 hout (Nat.le_of_ble_eq_true rfl) (Nat.le_of_ble_eq_true rfl) (Nat.le_of_ble_eq_true rfl) (Nat.le_of_ble_eq_true rfl) hlocks ⟨Or.inr rfl, rfl⟩ (Nat.le_of_ble_eq_true rfl) (Nat.le_of_ble_eq_true rfl)

set_option maxHeartbeats 4000000 in
set_option maxRecDepth 100000 in
theorem c_X8_wear (l : Launch) (hnt : l.stackTraces = false) (D : va_G) (tc : Nat → ClassId) (z0 : Nat) (L : List Nat) (κ : Nat → Nat) (g : Nat → Nat → Value) (sz : Nat) (p0 : Nat) (hk0 : κ p0 = 10) (p1 : Int32) (p2 : Int32) (aC : Nat) (hC : g p0 1 = .ref aC) : vx_Met l yX8_wear wsX8_wear ({ frames := 7, cells := 2, slots := 12, locals := 120 }) (zPc D tc z0 [.ref p0, .int p1, .int p2] [] (L, κ, g) sz) (va_Qi (fun (r : Int32) (u : zS) => zHas g aC 6 p1 ∧ u = (L, κ, g)) (fun (u : zS) (t : State) => zB D tc (zA [] L sz) [] u t) (zA [] L sz)) (vx_X (fun u : zS => True) (fun (E : String) (u : zS) (t : State) => (((E = "java/lang/IndexOutOfBoundsException" ∧ ¬ zHas g aC 6 p1) ∨ (E = "java/lang/IllegalArgumentException") ∨ (E = "java/lang/IllegalStateException")) ∧ u = (L, κ, g)) ∧ zB D tc (zA [] L sz) [] u t) (zA [] L sz)) 2 12 (zA [] L sz) := by
  refine vx_ofW (cc := cX8_wear) (maxL := 4) (ret := (some .int)) (by decide) rfl ?_
  intro p e s m args below meth c s₁ B hml hxt hv
  obtain ⟨rfl, rfl, hK, hE, hI⟩ := hv.opn
  have hx := B.exec
  have hb := B.bytes
  have hr := B.returns
  have hts := atoms_spec (ws := wsX8_wear) B.pre
  have hown : s.vm.findClass RX8 = some m.cls := findClass_of_methodNamed B.named
  have hlocks := B.notSynchronized
  have hout : ∀ (i : Nat), ∀ x ∈ c.exceptionTable.toList, covers x i = false := fun i x hx9 => (hxt x hx9).elim
  have hM : zM p s m c cX8_wear _ wsX8_wear RX8 D tc := ⟨hx, hb, hts, hown, hK⟩
  have hinX3 : ∀ w ∈ wsX30, w ∈ wsX8_wear := by decide +kernel
  have hl := lv_entry ([.ref p0, .int p1, .int p2]) (n := 4) (Nat.le_of_ble_eq_true rfl)
  rw [lg_entry_eq]
  generalize (lg_sl ([.ref p0, .int p1, .int p2]) ++ List.replicate (4 - (lg_sl ([.ref p0, .int p1, .int p2])).length) Slot.unset).toArray = ls at hl ⊢
  have hl : lv_has ls 4 [(0, .ref p0), (1, .int p1), (2, .int p2)] := hl
  refine lv_aload_n hx hb dX8_wear_0 rfl (lv_at hl 0 rfl) ?_
  refine lv_iload_n hx hb dX8_wear_1 rfl (lv_at hl 1 rfl) ?_
  refine z_xq hI (vx_runV (As := [.int p1]) (rest := []) ⟨hx, hb, hml, hown, hts⟩ (c_X8_coreAt l hnt _ _ _ _ _ _ _ p0 hk0 p1 aC hC) (cwV 1 hts gX8_wear_X8_coreAt rfl rfl rfl (by decide +kernel) ⟨Nat.le_of_ble_eq_true rfl, Nat.le_of_ble_eq_true rfl⟩) (z_preV hK hE hI [] rfl rfl (z_recv hK hI hk0 rfl rfl)) rfl rfl hl.1 rfl (lv_room (Nat.le_of_ble_eq_true rfl)) dX8_wear_2 ⟨Nat.le_of_ble_eq_true rfl, Nat.le_of_ble_eq_true rfl⟩) (fun E ce q9 u H locs hw hI he1 he2 he3 => ?_) (fun v1 u H locs hw2 hI => ?_)
  · obtain ⟨hxp, rfl⟩ := hw
    exact z_pass hK hI hout hlocks he1 he2 he3 (by first | exact ⟨hxp, rfl⟩ | exact ⟨Or.inl hxp, rfl⟩ | exact ⟨Or.inr hxp, rfl⟩ | exact ⟨Or.inr (Or.inl hxp), rfl⟩ | exact ⟨Or.inr (Or.inr hxp), rfl⟩) (Nat.le_of_ble_eq_true rfl) (Nat.le_of_ble_eq_true rfl)
  obtain ⟨r3, rfl, hr4, hq5, rfl⟩ := hw2
  show W p l e (headSpec wsX8_wear ({ frames := 7, cells := 2, slots := 12, locals := 120 })).room s m ([.ref p0, .int p1, .int p2] : List Value).toArray below meth c _ _ 1 6 (vx_MQ below (va_Qi (fun (r : Int32) (u : zS) => zHas g aC 6 p1 ∧ u = (L, κ, g)) (fun (u : zS) (t : State) => zB D tc (zA [] L s.heap.size) [] u t) (zA [] L s.heap.size)) (vx_X (fun u : zS => True) (fun (E : String) (u : zS) (t : State) => (((E = "java/lang/IndexOutOfBoundsException" ∧ ¬ zHas g aC 6 p1) ∨ (E = "java/lang/IllegalArgumentException") ∨ (E = "java/lang/IllegalStateException")) ∧ u = (L, κ, g)) ∧ zB D tc (zA [] L s.heap.size) [] u t) (zA [] L s.heap.size)) ([.ref p0, .int p1, .int p2] : List Value).toArray s 2 12 (zA [] L s.heap.size)) (F0 m 5 ls (.ref r3 :: []))
  refine lv_astore_n (lv' := [(3, .ref r3), (0, .ref p0), (1, .int p1), (2, .int p2)]) hx hb dX8_wear_5 rfl hl (by decide) rfl (fun ls hl => ?_)
  refine lv_iconst (v := 1) hx hb dX8_wear_6 (by decide) ?_
  refine lv_iload_n hx hb dX8_wear_7 rfl (lv_at hl 3 rfl) ?_
  refine lv_sipush (v := 999) hx hb dX8_wear_8 (by decide) ?_
  refine vp_callSi (W.runS (As := [.int 1, .int p2, .int 999]) (rest := []) ⟨hx, hb, hml, hown, hts⟩ (c_X8_isFrom l _ _ _ _ _ _ _ 1 p2 999) (va_cwS 3 hts gX8_wear_X8_isFrom rfl rfl rfl (by decide +kernel) ⟨Nat.le_of_ble_eq_true rfl, Nat.le_of_ble_eq_true rfl⟩) (z_pre hK hE hI [] rfl rfl) rfl rfl hl.1 rfl (lv_room (Nat.le_of_ble_eq_true rfl)) dX8_wear_11 ⟨Nat.le_of_ble_eq_true rfl, Nat.le_of_ble_eq_true rfl⟩) (fun v6 hw7 => ?_)
  refine lv_if_ne (tgt := 27) hx hb dX8_wear_14 (by decide) (fun c8 => ?_) (fun c8 => ?_)
  · skip
    refine lv_aload_n hx hb dX8_wear_27 rfl (lv_at hl 0 rfl) ?_
    refine z_get (k := 5) (j := 19) hM hI hr4 rfl rfl hinX3 rfl (by decide) (by decide +kernel) (fun _ h9 => h9) dX8_wear_28 (fun v9 hv10 => ?_)
    obtain ⟨i11, rfl⟩ := hv10
    refine lv_iload_n hx hb dX8_wear_31 rfl (lv_at hl 3 rfl) ?_
    refine lv_iadd hx hb dX8_wear_32 ?_
    refine lv_topi (fun v12 e13 => ?_)
    refine lv_sipush (v := 9999) hx hb dX8_wear_33 (by decide) ?_
    refine lv_icmp_le (tgt := 50) hx hb dX8_wear_36 (by decide) (fun c14 => ?_) (fun c14 => ?_)
    · skip
      refine lv_aload_n hx hb dX8_wear_50 rfl (lv_at hl 0 rfl) ?_
      refine lv_dup hx hb dX8_wear_51 rfl ?_
      refine z_get (k := 5) (j := 19) hM hI hr4 rfl rfl hinX3 rfl (by decide) (by decide +kernel) (fun _ h9 => h9) dX8_wear_52 (fun v15 hv16 => ?_)
      obtain ⟨i17, rfl⟩ := hv16
      refine lv_iload_n hx hb dX8_wear_55 rfl (lv_at hl 3 rfl) ?_
      refine lv_iadd hx hb dX8_wear_56 ?_
      refine lv_topi (fun v18 e19 => ?_)
      refine z_put (g' := g) (k := 5) (j := 19) hM hI hr4 rfl rfl hinX3 tyX3 tyX3_ok nmX3 rfl (by decide) (by decide +kernel) (fun _ h9 => h9) rfl rfl rfl rfl ⟨_, rfl⟩ (fun _ _ _ => rfl) dX8_wear_57 (fun H locs hI => ?_)
      refine lv_aload_n hx hb dX8_wear_60 rfl (lv_at hl 0 rfl) ?_
      refine z_get (k := 5) (j := 19) hM hI hr4 rfl rfl hinX3 rfl (by decide) (by decide +kernel) (fun _ h9 => h9) dX8_wear_61 (fun v20 hv21 => ?_)
      obtain ⟨i22, rfl⟩ := hv21
      refine vx_ret ?_
      refine W.widen (k := 2) (n := 12) (Nat.le_of_ble_eq_true rfl) (Nat.le_of_ble_eq_true rfl) ?_
      exact W.iret (v := i22) hx hb hr (fun t ht hW => ⟨⟨_, (L, κ, g), rfl, ⟨⟨hq5.1, _, hq5.2⟩, rfl⟩, z_end hK hI ht hW⟩, z_F hI ht⟩) (z_locs hI) dX8_wear_64
    · skip
      refine z_throwW (ik := 81) (is := 266) (ic := 85) (cls := "java/lang/IllegalStateException") (text := "too much wear") (L0 := L) ["java/lang/RuntimeException", "java/lang/Exception"] (by decide) hM hE hI hnt (by decide) (by decide +kernel) (by decide +kernel) (by decide +kernel) (by decide +kernel) (by decide +kernel) (by decide +kernel) (hl.1.trans hml.symm) dX8_wear_39 dX8_wear_42 dX8_wear_43 dX8_wear_46 dX8_wear_49 hout (Nat.le_of_ble_eq_true rfl) (Nat.le_of_ble_eq_true rfl) (Nat.le_of_ble_eq_true rfl) (Nat.le_of_ble_eq_true rfl) hlocks ⟨by first | exact Or.inr (Or.inl rfl) | exact Or.inr (Or.inr rfl), rfl⟩ (Nat.le_of_ble_eq_true rfl) (Nat.le_of_ble_eq_true rfl)
  · skip
    refine z_throw (ik := 71) (is := 95) (ic := 75) (cls := "java/lang/IllegalArgumentException") (text := "a number out of range") (L0 := L) ["java/lang/RuntimeException", "java/lang/Exception"] (by decide) hM hE hI hnt (by decide) (by decide +kernel) (by decide +kernel) (by decide +kernel) (by decide +kernel) (by decide +kernel) (by decide +kernel) (hl.1.trans hml.symm) dX8_wear_17 dX8_wear_20 dX8_wear_21 dX8_wear_23 dX8_wear_26 hout (Nat.le_of_ble_eq_true rfl) (Nat.le_of_ble_eq_true rfl) (Nat.le_of_ble_eq_true rfl) (Nat.le_of_ble_eq_true rfl) hlocks ⟨by first | exact Or.inr (Or.inl rfl) | exact Or.inr (Or.inr rfl), rfl⟩ (Nat.le_of_ble_eq_true rfl) (Nat.le_of_ble_eq_true rfl)

set_option maxHeartbeats 4000000 in
set_option maxRecDepth 100000 in
theorem c_X8_heatUp (l : Launch) (hnt : l.stackTraces = false) (D : va_G) (tc : Nat → ClassId) (z0 : Nat) (L : List Nat) (κ : Nat → Nat) (g : Nat → Nat → Value) (sz : Nat) (p0 : Nat) (hk0 : κ p0 = 10) (p1 : Int32) (p2 : Int32) (aC : Nat) (hC : g p0 1 = .ref aC) : vx_Met l yX8_heatUp wsX8_heatUp ({ frames := 7, cells := 2, slots := 12, locals := 120 }) (zPc D tc z0 [.ref p0, .int p1, .int p2] [] (L, κ, g) sz) (va_Qi (fun (r : Int32) (u : zS) => zHas g aC 6 p1 ∧ u = (L, κ, g)) (fun (u : zS) (t : State) => zB D tc (zA [] L sz) [] u t) (zA [] L sz)) (vx_X (fun u : zS => True) (fun (E : String) (u : zS) (t : State) => (((E = "java/lang/IndexOutOfBoundsException" ∧ ¬ zHas g aC 6 p1) ∨ (E = "java/lang/IllegalArgumentException") ∨ (E = "java/lang/IllegalStateException")) ∧ u = (L, κ, g)) ∧ zB D tc (zA [] L sz) [] u t) (zA [] L sz)) 2 12 (zA [] L sz) := by
  refine vx_ofW (cc := cX8_heatUp) (maxL := 4) (ret := (some .int)) (by decide) rfl ?_
  intro p e s m args below meth c s₁ B hml hxt hv
  obtain ⟨rfl, rfl, hK, hE, hI⟩ := hv.opn
  have hx := B.exec
  have hb := B.bytes
  have hr := B.returns
  have hts := atoms_spec (ws := wsX8_heatUp) B.pre
  have hown : s.vm.findClass RX8 = some m.cls := findClass_of_methodNamed B.named
  have hlocks := B.notSynchronized
  have hout : ∀ (i : Nat), ∀ x ∈ c.exceptionTable.toList, covers x i = false := fun i x hx9 => (hxt x hx9).elim
  have hM : zM p s m c cX8_heatUp _ wsX8_heatUp RX8 D tc := ⟨hx, hb, hts, hown, hK⟩
  have hinX3 : ∀ w ∈ wsX30, w ∈ wsX8_heatUp := by decide +kernel
  have hinX1 : ∀ w ∈ wsX10, w ∈ wsX8_heatUp := by decide +kernel
  have hinX8 : ∀ w ∈ wsX80, w ∈ wsX8_heatUp := by decide +kernel
  have hl := lv_entry ([.ref p0, .int p1, .int p2]) (n := 4) (Nat.le_of_ble_eq_true rfl)
  rw [lg_entry_eq]
  generalize (lg_sl ([.ref p0, .int p1, .int p2]) ++ List.replicate (4 - (lg_sl ([.ref p0, .int p1, .int p2])).length) Slot.unset).toArray = ls at hl ⊢
  have hl : lv_has ls 4 [(0, .ref p0), (1, .int p1), (2, .int p2)] := hl
  refine lv_aload_n hx hb dX8_heatUp_0 rfl (lv_at hl 0 rfl) ?_
  refine lv_iload_n hx hb dX8_heatUp_1 rfl (lv_at hl 1 rfl) ?_
  refine z_xq hI (vx_runV (As := [.int p1]) (rest := []) ⟨hx, hb, hml, hown, hts⟩ (c_X8_coreAt l hnt _ _ _ _ _ _ _ p0 hk0 p1 aC hC) (cwV 1 hts gX8_heatUp_X8_coreAt rfl rfl rfl (by decide +kernel) ⟨Nat.le_of_ble_eq_true rfl, Nat.le_of_ble_eq_true rfl⟩) (z_preV hK hE hI [] rfl rfl (z_recv hK hI hk0 rfl rfl)) rfl rfl hl.1 rfl (lv_room (Nat.le_of_ble_eq_true rfl)) dX8_heatUp_2 ⟨Nat.le_of_ble_eq_true rfl, Nat.le_of_ble_eq_true rfl⟩) (fun E ce q9 u H locs hw hI he1 he2 he3 => ?_) (fun v1 u H locs hw2 hI => ?_)
  · obtain ⟨hxp, rfl⟩ := hw
    exact z_pass hK hI hout hlocks he1 he2 he3 (by first | exact ⟨hxp, rfl⟩ | exact ⟨Or.inl hxp, rfl⟩ | exact ⟨Or.inr hxp, rfl⟩ | exact ⟨Or.inr (Or.inl hxp), rfl⟩ | exact ⟨Or.inr (Or.inr hxp), rfl⟩) (Nat.le_of_ble_eq_true rfl) (Nat.le_of_ble_eq_true rfl)
  obtain ⟨r3, rfl, hr4, hq5, rfl⟩ := hw2
  show W p l e (headSpec wsX8_heatUp ({ frames := 7, cells := 2, slots := 12, locals := 120 })).room s m ([.ref p0, .int p1, .int p2] : List Value).toArray below meth c _ _ 1 6 (vx_MQ below (va_Qi (fun (r : Int32) (u : zS) => zHas g aC 6 p1 ∧ u = (L, κ, g)) (fun (u : zS) (t : State) => zB D tc (zA [] L s.heap.size) [] u t) (zA [] L s.heap.size)) (vx_X (fun u : zS => True) (fun (E : String) (u : zS) (t : State) => (((E = "java/lang/IndexOutOfBoundsException" ∧ ¬ zHas g aC 6 p1) ∨ (E = "java/lang/IllegalArgumentException") ∨ (E = "java/lang/IllegalStateException")) ∧ u = (L, κ, g)) ∧ zB D tc (zA [] L s.heap.size) [] u t) (zA [] L s.heap.size)) ([.ref p0, .int p1, .int p2] : List Value).toArray s 2 12 (zA [] L s.heap.size)) (F0 m 5 ls (.ref r3 :: []))
  refine lv_astore_n (lv' := [(3, .ref r3), (0, .ref p0), (1, .int p1), (2, .int p2)]) hx hb dX8_heatUp_5 rfl hl (by decide) rfl (fun ls hl => ?_)
  refine lv_iconst (v := 1) hx hb dX8_heatUp_6 (by decide) ?_
  refine lv_iload_n hx hb dX8_heatUp_7 rfl (lv_at hl 3 rfl) ?_
  refine lv_sipush (v := 9999) hx hb dX8_heatUp_8 (by decide) ?_
  refine vp_callSi (W.runS (As := [.int 1, .int p2, .int 9999]) (rest := []) ⟨hx, hb, hml, hown, hts⟩ (c_X8_isFrom l _ _ _ _ _ _ _ 1 p2 9999) (va_cwS 3 hts gX8_heatUp_X8_isFrom rfl rfl rfl (by decide +kernel) ⟨Nat.le_of_ble_eq_true rfl, Nat.le_of_ble_eq_true rfl⟩) (z_pre hK hE hI [] rfl rfl) rfl rfl hl.1 rfl (lv_room (Nat.le_of_ble_eq_true rfl)) dX8_heatUp_11 ⟨Nat.le_of_ble_eq_true rfl, Nat.le_of_ble_eq_true rfl⟩) (fun v6 hw7 => ?_)
  refine lv_if_ne (tgt := 27) hx hb dX8_heatUp_14 (by decide) (fun c8 => ?_) (fun c8 => ?_)
  · skip
    refine lv_aload_n hx hb dX8_heatUp_27 rfl (lv_at hl 0 rfl) ?_
    refine z_get (k := 5) (j := 15) hM hI hr4 rfl rfl hinX3 rfl (by decide) (by decide +kernel) (fun _ h9 => h9) dX8_heatUp_28 (fun v9 hv10 => ?_)
    obtain ⟨i11, rfl, hr12⟩ := hv10
    refine z_get (k := 3) (j := 1) hM hI hr12 rfl rfl hinX1 rfl (by decide) (by decide +kernel) (fun _ h9 => h9) dX8_heatUp_31 (fun v13 hv14 => ?_)
    obtain ⟨i15, rfl, hr16⟩ := hv14
    refine lv_ldc (v := 99999) hx hb hown (hts (.constant RX8 90 (99999)) (by decide +kernel)) dX8_heatUp_34 ?_
    refine vp_callSi (W.runV (As := [.int 99999]) (rest := []) ⟨hx, hb, hml, hown, hts⟩ (c_X0_upTo l _ _ _ _ _ _ _ i15 hr16 99999) (cwV 1 hts gX8_heatUp_X0_upTo rfl rfl rfl (by decide +kernel) ⟨Nat.le_of_ble_eq_true rfl, Nat.le_of_ble_eq_true rfl⟩) (z_preV hK hE hI [] rfl rfl (z_recv hK hI hr16 rfl rfl)) rfl rfl hl.1 rfl (lv_room (Nat.le_of_ble_eq_true rfl)) dX8_heatUp_36 ⟨Nat.le_of_ble_eq_true rfl, Nat.le_of_ble_eq_true rfl⟩) (fun v17 hw18 => ?_)
    refine lv_iload_n hx hb dX8_heatUp_39 rfl (lv_at hl 3 rfl) ?_
    refine lv_iadd hx hb dX8_heatUp_40 ?_
    refine lv_topi (fun v19 e20 => ?_)
    refine lv_ldc (v := 99999) hx hb hown (hts (.constant RX8 90 (99999)) (by decide +kernel)) dX8_heatUp_41 ?_
    refine lv_icmp_le (tgt := 56) hx hb dX8_heatUp_43 (by decide) (fun c21 => ?_) (fun c21 => ?_)
    · skip
      refine lv_aload_n hx hb dX8_heatUp_56 rfl (lv_at hl 1 rfl) ?_
      refine z_get (k := 10) (j := 7) hM hI hk0 rfl rfl hinX8 rfl (by decide) (by decide +kernel) (fun _ h9 => h9) dX8_heatUp_57 (fun v22 hv23 => ?_)
      obtain ⟨i24, rfl, hr25⟩ := hv23
      refine lv_iload_n hx hb dX8_heatUp_60 rfl (lv_at hl 3 rfl) ?_
      refine z_cv hI (va_runV (As := [.int p2]) (rest := []) ⟨hx, hb, hml, hown, hts⟩ (c_X0_become l _ _ _ _ _ _ _ i24 hr25 p2) (cwV 1 hts gX8_heatUp_X0_become rfl rfl rfl (by decide +kernel) ⟨Nat.le_of_ble_eq_true rfl, Nat.le_of_ble_eq_true rfl⟩) (z_preV hK hE hI [] rfl rfl (z_recv hK hI hr25 rfl rfl)) rfl rfl hl.1 rfl (lv_room (Nat.le_of_ble_eq_true rfl)) dX8_heatUp_61 ⟨Nat.le_of_ble_eq_true rfl, Nat.le_of_ble_eq_true rfl⟩) (fun u H locs hw27 hI => ?_)
      obtain rfl := hw27
      refine lv_aload_n hx hb dX8_heatUp_64 rfl (lv_at hl 0 rfl) ?_
      refine z_get (k := 5) (j := 15) hM hI hr4 rfl rfl hinX3 rfl (by decide) (by decide +kernel) (fun _ h9 => h9) dX8_heatUp_65 (fun v28 hv29 => ?_)
      obtain ⟨i30, rfl, hr31⟩ := hv29
      refine lv_aload_n hx hb dX8_heatUp_68 rfl (lv_at hl 1 rfl) ?_
      refine z_get (k := 10) (j := 7) hM hI hk0 rfl rfl hinX8 rfl (by decide) (by decide +kernel) (fun _ h9 => h9) dX8_heatUp_69 (fun v32 hv33 => ?_)
      obtain ⟨i34, rfl, hr35⟩ := hv33
      refine z_cv hI (va_runV (As := [.ref i34]) (rest := []) ⟨hx, hb, hml, hown, hts⟩ (c_X1_gain l _ _ _ _ _ _ _ i30 hr31 i34 hr35) (cwV 1 hts gX8_heatUp_X1_gain rfl rfl rfl (by decide +kernel) ⟨Nat.le_of_ble_eq_true rfl, Nat.le_of_ble_eq_true rfl⟩) (z_preV hK hE hI [] rfl rfl (z_recv hK hI hr31 rfl rfl)) rfl rfl hl.1 rfl (lv_room (Nat.le_of_ble_eq_true rfl)) dX8_heatUp_72 ⟨Nat.le_of_ble_eq_true rfl, Nat.le_of_ble_eq_true rfl⟩) (fun u H locs hw37 hI => ?_)
      obtain rfl := hw37
      refine lv_aload_n hx hb dX8_heatUp_75 rfl (lv_at hl 1 rfl) ?_
      refine lv_dup hx hb dX8_heatUp_76 rfl ?_
      refine z_get (k := 10) (j := 9) hM hI hk0 rfl rfl hinX8 rfl (by decide) (by decide +kernel) (fun _ h9 => h9) dX8_heatUp_77 (fun v38 hv39 => ?_)
      obtain ⟨i40, rfl⟩ := hv39
      refine lv_iload_n hx hb dX8_heatUp_80 rfl (lv_at hl 3 rfl) ?_
      refine lv_i2l hx hb dX8_heatUp_81 rfl ?_
      refine lv_topl (fun v41 e42 => ?_)
      refine lv_ladd hx hb dX8_heatUp_82 ?_
      refine lv_topl (fun v43 e44 => ?_)
      refine z_put (g' := g) (k := 10) (j := 9) hM hI hk0 rfl rfl hinX8 tyX8 tyX8_ok nmX8 rfl (by decide) (by decide +kernel) (fun _ h9 => h9) rfl rfl rfl rfl ⟨_, rfl⟩ (fun _ _ _ => rfl) dX8_heatUp_83 (fun H locs hI => ?_)
      refine lv_aload_n hx hb dX8_heatUp_86 rfl (lv_at hl 0 rfl) ?_
      refine z_get (k := 5) (j := 15) hM hI hr4 rfl rfl hinX3 rfl (by decide) (by decide +kernel) (fun _ h9 => h9) dX8_heatUp_87 (fun v45 hv46 => ?_)
      obtain ⟨i47, rfl, hr48⟩ := hv46
      refine z_get (k := 3) (j := 2) hM hI hr48 rfl rfl hinX1 rfl (by decide) (by decide +kernel) (fun _ h9 => h9) dX8_heatUp_90 (fun v49 hv50 => ?_)
      obtain ⟨i51, rfl, hr52⟩ := hv50
      refine vp_callSl (W.runV (As := []) (rest := []) ⟨hx, hb, hml, hown, hts⟩ (c_X0_lowBits l _ _ _ _ _ _ _ i51 hr52) (cwV 0 hts gX8_heatUp_X0_lowBits rfl rfl rfl (by decide +kernel) ⟨Nat.le_of_ble_eq_true rfl, Nat.le_of_ble_eq_true rfl⟩) (z_preV hK hE hI [] rfl rfl (z_recv hK hI hr52 rfl rfl)) rfl rfl hl.1 rfl (lv_room (Nat.le_of_ble_eq_true rfl)) dX8_heatUp_93 ⟨Nat.le_of_ble_eq_true rfl, Nat.le_of_ble_eq_true rfl⟩) (fun v53 hw54 => ?_)
      refine lv_l2i hx hb dX8_heatUp_96 rfl ?_
      refine lv_topi (fun v55 e56 => ?_)
      refine vx_ret ?_
      refine W.widen (k := 2) (n := 12) (Nat.le_of_ble_eq_true rfl) (Nat.le_of_ble_eq_true rfl) ?_
      exact W.iret (v := v55) hx hb hr (fun t ht hW => ⟨⟨_, (L, κ, g), rfl, ⟨⟨hq5.1, _, hq5.2⟩, rfl⟩, z_end hK hI ht hW⟩, z_F hI ht⟩) (z_locs hI) dX8_heatUp_97
    · skip
      refine z_throw (ik := 81) (is := 210) (ic := 85) (cls := "java/lang/IllegalStateException") (text := "too much heat") (L0 := L) ["java/lang/RuntimeException", "java/lang/Exception"] (by decide) hM hE hI hnt (by decide) (by decide +kernel) (by decide +kernel) (by decide +kernel) (by decide +kernel) (by decide +kernel) (by decide +kernel) (hl.1.trans hml.symm) dX8_heatUp_46 dX8_heatUp_49 dX8_heatUp_50 dX8_heatUp_52 dX8_heatUp_55 hout (Nat.le_of_ble_eq_true rfl) (Nat.le_of_ble_eq_true rfl) (Nat.le_of_ble_eq_true rfl) (Nat.le_of_ble_eq_true rfl) hlocks ⟨by first | exact Or.inr (Or.inl rfl) | exact Or.inr (Or.inr rfl), rfl⟩ (Nat.le_of_ble_eq_true rfl) (Nat.le_of_ble_eq_true rfl)
  · skip
    refine z_throw (ik := 71) (is := 95) (ic := 75) (cls := "java/lang/IllegalArgumentException") (text := "a number out of range") (L0 := L) ["java/lang/RuntimeException", "java/lang/Exception"] (by decide) hM hE hI hnt (by decide) (by decide +kernel) (by decide +kernel) (by decide +kernel) (by decide +kernel) (by decide +kernel) (by decide +kernel) (hl.1.trans hml.symm) dX8_heatUp_17 dX8_heatUp_20 dX8_heatUp_21 dX8_heatUp_23 dX8_heatUp_26 hout (Nat.le_of_ble_eq_true rfl) (Nat.le_of_ble_eq_true rfl) (Nat.le_of_ble_eq_true rfl) (Nat.le_of_ble_eq_true rfl) hlocks ⟨by first | exact Or.inr (Or.inl rfl) | exact Or.inr (Or.inr rfl), rfl⟩ (Nat.le_of_ble_eq_true rfl) (Nat.le_of_ble_eq_true rfl)

set_option maxHeartbeats 4000000 in
set_option maxRecDepth 100000 in
theorem c_X8_feed (l : Launch) (hnt : l.stackTraces = false) (D : va_G) (tc : Nat → ClassId) (z0 : Nat) (L : List Nat) (κ : Nat → Nat) (g : Nat → Nat → Value) (sz : Nat) (p0 : Nat) (hk0 : κ p0 = 10) (p1 : Int32) (p2 : Int32) (aT : Nat) (hT : g p0 2 = .ref aT) : vx_Met l yX8_feed wsX8_feed ({ frames := 7, cells := 2, slots := 12, locals := 120 }) (zPc D tc z0 [.ref p0, .int p1, .int p2] [] (L, κ, g) sz) (va_Qi (fun (r : Int32) (u : zS) => zHas g aT 8 p1 ∧ u = (L, κ, g)) (fun (u : zS) (t : State) => zB D tc (zA [] L sz) [] u t) (zA [] L sz)) (vx_X (fun u : zS => True) (fun (E : String) (u : zS) (t : State) => (((E = "java/lang/IndexOutOfBoundsException" ∧ ¬ zHas g aT 8 p1) ∨ (E = "java/lang/IllegalArgumentException") ∨ (E = "java/lang/IllegalStateException")) ∧ u = (L, κ, g)) ∧ zB D tc (zA [] L sz) [] u t) (zA [] L sz)) 2 12 (zA [] L sz) := by
  refine vx_ofW (cc := cX8_feed) (maxL := 4) (ret := (some .int)) (by decide) rfl ?_
  intro p e s m args below meth c s₁ B hml hxt hv
  obtain ⟨rfl, rfl, hK, hE, hI⟩ := hv.opn
  have hx := B.exec
  have hb := B.bytes
  have hr := B.returns
  have hts := atoms_spec (ws := wsX8_feed) B.pre
  have hown : s.vm.findClass RX8 = some m.cls := findClass_of_methodNamed B.named
  have hlocks := B.notSynchronized
  have hout : ∀ (i : Nat), ∀ x ∈ c.exceptionTable.toList, covers x i = false := fun i x hx9 => (hxt x hx9).elim
  have hM : zM p s m c cX8_feed _ wsX8_feed RX8 D tc := ⟨hx, hb, hts, hown, hK⟩
  have hinX7 : ∀ w ∈ wsX70, w ∈ wsX8_feed := by decide +kernel
  have hl := lv_entry ([.ref p0, .int p1, .int p2]) (n := 4) (Nat.le_of_ble_eq_true rfl)
  rw [lg_entry_eq]
  generalize (lg_sl ([.ref p0, .int p1, .int p2]) ++ List.replicate (4 - (lg_sl ([.ref p0, .int p1, .int p2])).length) Slot.unset).toArray = ls at hl ⊢
  have hl : lv_has ls 4 [(0, .ref p0), (1, .int p1), (2, .int p2)] := hl
  refine lv_aload_n hx hb dX8_feed_0 rfl (lv_at hl 0 rfl) ?_
  refine lv_iload_n hx hb dX8_feed_1 rfl (lv_at hl 1 rfl) ?_
  refine z_xq hI (vx_runV (As := [.int p1]) (rest := []) ⟨hx, hb, hml, hown, hts⟩ (c_X8_taskAt l hnt _ _ _ _ _ _ _ p0 hk0 p1 aT hT) (cwV 1 hts gX8_feed_X8_taskAt rfl rfl rfl (by decide +kernel) ⟨Nat.le_of_ble_eq_true rfl, Nat.le_of_ble_eq_true rfl⟩) (z_preV hK hE hI [] rfl rfl (z_recv hK hI hk0 rfl rfl)) rfl rfl hl.1 rfl (lv_room (Nat.le_of_ble_eq_true rfl)) dX8_feed_2 ⟨Nat.le_of_ble_eq_true rfl, Nat.le_of_ble_eq_true rfl⟩) (fun E ce q9 u H locs hw hI he1 he2 he3 => ?_) (fun v1 u H locs hw2 hI => ?_)
  · obtain ⟨hxp, rfl⟩ := hw
    exact z_pass hK hI hout hlocks he1 he2 he3 (by first | exact ⟨hxp, rfl⟩ | exact ⟨Or.inl hxp, rfl⟩ | exact ⟨Or.inr hxp, rfl⟩ | exact ⟨Or.inr (Or.inl hxp), rfl⟩ | exact ⟨Or.inr (Or.inr hxp), rfl⟩) (Nat.le_of_ble_eq_true rfl) (Nat.le_of_ble_eq_true rfl)
  obtain ⟨r3, rfl, hr4, hq5, rfl⟩ := hw2
  show W p l e (headSpec wsX8_feed ({ frames := 7, cells := 2, slots := 12, locals := 120 })).room s m ([.ref p0, .int p1, .int p2] : List Value).toArray below meth c _ _ 1 6 (vx_MQ below (va_Qi (fun (r : Int32) (u : zS) => zHas g aT 8 p1 ∧ u = (L, κ, g)) (fun (u : zS) (t : State) => zB D tc (zA [] L s.heap.size) [] u t) (zA [] L s.heap.size)) (vx_X (fun u : zS => True) (fun (E : String) (u : zS) (t : State) => (((E = "java/lang/IndexOutOfBoundsException" ∧ ¬ zHas g aT 8 p1) ∨ (E = "java/lang/IllegalArgumentException") ∨ (E = "java/lang/IllegalStateException")) ∧ u = (L, κ, g)) ∧ zB D tc (zA [] L s.heap.size) [] u t) (zA [] L s.heap.size)) ([.ref p0, .int p1, .int p2] : List Value).toArray s 2 12 (zA [] L s.heap.size)) (F0 m 5 ls (.ref r3 :: []))
  refine lv_astore_n (lv' := [(3, .ref r3), (0, .ref p0), (1, .int p1), (2, .int p2)]) hx hb dX8_feed_5 rfl hl (by decide) rfl (fun ls hl => ?_)
  refine lv_iconst (v := 1) hx hb dX8_feed_6 (by decide) ?_
  refine lv_iload_n hx hb dX8_feed_7 rfl (lv_at hl 3 rfl) ?_
  refine lv_ldc (v := 99999) hx hb hown (hts (.constant RX8 90 (99999)) (by decide +kernel)) dX8_feed_8 ?_
  refine vp_callSi (W.runS (As := [.int 1, .int p2, .int 99999]) (rest := []) ⟨hx, hb, hml, hown, hts⟩ (c_X8_isFrom l _ _ _ _ _ _ _ 1 p2 99999) (va_cwS 3 hts gX8_feed_X8_isFrom rfl rfl rfl (by decide +kernel) ⟨Nat.le_of_ble_eq_true rfl, Nat.le_of_ble_eq_true rfl⟩) (z_pre hK hE hI [] rfl rfl) rfl rfl hl.1 rfl (lv_room (Nat.le_of_ble_eq_true rfl)) dX8_feed_10 ⟨Nat.le_of_ble_eq_true rfl, Nat.le_of_ble_eq_true rfl⟩) (fun v6 hw7 => ?_)
  refine lv_if_ne (tgt := 26) hx hb dX8_feed_13 (by decide) (fun c8 => ?_) (fun c8 => ?_)
  · skip
    refine lv_aload_n hx hb dX8_feed_26 rfl (lv_at hl 0 rfl) ?_
    refine z_get (k := 9) (j := 2) hM hI hr4 rfl rfl hinX7 rfl (by decide) (by decide +kernel) (fun _ h9 => h9) dX8_feed_27 (fun v9 hv10 => ?_)
    obtain ⟨i11, rfl⟩ := hv10
    refine lv_iload_n hx hb dX8_feed_30 rfl (lv_at hl 3 rfl) ?_
    refine lv_iadd hx hb dX8_feed_31 ?_
    refine lv_topi (fun v12 e13 => ?_)
    refine lv_ldc (v := 999999) hx hb hown (hts (.constant RX8 109 (999999)) (by decide +kernel)) dX8_feed_32 ?_
    refine lv_icmp_le (tgt := 47) hx hb dX8_feed_34 (by decide) (fun c14 => ?_) (fun c14 => ?_)
    · skip
      refine lv_aload_n hx hb dX8_feed_47 rfl (lv_at hl 0 rfl) ?_
      refine lv_dup hx hb dX8_feed_48 rfl ?_
      refine z_get (k := 9) (j := 2) hM hI hr4 rfl rfl hinX7 rfl (by decide) (by decide +kernel) (fun _ h9 => h9) dX8_feed_49 (fun v15 hv16 => ?_)
      obtain ⟨i17, rfl⟩ := hv16
      refine lv_iload_n hx hb dX8_feed_52 rfl (lv_at hl 3 rfl) ?_
      refine lv_iadd hx hb dX8_feed_53 ?_
      refine lv_topi (fun v18 e19 => ?_)
      refine z_put (g' := g) (k := 9) (j := 2) hM hI hr4 rfl rfl hinX7 tyX7 tyX7_ok nmX7 rfl (by decide) (by decide +kernel) (fun _ h9 => h9) rfl rfl rfl rfl ⟨_, rfl⟩ (fun _ _ _ => rfl) dX8_feed_54 (fun H locs hI => ?_)
      refine lv_aload_n hx hb dX8_feed_57 rfl (lv_at hl 0 rfl) ?_
      refine z_get (k := 9) (j := 2) hM hI hr4 rfl rfl hinX7 rfl (by decide) (by decide +kernel) (fun _ h9 => h9) dX8_feed_58 (fun v20 hv21 => ?_)
      obtain ⟨i22, rfl⟩ := hv21
      refine vx_ret ?_
      refine W.widen (k := 2) (n := 12) (Nat.le_of_ble_eq_true rfl) (Nat.le_of_ble_eq_true rfl) ?_
      exact W.iret (v := i22) hx hb hr (fun t ht hW => ⟨⟨_, (L, κ, g), rfl, ⟨⟨hq5.1, _, hq5.2⟩, rfl⟩, z_end hK hI ht hW⟩, z_F hI ht⟩) (z_locs hI) dX8_feed_61
    · skip
      refine z_throw (ik := 81) (is := 110) (ic := 85) (cls := "java/lang/IllegalStateException") (text := "too much work") (L0 := L) ["java/lang/RuntimeException", "java/lang/Exception"] (by decide) hM hE hI hnt (by decide) (by decide +kernel) (by decide +kernel) (by decide +kernel) (by decide +kernel) (by decide +kernel) (by decide +kernel) (hl.1.trans hml.symm) dX8_feed_37 dX8_feed_40 dX8_feed_41 dX8_feed_43 dX8_feed_46 hout (Nat.le_of_ble_eq_true rfl) (Nat.le_of_ble_eq_true rfl) (Nat.le_of_ble_eq_true rfl) (Nat.le_of_ble_eq_true rfl) hlocks ⟨by first | exact Or.inr (Or.inl rfl) | exact Or.inr (Or.inr rfl), rfl⟩ (Nat.le_of_ble_eq_true rfl) (Nat.le_of_ble_eq_true rfl)
  · skip
    refine z_throw (ik := 71) (is := 95) (ic := 75) (cls := "java/lang/IllegalArgumentException") (text := "a number out of range") (L0 := L) ["java/lang/RuntimeException", "java/lang/Exception"] (by decide) hM hE hI hnt (by decide) (by decide +kernel) (by decide +kernel) (by decide +kernel) (by decide +kernel) (by decide +kernel) (by decide +kernel) (hl.1.trans hml.symm) dX8_feed_16 dX8_feed_19 dX8_feed_20 dX8_feed_22 dX8_feed_25 hout (Nat.le_of_ble_eq_true rfl) (Nat.le_of_ble_eq_true rfl) (Nat.le_of_ble_eq_true rfl) (Nat.le_of_ble_eq_true rfl) hlocks ⟨by first | exact Or.inr (Or.inl rfl) | exact Or.inr (Or.inr rfl), rfl⟩ (Nat.le_of_ble_eq_true rfl) (Nat.le_of_ble_eq_true rfl)

set_option maxHeartbeats 4000000 in
set_option maxRecDepth 100000 in
theorem c_X8_volts (l : Launch) (hnt : l.stackTraces = false) (D : va_G) (tc : Nat → ClassId) (z0 : Nat) (L : List Nat) (κ : Nat → Nat) (g : Nat → Nat → Value) (sz : Nat) (p0 : Nat) (hk0 : κ p0 = 10) (p1 : Int32) : vx_Met l yX8_volts wsX8_volts ({ frames := 7, cells := 1, slots := 6, locals := 120 }) (zPc D tc z0 [.ref p0, .int p1] [] (L, κ, g) sz) (va_Qi (fun (r : Int32) (u : zS) => vp_in p1 3 ∧ u = (L, κ, g)) (fun (u : zS) (t : State) => zB D tc (zA [] L sz) [] u t) (zA [] L sz)) (vx_X (fun u : zS => True) (fun (E : String) (u : zS) (t : State) => ((E = "java/lang/IndexOutOfBoundsException" ∧ ¬ vp_in p1 3) ∧ u = (L, κ, g)) ∧ zB D tc (zA [] L sz) [] u t) (zA [] L sz)) 1 6 (zA [] L sz) := by
  refine vx_ofW (cc := cX8_volts) (maxL := 2) (ret := (some .int)) (by decide) rfl ?_
  intro p e s m args below meth c s₁ B hml hxt hv
  obtain ⟨rfl, rfl, hK, hE, hI⟩ := hv.opn
  have hx := B.exec
  have hb := B.bytes
  have hr := B.returns
  have hts := atoms_spec (ws := wsX8_volts) B.pre
  have hown : s.vm.findClass RX8 = some m.cls := findClass_of_methodNamed B.named
  have hlocks := B.notSynchronized
  have hout : ∀ (i : Nat), ∀ x ∈ c.exceptionTable.toList, covers x i = false := fun i x hx9 => (hxt x hx9).elim
  have hM : zM p s m c cX8_volts _ wsX8_volts RX8 D tc := ⟨hx, hb, hts, hown, hK⟩
  have hinX4 : ∀ w ∈ wsX40, w ∈ wsX8_volts := by decide +kernel
  have hl := lv_entry ([.ref p0, .int p1]) (n := 2) (Nat.le_of_ble_eq_true rfl)
  rw [lg_entry_eq]
  generalize (lg_sl ([.ref p0, .int p1]) ++ List.replicate (2 - (lg_sl ([.ref p0, .int p1])).length) Slot.unset).toArray = ls at hl ⊢
  have hl : lv_has ls 2 [(0, .ref p0), (1, .int p1)] := hl
  refine lv_aload_n hx hb dX8_volts_0 rfl (lv_at hl 0 rfl) ?_
  refine lv_iload_n hx hb dX8_volts_1 rfl (lv_at hl 1 rfl) ?_
  refine z_xq hI (vx_runV (As := [.int p1]) (rest := []) ⟨hx, hb, hml, hown, hts⟩ (c_X8_railAt l hnt _ _ _ _ _ _ _ p0 hk0 p1) (cwV 1 hts gX8_volts_X8_railAt rfl rfl rfl (by decide +kernel) ⟨Nat.le_of_ble_eq_true rfl, Nat.le_of_ble_eq_true rfl⟩) (z_preV hK hE hI [] rfl rfl (z_recv hK hI hk0 rfl rfl)) rfl rfl hl.1 rfl (lv_room (Nat.le_of_ble_eq_true rfl)) dX8_volts_2 ⟨Nat.le_of_ble_eq_true rfl, Nat.le_of_ble_eq_true rfl⟩) (fun E ce q9 u H locs hw hI he1 he2 he3 => ?_) (fun v1 u H locs hw2 hI => ?_)
  · obtain ⟨hxp, rfl⟩ := hw
    exact z_pass hK hI hout hlocks he1 he2 he3 (by first | exact ⟨hxp, rfl⟩ | exact ⟨Or.inl hxp, rfl⟩ | exact ⟨Or.inr hxp, rfl⟩ | exact ⟨Or.inr (Or.inl hxp), rfl⟩ | exact ⟨Or.inr (Or.inr hxp), rfl⟩) (Nat.le_of_ble_eq_true rfl) (Nat.le_of_ble_eq_true rfl)
  obtain ⟨r3, rfl, hr4, hq5, rfl⟩ := hw2
  show W p l e (headSpec wsX8_volts ({ frames := 7, cells := 1, slots := 6, locals := 120 })).room s m ([.ref p0, .int p1] : List Value).toArray below meth c _ _ 1 6 (vx_MQ below (va_Qi (fun (r : Int32) (u : zS) => vp_in p1 3 ∧ u = (L, κ, g)) (fun (u : zS) (t : State) => zB D tc (zA [] L s.heap.size) [] u t) (zA [] L s.heap.size)) (vx_X (fun u : zS => True) (fun (E : String) (u : zS) (t : State) => ((E = "java/lang/IndexOutOfBoundsException" ∧ ¬ vp_in p1 3) ∧ u = (L, κ, g)) ∧ zB D tc (zA [] L s.heap.size) [] u t) (zA [] L s.heap.size)) ([.ref p0, .int p1] : List Value).toArray s 1 6 (zA [] L s.heap.size)) (F0 m 5 ls (.ref r3 :: []))
  refine z_get (k := 6) (j := 0) hM hI hr4 rfl rfl hinX4 rfl (by decide) (by decide +kernel) (fun _ h9 => h9) dX8_volts_5 (fun v6 hv7 => ?_)
  obtain ⟨i8, rfl⟩ := hv7
  refine vx_ret ?_
  exact W.iret (v := i8) hx hb hr (fun t ht hW => ⟨⟨_, (L, κ, g), rfl, ⟨hq5, rfl⟩, z_end hK hI ht hW⟩, z_F hI ht⟩) (z_locs hI) dX8_volts_8

set_option maxHeartbeats 4000000 in
set_option maxRecDepth 100000 in
theorem c_X8_fan (l : Launch) (D : va_G) (tc : Nat → ClassId) (z0 : Nat) (L : List Nat) (κ : Nat → Nat) (g : Nat → Nat → Value) (sz : Nat) (p0 : Nat) (hk0 : κ p0 = 10) : Met l yX8_fan wsX8_fan ({ frames := 0, cells := 0, slots := 0, locals := 0 }) (zPc D tc z0 [.ref p0] [] (L, κ, g) sz) (va_Qi (fun (r : Int32) (u : zS) => u = (L, κ, g)) (fun (u : zS) (t : State) => zB D tc (zA [] L sz) [] u t) (zA [] L sz)) 0 0 (zA [] L sz) := by
  refine Met.ofW (cc := cX8_fan) (maxL := 1) (ret := (some .int)) (by decide) rfl ?_
  intro p e s m args below meth c s₁ B hml hv
  obtain ⟨rfl, rfl, hK, hE, hI⟩ := hv.opn
  have hx := B.exec
  have hb := B.bytes
  have hr := B.returns
  have hts := atoms_spec (ws := wsX8_fan) B.pre
  have hown : s.vm.findClass RX8 = some m.cls := findClass_of_methodNamed B.named
  have hlocks := B.notSynchronized
  have hM : zM p s m c cX8_fan _ wsX8_fan RX8 D tc := ⟨hx, hb, hts, hown, hK⟩
  have hinX8 : ∀ w ∈ wsX80, w ∈ wsX8_fan := by decide +kernel
  have hinX2 : ∀ w ∈ wsX20, w ∈ wsX8_fan := by decide +kernel
  have hl := lv_entry ([.ref p0]) (n := 1) (Nat.le_of_ble_eq_true rfl)
  rw [lg_entry_eq]
  generalize (lg_sl ([.ref p0]) ++ List.replicate (1 - (lg_sl ([.ref p0])).length) Slot.unset).toArray = ls at hl ⊢
  have hl : lv_has ls 1 [(0, .ref p0)] := hl
  refine lv_aload_n hx hb dX8_fan_0 rfl (lv_at hl 0 rfl) ?_
  refine z_get (k := 10) (j := 3) hM hI hk0 rfl rfl hinX8 rfl (by decide) (by decide +kernel) (fun _ h9 => h9) dX8_fan_1 (fun v1 hv2 => ?_)
  obtain ⟨hg4, i3, rfl, hr5⟩ := hv2
  refine z_get (k := 4) (j := 3) hM hI hr5 rfl rfl hinX2 rfl (by decide) (by decide +kernel) (fun _ h9 => h9) dX8_fan_4 (fun v6 hv7 => ?_)
  obtain ⟨i8, rfl⟩ := hv7
  exact W.iret (v := i8) hx hb hr (fun t ht hW => ⟨⟨_, (L, κ, g), rfl, rfl, z_end hK hI ht hW⟩, z_F hI ht⟩) (z_locs hI) dX8_fan_7

set_option maxHeartbeats 4000000 in
set_option maxRecDepth 100000 in
theorem c_X8_battery (l : Launch) (D : va_G) (tc : Nat → ClassId) (z0 : Nat) (L : List Nat) (κ : Nat → Nat) (g : Nat → Nat → Value) (sz : Nat) (p0 : Nat) (hk0 : κ p0 = 10) : Met l yX8_battery wsX8_battery ({ frames := 0, cells := 0, slots := 0, locals := 0 }) (zPc D tc z0 [.ref p0] [] (L, κ, g) sz) (va_Qi (fun (r : Int32) (u : zS) => u = (L, κ, g)) (fun (u : zS) (t : State) => zB D tc (zA [] L sz) [] u t) (zA [] L sz)) 0 0 (zA [] L sz) := by
  refine Met.ofW (cc := cX8_battery) (maxL := 1) (ret := (some .int)) (by decide) rfl ?_
  intro p e s m args below meth c s₁ B hml hv
  obtain ⟨rfl, rfl, hK, hE, hI⟩ := hv.opn
  have hx := B.exec
  have hb := B.bytes
  have hr := B.returns
  have hts := atoms_spec (ws := wsX8_battery) B.pre
  have hown : s.vm.findClass RX8 = some m.cls := findClass_of_methodNamed B.named
  have hlocks := B.notSynchronized
  have hM : zM p s m c cX8_battery _ wsX8_battery RX8 D tc := ⟨hx, hb, hts, hown, hK⟩
  have hinX8 : ∀ w ∈ wsX80, w ∈ wsX8_battery := by decide +kernel
  have hinX6 : ∀ w ∈ wsX60, w ∈ wsX8_battery := by decide +kernel
  have hl := lv_entry ([.ref p0]) (n := 1) (Nat.le_of_ble_eq_true rfl)
  rw [lg_entry_eq]
  generalize (lg_sl ([.ref p0]) ++ List.replicate (1 - (lg_sl ([.ref p0])).length) Slot.unset).toArray = ls at hl ⊢
  have hl : lv_has ls 1 [(0, .ref p0)] := hl
  refine lv_aload_n hx hb dX8_battery_0 rfl (lv_at hl 0 rfl) ?_
  refine z_get (k := 10) (j := 4) hM hI hk0 rfl rfl hinX8 rfl (by decide) (by decide +kernel) (fun _ h9 => h9) dX8_battery_1 (fun v1 hv2 => ?_)
  obtain ⟨hg4, i3, rfl, hr5⟩ := hv2
  refine z_get (k := 8) (j := 1) hM hI hr5 rfl rfl hinX6 rfl (by decide) (by decide +kernel) (fun _ h9 => h9) dX8_battery_4 (fun v6 hv7 => ?_)
  obtain ⟨i8, rfl⟩ := hv7
  exact W.iret (v := i8) hx hb hr (fun t ht hW => ⟨⟨_, (L, κ, g), rfl, rfl, z_end hK hI ht hW⟩, z_F hI ht⟩) (z_locs hI) dX8_battery_7

set_option maxHeartbeats 4000000 in
set_option maxRecDepth 100000 in
theorem c_X8_purse (l : Launch) (D : va_G) (tc : Nat → ClassId) (z0 : Nat) (L : List Nat) (κ : Nat → Nat) (g : Nat → Nat → Value) (sz : Nat) (p0 : Nat) (hk0 : κ p0 = 10) : Met l yX8_purse wsX8_purse ({ frames := 0, cells := 0, slots := 0, locals := 0 }) (zPc D tc z0 [.ref p0] [] (L, κ, g) sz) (va_Qi (fun (r : Int32) (u : zS) => u = (L, κ, g)) (fun (u : zS) (t : State) => zB D tc (zA [] L sz) [] u t) (zA [] L sz)) 0 0 (zA [] L sz) := by
  refine Met.ofW (cc := cX8_purse) (maxL := 1) (ret := (some .int)) (by decide) rfl ?_
  intro p e s m args below meth c s₁ B hml hv
  obtain ⟨rfl, rfl, hK, hE, hI⟩ := hv.opn
  have hx := B.exec
  have hb := B.bytes
  have hr := B.returns
  have hts := atoms_spec (ws := wsX8_purse) B.pre
  have hown : s.vm.findClass RX8 = some m.cls := findClass_of_methodNamed B.named
  have hlocks := B.notSynchronized
  have hM : zM p s m c cX8_purse _ wsX8_purse RX8 D tc := ⟨hx, hb, hts, hown, hK⟩
  have hinX8 : ∀ w ∈ wsX80, w ∈ wsX8_purse := by decide +kernel
  have hinX6 : ∀ w ∈ wsX60, w ∈ wsX8_purse := by decide +kernel
  have hl := lv_entry ([.ref p0]) (n := 1) (Nat.le_of_ble_eq_true rfl)
  rw [lg_entry_eq]
  generalize (lg_sl ([.ref p0]) ++ List.replicate (1 - (lg_sl ([.ref p0])).length) Slot.unset).toArray = ls at hl ⊢
  have hl : lv_has ls 1 [(0, .ref p0)] := hl
  refine lv_aload_n hx hb dX8_purse_0 rfl (lv_at hl 0 rfl) ?_
  refine z_get (k := 10) (j := 4) hM hI hk0 rfl rfl hinX8 rfl (by decide) (by decide +kernel) (fun _ h9 => h9) dX8_purse_1 (fun v1 hv2 => ?_)
  obtain ⟨hg4, i3, rfl, hr5⟩ := hv2
  refine z_get (k := 8) (j := 2) hM hI hr5 rfl rfl hinX6 rfl (by decide) (by decide +kernel) (fun _ h9 => h9) dX8_purse_4 (fun v6 hv7 => ?_)
  obtain ⟨i8, rfl⟩ := hv7
  exact W.iret (v := i8) hx hb hr (fun t ht hW => ⟨⟨_, (L, κ, g), rfl, rfl, z_end hK hI ht hW⟩, z_F hI ht⟩) (z_locs hI) dX8_purse_7

set_option maxHeartbeats 4000000 in
set_option maxRecDepth 100000 in
theorem c_X8_taken (l : Launch) (D : va_G) (tc : Nat → ClassId) (z0 : Nat) (L : List Nat) (κ : Nat → Nat) (g : Nat → Nat → Value) (sz : Nat) (p0 : Nat) (hk0 : κ p0 = 10) : Met l yX8_taken wsX8_taken ({ frames := 0, cells := 0, slots := 0, locals := 0 }) (zPc D tc z0 [.ref p0] [] (L, κ, g) sz) (va_Qi (fun (r : Int32) (u : zS) => u = (L, κ, g)) (fun (u : zS) (t : State) => zB D tc (zA [] L sz) [] u t) (zA [] L sz)) 0 0 (zA [] L sz) := by
  refine Met.ofW (cc := cX8_taken) (maxL := 1) (ret := (some .int)) (by decide) rfl ?_
  intro p e s m args below meth c s₁ B hml hv
  obtain ⟨rfl, rfl, hK, hE, hI⟩ := hv.opn
  have hx := B.exec
  have hb := B.bytes
  have hr := B.returns
  have hts := atoms_spec (ws := wsX8_taken) B.pre
  have hown : s.vm.findClass RX8 = some m.cls := findClass_of_methodNamed B.named
  have hlocks := B.notSynchronized
  have hM : zM p s m c cX8_taken _ wsX8_taken RX8 D tc := ⟨hx, hb, hts, hown, hK⟩
  have hinX8 : ∀ w ∈ wsX80, w ∈ wsX8_taken := by decide +kernel
  have hinX6 : ∀ w ∈ wsX60, w ∈ wsX8_taken := by decide +kernel
  have hl := lv_entry ([.ref p0]) (n := 1) (Nat.le_of_ble_eq_true rfl)
  rw [lg_entry_eq]
  generalize (lg_sl ([.ref p0]) ++ List.replicate (1 - (lg_sl ([.ref p0])).length) Slot.unset).toArray = ls at hl ⊢
  have hl : lv_has ls 1 [(0, .ref p0)] := hl
  refine lv_aload_n hx hb dX8_taken_0 rfl (lv_at hl 0 rfl) ?_
  refine z_get (k := 10) (j := 4) hM hI hk0 rfl rfl hinX8 rfl (by decide) (by decide +kernel) (fun _ h9 => h9) dX8_taken_1 (fun v1 hv2 => ?_)
  obtain ⟨hg4, i3, rfl, hr5⟩ := hv2
  refine z_get (k := 8) (j := 3) hM hI hr5 rfl rfl hinX6 rfl (by decide) (by decide +kernel) (fun _ h9 => h9) dX8_taken_4 (fun v6 hv7 => ?_)
  obtain ⟨i8, rfl⟩ := hv7
  refine lv_l2i hx hb dX8_taken_7 rfl ?_
  refine lv_topi (fun v9 e10 => ?_)
  exact W.iret (v := v9) hx hb hr (fun t ht hW => ⟨⟨_, (L, κ, g), rfl, rfl, z_end hK hI ht hW⟩, z_F hI ht⟩) (z_locs hI) dX8_taken_8

set_option maxHeartbeats 4000000 in
set_option maxRecDepth 100000 in
theorem c_X8_owed (l : Launch) (D : va_G) (tc : Nat → ClassId) (z0 : Nat) (L : List Nat) (κ : Nat → Nat) (g : Nat → Nat → Value) (sz : Nat) (p0 : Nat) (hk0 : κ p0 = 10) : Met l yX8_owed wsX8_owed ({ frames := 0, cells := 0, slots := 0, locals := 0 }) (zPc D tc z0 [.ref p0] [] (L, κ, g) sz) (va_Qi (fun (r : Int32) (u : zS) => u = (L, κ, g)) (fun (u : zS) (t : State) => zB D tc (zA [] L sz) [] u t) (zA [] L sz)) 0 0 (zA [] L sz) := by
  refine Met.ofW (cc := cX8_owed) (maxL := 1) (ret := (some .int)) (by decide) rfl ?_
  intro p e s m args below meth c s₁ B hml hv
  obtain ⟨rfl, rfl, hK, hE, hI⟩ := hv.opn
  have hx := B.exec
  have hb := B.bytes
  have hr := B.returns
  have hts := atoms_spec (ws := wsX8_owed) B.pre
  have hown : s.vm.findClass RX8 = some m.cls := findClass_of_methodNamed B.named
  have hlocks := B.notSynchronized
  have hM : zM p s m c cX8_owed _ wsX8_owed RX8 D tc := ⟨hx, hb, hts, hown, hK⟩
  have hinX8 : ∀ w ∈ wsX80, w ∈ wsX8_owed := by decide +kernel
  have hinX6 : ∀ w ∈ wsX60, w ∈ wsX8_owed := by decide +kernel
  have hl := lv_entry ([.ref p0]) (n := 1) (Nat.le_of_ble_eq_true rfl)
  rw [lg_entry_eq]
  generalize (lg_sl ([.ref p0]) ++ List.replicate (1 - (lg_sl ([.ref p0])).length) Slot.unset).toArray = ls at hl ⊢
  have hl : lv_has ls 1 [(0, .ref p0)] := hl
  refine lv_aload_n hx hb dX8_owed_0 rfl (lv_at hl 0 rfl) ?_
  refine z_get (k := 10) (j := 4) hM hI hk0 rfl rfl hinX8 rfl (by decide) (by decide +kernel) (fun _ h9 => h9) dX8_owed_1 (fun v1 hv2 => ?_)
  obtain ⟨hg4, i3, rfl, hr5⟩ := hv2
  refine z_get (k := 8) (j := 4) hM hI hr5 rfl rfl hinX6 rfl (by decide) (by decide +kernel) (fun _ h9 => h9) dX8_owed_4 (fun v6 hv7 => ?_)
  obtain ⟨i8, rfl⟩ := hv7
  refine lv_l2i hx hb dX8_owed_7 rfl ?_
  refine lv_topi (fun v9 e10 => ?_)
  exact W.iret (v := v9) hx hb hr (fun t ht hW => ⟨⟨_, (L, κ, g), rfl, rfl, z_end hK hI ht hW⟩, z_F hI ht⟩) (z_locs hI) dX8_owed_8

set_option maxHeartbeats 4000000 in
set_option maxRecDepth 100000 in
theorem c_X8_caseDegrees (l : Launch) (D : va_G) (tc : Nat → ClassId) (z0 : Nat) (L : List Nat) (κ : Nat → Nat) (g : Nat → Nat → Value) (sz : Nat) (p0 : Nat) (hk0 : κ p0 = 10) : Met l yX8_caseDegrees wsX8_caseDegrees ({ frames := 1, cells := 0, slots := 0, locals := 20 }) (zPc D tc z0 [.ref p0] [] (L, κ, g) sz) (va_Qi (fun (r : Int32) (u : zS) => u = (L, κ, g)) (fun (u : zS) (t : State) => zB D tc (zA [] L sz) [] u t) (zA [] L sz)) 0 0 (zA [] L sz) := by
  refine Met.ofW (cc := cX8_caseDegrees) (maxL := 1) (ret := (some .int)) (by decide) rfl ?_
  intro p e s m args below meth c s₁ B hml hv
  obtain ⟨rfl, rfl, hK, hE, hI⟩ := hv.opn
  have hx := B.exec
  have hb := B.bytes
  have hr := B.returns
  have hts := atoms_spec (ws := wsX8_caseDegrees) B.pre
  have hown : s.vm.findClass RX8 = some m.cls := findClass_of_methodNamed B.named
  have hlocks := B.notSynchronized
  have hM : zM p s m c cX8_caseDegrees _ wsX8_caseDegrees RX8 D tc := ⟨hx, hb, hts, hown, hK⟩
  have hinX8 : ∀ w ∈ wsX80, w ∈ wsX8_caseDegrees := by decide +kernel
  have hinX2 : ∀ w ∈ wsX20, w ∈ wsX8_caseDegrees := by decide +kernel
  have hinX1 : ∀ w ∈ wsX10, w ∈ wsX8_caseDegrees := by decide +kernel
  have hl := lv_entry ([.ref p0]) (n := 1) (Nat.le_of_ble_eq_true rfl)
  rw [lg_entry_eq]
  generalize (lg_sl ([.ref p0]) ++ List.replicate (1 - (lg_sl ([.ref p0])).length) Slot.unset).toArray = ls at hl ⊢
  have hl : lv_has ls 1 [(0, .ref p0)] := hl
  refine lv_aload_n hx hb dX8_caseDegrees_0 rfl (lv_at hl 0 rfl) ?_
  refine z_get (k := 10) (j := 3) hM hI hk0 rfl rfl hinX8 rfl (by decide) (by decide +kernel) (fun _ h9 => h9) dX8_caseDegrees_1 (fun v1 hv2 => ?_)
  obtain ⟨hg4, i3, rfl, hr5⟩ := hv2
  refine z_get (k := 4) (j := 0) hM hI hr5 rfl rfl hinX2 rfl (by decide) (by decide +kernel) (fun _ h9 => h9) dX8_caseDegrees_4 (fun v6 hv7 => ?_)
  obtain ⟨i8, rfl, hr9⟩ := hv7
  refine z_get (k := 3) (j := 2) hM hI hr9 rfl rfl hinX1 rfl (by decide) (by decide +kernel) (fun _ h9 => h9) dX8_caseDegrees_7 (fun v10 hv11 => ?_)
  obtain ⟨i12, rfl, hr13⟩ := hv11
  refine vp_callSl (W.runV (As := []) (rest := []) ⟨hx, hb, hml, hown, hts⟩ (c_X0_lowBits l _ _ _ _ _ _ _ i12 hr13) (cwV 0 hts gX8_caseDegrees_X0_lowBits rfl rfl rfl (by decide +kernel) ⟨Nat.le_of_ble_eq_true rfl, Nat.le_of_ble_eq_true rfl⟩) (z_preV hK hE hI [] rfl rfl (z_recv hK hI hr13 rfl rfl)) rfl rfl hl.1 rfl (lv_room (Nat.le_of_ble_eq_true rfl)) dX8_caseDegrees_10 ⟨Nat.le_of_ble_eq_true rfl, Nat.le_of_ble_eq_true rfl⟩) (fun v14 hw15 => ?_)
  refine lv_l2i hx hb dX8_caseDegrees_13 rfl ?_
  refine lv_topi (fun v16 e17 => ?_)
  exact W.iret (v := v16) hx hb hr (fun t ht hW => ⟨⟨_, (L, κ, g), rfl, rfl, z_end hK hI ht hW⟩, z_F hI ht⟩) (z_locs hI) dX8_caseDegrees_14

set_option maxHeartbeats 4000000 in
set_option maxRecDepth 100000 in
theorem c_X8_account (l : Launch) (hnt : l.stackTraces = false) (D : va_G) (tc : Nat → ClassId) (z0 : Nat) (L : List Nat) (κ : Nat → Nat) (g : Nat → Nat → Value) (sz : Nat) (p0 : Nat) (hk0 : κ p0 = 10) (p1 : Int32) : vx_Met l yX8_account wsX8_account ({ frames := 6, cells := 1, slots := 6, locals := 98 }) (zPc D tc z0 [.ref p0, .int p1] [] (L, κ, g) sz) (va_Ql (fun (r : Int64) (u : zS) => u = (L, κ, g)) (fun (u : zS) (t : State) => zB D tc (zA [] L sz) [] u t) (zA [] L sz)) (vx_X (fun u : zS => True) (fun (E : String) (u : zS) (t : State) => (E = "java/lang/IllegalArgumentException" ∧ u = (L, κ, g)) ∧ zB D tc (zA [] L sz) [] u t) (zA [] L sz)) 1 6 (zA [] L sz) := by
  refine vx_ofW (cc := cX8_account) (maxL := 2) (ret := (some .long)) (by decide) rfl ?_
  intro p e s m args below meth c s₁ B hml hxt hv
  obtain ⟨rfl, rfl, hK, hE, hI⟩ := hv.opn
  have hx := B.exec
  have hb := B.bytes
  have hr := B.returns
  have hts := atoms_spec (ws := wsX8_account) B.pre
  have hown : s.vm.findClass RX8 = some m.cls := findClass_of_methodNamed B.named
  have hlocks := B.notSynchronized
  have hout : ∀ (i : Nat), ∀ x ∈ c.exceptionTable.toList, covers x i = false := fun i x hx9 => (hxt x hx9).elim
  have hM : zM p s m c cX8_account _ wsX8_account RX8 D tc := ⟨hx, hb, hts, hown, hK⟩
  have hinX8 : ∀ w ∈ wsX80, w ∈ wsX8_account := by decide +kernel
  have hinX6 : ∀ w ∈ wsX60, w ∈ wsX8_account := by decide +kernel
  have hinX2 : ∀ w ∈ wsX20, w ∈ wsX8_account := by decide +kernel
  have hl := lv_entry ([.ref p0, .int p1]) (n := 2) (Nat.le_of_ble_eq_true rfl)
  rw [lg_entry_eq]
  generalize (lg_sl ([.ref p0, .int p1]) ++ List.replicate (2 - (lg_sl ([.ref p0, .int p1])).length) Slot.unset).toArray = ls at hl ⊢
  have hl : lv_has ls 2 [(0, .ref p0), (1, .int p1)] := hl
  refine lv_iload_n hx hb dX8_account_0 rfl (lv_at hl 1 rfl) ?_
  refine lv_bipush (v := 119) hx hb dX8_account_1 (by decide) ?_
  refine lv_icmp_ne (tgt := 14) hx hb dX8_account_3 (by decide) (fun c1 => ?_) (fun c1 => ?_)
  · skip
    refine lv_iload_n hx hb dX8_account_14 rfl (lv_at hl 1 rfl) ?_
    refine lv_bipush (v := 98) hx hb dX8_account_15 (by decide) ?_
    refine lv_icmp_ne (tgt := 28) hx hb dX8_account_17 (by decide) (fun c2 => ?_) (fun c2 => ?_)
    · skip
      refine lv_iload_n hx hb dX8_account_28 rfl (lv_at hl 1 rfl) ?_
      refine lv_bipush (v := 111) hx hb dX8_account_29 (by decide) ?_
      refine lv_icmp_ne (tgt := 42) hx hb dX8_account_31 (by decide) (fun c3 => ?_) (fun c3 => ?_)
      · skip
        refine lv_iload_n hx hb dX8_account_42 rfl (lv_at hl 1 rfl) ?_
        refine lv_bipush (v := 104) hx hb dX8_account_43 (by decide) ?_
        refine lv_icmp_ne (tgt := 53) hx hb dX8_account_45 (by decide) (fun c4 => ?_) (fun c4 => ?_)
        · skip
          refine lv_iload_n hx hb dX8_account_53 rfl (lv_at hl 1 rfl) ?_
          refine lv_bipush (v := 97) hx hb dX8_account_54 (by decide) ?_
          refine lv_icmp_ne (tgt := 67) hx hb dX8_account_56 (by decide) (fun c5 => ?_) (fun c5 => ?_)
          · skip
            refine lv_iload_n hx hb dX8_account_67 rfl (lv_at hl 1 rfl) ?_
            refine lv_bipush (v := 116) hx hb dX8_account_68 (by decide) ?_
            refine lv_icmp_ne (tgt := 81) hx hb dX8_account_70 (by decide) (fun c6 => ?_) (fun c6 => ?_)
            · skip
              refine z_throwW (ik := 71) (is := 283) (ic := 75) (cls := "java/lang/IllegalArgumentException") (text := "no such account") (L0 := L) ["java/lang/RuntimeException", "java/lang/Exception"] (by decide) hM hE hI hnt (by decide) (by decide +kernel) (by decide +kernel) (by decide +kernel) (by decide +kernel) (by decide +kernel) (by decide +kernel) (hl.1.trans hml.symm) dX8_account_81 dX8_account_84 dX8_account_85 dX8_account_88 dX8_account_91 hout (Nat.le_of_ble_eq_true rfl) (Nat.le_of_ble_eq_true rfl) (Nat.le_of_ble_eq_true rfl) (Nat.le_of_ble_eq_true rfl) hlocks ⟨rfl, rfl⟩ (Nat.le_of_ble_eq_true rfl) (Nat.le_of_ble_eq_true rfl)
            · skip
              refine lv_aload_n hx hb dX8_account_73 rfl (lv_at hl 0 rfl) ?_
              refine z_get (k := 10) (j := 4) hM hI hk0 rfl rfl hinX8 rfl (by decide) (by decide +kernel) (fun _ h9 => h9) dX8_account_74 (fun v7 hv8 => ?_)
              obtain ⟨hg10, i9, rfl, hr11⟩ := hv8
              refine z_get (k := 8) (j := 9) hM hI hr11 rfl rfl hinX6 rfl (by decide) (by decide +kernel) (fun _ h9 => h9) dX8_account_77 (fun v12 hv13 => ?_)
              obtain ⟨i14, rfl⟩ := hv13
              refine vx_ret ?_
              refine W.widen (k := 1) (n := 6) (Nat.le_of_ble_eq_true rfl) (Nat.le_of_ble_eq_true rfl) ?_
              exact W.lret (v := i14) hx hb hr (fun t ht hW => ⟨⟨_, (L, κ, g), rfl, rfl, z_end hK hI ht hW⟩, z_F hI ht⟩) (z_locs hI) dX8_account_80
          · skip
            refine lv_aload_n hx hb dX8_account_59 rfl (lv_at hl 0 rfl) ?_
            refine z_get (k := 10) (j := 3) hM hI hk0 rfl rfl hinX8 rfl (by decide) (by decide +kernel) (fun _ h9 => h9) dX8_account_60 (fun v15 hv16 => ?_)
            obtain ⟨hg18, i17, rfl, hr19⟩ := hv16
            refine z_get (k := 4) (j := 2) hM hI hr19 rfl rfl hinX2 rfl (by decide) (by decide +kernel) (fun _ h9 => h9) dX8_account_63 (fun v20 hv21 => ?_)
            obtain ⟨i22, rfl⟩ := hv21
            refine vx_ret ?_
            refine W.widen (k := 1) (n := 6) (Nat.le_of_ble_eq_true rfl) (Nat.le_of_ble_eq_true rfl) ?_
            exact W.lret (v := i22) hx hb hr (fun t ht hW => ⟨⟨_, (L, κ, g), rfl, rfl, z_end hK hI ht hW⟩, z_F hI ht⟩) (z_locs hI) dX8_account_66
        · skip
          refine lv_aload_n hx hb dX8_account_48 rfl (lv_at hl 0 rfl) ?_
          refine z_get (k := 10) (j := 9) hM hI hk0 rfl rfl hinX8 rfl (by decide) (by decide +kernel) (fun _ h9 => h9) dX8_account_49 (fun v23 hv24 => ?_)
          obtain ⟨i25, rfl⟩ := hv24
          refine vx_ret ?_
          refine W.widen (k := 1) (n := 6) (Nat.le_of_ble_eq_true rfl) (Nat.le_of_ble_eq_true rfl) ?_
          exact W.lret (v := i25) hx hb hr (fun t ht hW => ⟨⟨_, (L, κ, g), rfl, rfl, z_end hK hI ht hW⟩, z_F hI ht⟩) (z_locs hI) dX8_account_52
      · skip
        refine lv_aload_n hx hb dX8_account_34 rfl (lv_at hl 0 rfl) ?_
        refine z_get (k := 10) (j := 4) hM hI hk0 rfl rfl hinX8 rfl (by decide) (by decide +kernel) (fun _ h9 => h9) dX8_account_35 (fun v26 hv27 => ?_)
        obtain ⟨hg29, i28, rfl, hr30⟩ := hv27
        refine z_get (k := 8) (j := 8) hM hI hr30 rfl rfl hinX6 rfl (by decide) (by decide +kernel) (fun _ h9 => h9) dX8_account_38 (fun v31 hv32 => ?_)
        obtain ⟨i33, rfl⟩ := hv32
        refine vx_ret ?_
        refine W.widen (k := 1) (n := 6) (Nat.le_of_ble_eq_true rfl) (Nat.le_of_ble_eq_true rfl) ?_
        exact W.lret (v := i33) hx hb hr (fun t ht hW => ⟨⟨_, (L, κ, g), rfl, rfl, z_end hK hI ht hW⟩, z_F hI ht⟩) (z_locs hI) dX8_account_41
    · skip
      refine lv_aload_n hx hb dX8_account_20 rfl (lv_at hl 0 rfl) ?_
      refine z_get (k := 10) (j := 4) hM hI hk0 rfl rfl hinX8 rfl (by decide) (by decide +kernel) (fun _ h9 => h9) dX8_account_21 (fun v34 hv35 => ?_)
      obtain ⟨hg37, i36, rfl, hr38⟩ := hv35
      refine z_get (k := 8) (j := 7) hM hI hr38 rfl rfl hinX6 rfl (by decide) (by decide +kernel) (fun _ h9 => h9) dX8_account_24 (fun v39 hv40 => ?_)
      obtain ⟨i41, rfl⟩ := hv40
      refine vx_ret ?_
      refine W.widen (k := 1) (n := 6) (Nat.le_of_ble_eq_true rfl) (Nat.le_of_ble_eq_true rfl) ?_
      exact W.lret (v := i41) hx hb hr (fun t ht hW => ⟨⟨_, (L, κ, g), rfl, rfl, z_end hK hI ht hW⟩, z_F hI ht⟩) (z_locs hI) dX8_account_27
  · skip
    refine lv_aload_n hx hb dX8_account_6 rfl (lv_at hl 0 rfl) ?_
    refine z_get (k := 10) (j := 4) hM hI hk0 rfl rfl hinX8 rfl (by decide) (by decide +kernel) (fun _ h9 => h9) dX8_account_7 (fun v42 hv43 => ?_)
    obtain ⟨hg45, i44, rfl, hr46⟩ := hv43
    refine z_get (k := 8) (j := 6) hM hI hr46 rfl rfl hinX6 rfl (by decide) (by decide +kernel) (fun _ h9 => h9) dX8_account_10 (fun v47 hv48 => ?_)
    obtain ⟨i49, rfl⟩ := hv48
    refine vx_ret ?_
    refine W.widen (k := 1) (n := 6) (Nat.le_of_ble_eq_true rfl) (Nat.le_of_ble_eq_true rfl) ?_
    exact W.lret (v := i49) hx hb hr (fun t ht hW => ⟨⟨_, (L, κ, g), rfl, rfl, z_end hK hI ht hW⟩, z_F hI ht⟩) (z_locs hI) dX8_account_13

set_option maxHeartbeats 4000000 in
set_option maxRecDepth 100000 in
theorem c_X8_checksum (l : Launch) (D : va_G) (tc : Nat → ClassId) (z0 : Nat) (L : List Nat) (κ : Nat → Nat) (g : Nat → Nat → Value) (sz : Nat) (p0 : Nat) (hk0 : κ p0 = 10) : Met l yX8_checksum wsX8_checksum ({ frames := 1, cells := 0, slots := 0, locals := 20 }) (zPc D tc z0 [.ref p0] [] (L, κ, g) sz) (va_Ql (fun (r : Int64) (u : zS) => u = (L, κ, g)) (fun (u : zS) (t : State) => zB D tc (zA [] L sz) [] u t) (zA [] L sz)) 0 0 (zA [] L sz) := by
  refine Met.ofW (cc := cX8_checksum) (maxL := 7) (ret := (some .long)) (by decide) rfl ?_
  intro p e s m args below meth c s₁ B hml hv
  obtain ⟨rfl, rfl, hK, hE, hI⟩ := hv.opn
  have hx := B.exec
  have hb := B.bytes
  have hr := B.returns
  have hts := atoms_spec (ws := wsX8_checksum) B.pre
  have hown : s.vm.findClass RX8 = some m.cls := findClass_of_methodNamed B.named
  have hlocks := B.notSynchronized
  have hM : zM p s m c cX8_checksum _ wsX8_checksum RX8 D tc := ⟨hx, hb, hts, hown, hK⟩
  have hinX8 : ∀ w ∈ wsX80, w ∈ wsX8_checksum := by decide +kernel
  have hinX2 : ∀ w ∈ wsX20, w ∈ wsX8_checksum := by decide +kernel
  have hinX1 : ∀ w ∈ wsX10, w ∈ wsX8_checksum := by decide +kernel
  have hinX6 : ∀ w ∈ wsX60, w ∈ wsX8_checksum := by decide +kernel
  have hinX7 : ∀ w ∈ wsX70, w ∈ wsX8_checksum := by decide +kernel
  have hinX3 : ∀ w ∈ wsX30, w ∈ wsX8_checksum := by decide +kernel
  have hl := lv_entry ([.ref p0]) (n := 7) (Nat.le_of_ble_eq_true rfl)
  rw [lg_entry_eq]
  generalize (lg_sl ([.ref p0]) ++ List.replicate (7 - (lg_sl ([.ref p0])).length) Slot.unset).toArray = ls at hl ⊢
  have hl : lv_has ls 7 [(0, .ref p0)] := hl
  refine lv_ldc2 (v := 7) hx hb hown (hts (.constantLong RX8 285 (7)) (by decide +kernel)) dX8_checksum_0 ?_
  refine lv_lstore_n (lv' := [(1, .long 7), (0, .ref p0)]) hx hb dX8_checksum_3 rfl hl (by decide) rfl (fun ls hl => ?_)
  refine lv_aload_n hx hb dX8_checksum_4 rfl (lv_at hl 1 rfl) ?_
  refine z_get (k := 10) (j := 1) hM hI hk0 rfl rfl hinX8 rfl (by decide) (by decide +kernel) (fun _ h9 => h9) dX8_checksum_5 (fun v1 hv2 => ?_)
  obtain ⟨hg4, i3, rfl, hr5⟩ := hv2
  refine lv_astore_n (lv' := [(3, .ref i3), (1, .long 7), (0, .ref p0)]) hx hb dX8_checksum_8 rfl hl (by decide) rfl (fun ls hl => ?_)
  refine lv_aload_n hx hb dX8_checksum_9 rfl (lv_at hl 0 rfl) ?_
  refine z_alen (v := 6) hM hI hr5 rfl rfl rfl (by decide) dX8_checksum_10 ?_
  refine lv_istore (lv' := [(4, .int 6), (3, .ref i3), (1, .long 7), (0, .ref p0)]) hx hb dX8_checksum_11 hl (by decide) rfl (fun ls hl => ?_)
  refine lv_iconst (v := 0) hx hb dX8_checksum_13 (by decide) ?_
  refine lv_istore (lv' := [(5, .int 0), (4, .int 6), (3, .ref i3), (1, .long 7), (0, .ref p0)]) hx hb dX8_checksum_14 hl (by decide) rfl (fun ls hl => ?_)
  have hL16 : ∀ (n : Nat) (H : Heap) (locs : List Loc) (x6 : Int64)  (i7 : Nat) (hi : i7 ≤ 6) (hn : 6 - i7 < n)   (hI : zI D tc (zA [] L s.heap.size) s.heap [] L κ g H locs) (ls : Array Slot) (hl : lv_has ls 7 [(4, .int 6), (3, .ref i3), (1, .long x6), (0, .ref p0), (5, .int ((nI i7)))]), W p l e (headSpec wsX8_checksum ({ frames := 1, cells := 0, slots := 0, locals := 20 })).room s m ([.ref p0] : List Value).toArray below meth c H locs 0 0 (MQ below (va_Ql (fun (r : Int64) (u : zS) => u = (L, κ, g)) (fun (u : zS) (t : State) => zB D tc (zA [] L s.heap.size) [] u t) (zA [] L s.heap.size)) ([.ref p0] : List Value).toArray s 0 0 (zA [] L s.heap.size)) (F0 m 16 ls []) := by
    intro n
    induction n with
    | zero => intro H locs x6 i7 hi hn hI ls hl; exact absurd hn (Nat.not_lt_zero _)
    | succ n ih =>
      intro H locs x6 i7 hi hn hI ls hl
      refine lv_iload hx hb dX8_checksum_16 (lv_at hl 4 rfl) ?_
      refine lv_iload hx hb dX8_checksum_18 (lv_at hl 0 rfl) ?_
      refine lv_icmp_ge (tgt := 71) hx hb dX8_checksum_20 (by decide) (fun c8 => ?_) (fun c8 => ?_)
      · skip
        have hgec8 : 6 ≤ i7 := z_ge (by omega) (by omega) c8
        refine lv_aload_n hx hb dX8_checksum_71 rfl (lv_at hl 3 rfl) ?_
        refine z_get (k := 10) (j := 2) hM hI hk0 rfl rfl hinX8 rfl (by decide) (by decide +kernel) (fun _ h9 => h9) dX8_checksum_72 (fun v9 hv10 => ?_)
        obtain ⟨hg12, i11, rfl, hr13⟩ := hv10
        refine lv_astore_n (lv' := [(3, .ref i11), (4, .int 6), (1, .long x6), (0, .ref p0), (5, .int ((nI i7)))]) hx hb dX8_checksum_75 rfl hl (by decide) rfl (fun ls hl => ?_)
        refine lv_aload_n hx hb dX8_checksum_76 rfl (lv_at hl 0 rfl) ?_
        refine z_alen (v := 8) hM hI hr13 rfl rfl rfl (by decide) dX8_checksum_77 ?_
        refine lv_istore (lv' := [(4, .int 8), (3, .ref i11), (1, .long x6), (0, .ref p0), (5, .int ((nI i7)))]) hx hb dX8_checksum_78 hl (by decide) rfl (fun ls hl => ?_)
        refine lv_iconst (v := 0) hx hb dX8_checksum_80 (by decide) ?_
        refine lv_istore (lv' := [(5, .int 0), (4, .int 8), (3, .ref i11), (1, .long x6), (0, .ref p0)]) hx hb dX8_checksum_81 hl (by decide) rfl (fun ls hl => ?_)
        have hL83 : ∀ (n : Nat) (H : Heap) (locs : List Loc) (x14 : Int64)  (i15 : Nat) (hi : i15 ≤ 8) (hn : 8 - i15 < n)   (hI : zI D tc (zA [] L s.heap.size) s.heap [] L κ g H locs) (ls : Array Slot) (hl : lv_has ls 7 [(4, .int 8), (3, .ref i11), (1, .long x14), (0, .ref p0), (5, .int ((nI i15)))]), W p l e (headSpec wsX8_checksum ({ frames := 1, cells := 0, slots := 0, locals := 20 })).room s m ([.ref p0] : List Value).toArray below meth c H locs 0 0 (MQ below (va_Ql (fun (r : Int64) (u : zS) => u = (L, κ, g)) (fun (u : zS) (t : State) => zB D tc (zA [] L s.heap.size) [] u t) (zA [] L s.heap.size)) ([.ref p0] : List Value).toArray s 0 0 (zA [] L s.heap.size)) (F0 m 83 ls []) := by
          intro n
          induction n with
          | zero => intro H locs x14 i15 hi hn hI ls hl; exact absurd hn (Nat.not_lt_zero _)
          | succ n ih =>
            intro H locs x14 i15 hi hn hI ls hl
            refine lv_iload hx hb dX8_checksum_83 (lv_at hl 4 rfl) ?_
            refine lv_iload hx hb dX8_checksum_85 (lv_at hl 0 rfl) ?_
            refine lv_icmp_ge (tgt := 120) hx hb dX8_checksum_87 (by decide) (fun c16 => ?_) (fun c16 => ?_)
            · skip
              have hgec16 : 8 ≤ i15 := z_ge (by omega) (by omega) c16
              refine lv_ldc2 (v := 31) hx hb hown (hts (.constantLong RX8 287 (31)) (by decide +kernel)) dX8_checksum_120 ?_
              refine lv_lload_n hx hb dX8_checksum_123 rfl (lv_at hl 2 rfl) ?_
              refine lv_lmul hx hb dX8_checksum_124 ?_
              refine lv_topl (fun v17 e18 => ?_)
              refine lv_aload_n hx hb dX8_checksum_125 rfl (lv_at hl 3 rfl) ?_
              refine z_get (k := 10) (j := 3) hM hI hk0 rfl rfl hinX8 rfl (by decide) (by decide +kernel) (fun _ h9 => h9) dX8_checksum_126 (fun v19 hv20 => ?_)
              obtain ⟨hg22, i21, rfl, hr23⟩ := hv20
              refine z_get (k := 4) (j := 0) hM hI hr23 rfl rfl hinX2 rfl (by decide) (by decide +kernel) (fun _ h9 => h9) dX8_checksum_129 (fun v24 hv25 => ?_)
              obtain ⟨i26, rfl, hr27⟩ := hv25
              refine z_get (k := 3) (j := 1) hM hI hr27 rfl rfl hinX1 rfl (by decide) (by decide +kernel) (fun _ h9 => h9) dX8_checksum_132 (fun v28 hv29 => ?_)
              obtain ⟨i30, rfl, hr31⟩ := hv29
              refine vp_callSl (W.runV (As := []) (rest := [.long v17]) ⟨hx, hb, hml, hown, hts⟩ (c_X0_lowBits l _ _ _ _ _ _ _ i30 hr31) (cwV 0 hts gX8_checksum_X0_lowBits rfl rfl rfl (by decide +kernel) ⟨Nat.le_of_ble_eq_true rfl, Nat.le_of_ble_eq_true rfl⟩) (z_preV hK hE hI [] rfl rfl (z_recv hK hI hr31 rfl rfl)) rfl rfl hl.1 rfl (lv_room (Nat.le_of_ble_eq_true rfl)) dX8_checksum_135 ⟨Nat.le_of_ble_eq_true rfl, Nat.le_of_ble_eq_true rfl⟩) (fun v32 hw33 => ?_)
              refine lv_ladd hx hb dX8_checksum_138 ?_
              refine lv_topl (fun v34 e35 => ?_)
              refine lv_lstore_n (lv' := [(1, .long v34), (4, .int 8), (3, .ref i11), (0, .ref p0), (5, .int ((nI i15)))]) hx hb dX8_checksum_139 rfl hl (by decide) rfl (fun ls hl => ?_)
              refine lv_ldc2 (v := 31) hx hb hown (hts (.constantLong RX8 287 (31)) (by decide +kernel)) dX8_checksum_140 ?_
              refine lv_lload_n hx hb dX8_checksum_143 rfl (lv_at hl 0 rfl) ?_
              refine lv_lmul hx hb dX8_checksum_144 ?_
              refine lv_topl (fun v36 e37 => ?_)
              refine lv_aload_n hx hb dX8_checksum_145 rfl (lv_at hl 3 rfl) ?_
              refine z_get (k := 10) (j := 4) hM hI hk0 rfl rfl hinX8 rfl (by decide) (by decide +kernel) (fun _ h9 => h9) dX8_checksum_146 (fun v38 hv39 => ?_)
              obtain ⟨hg41, i40, rfl, hr42⟩ := hv39
              refine z_get (k := 8) (j := 1) hM hI hr42 rfl rfl hinX6 rfl (by decide) (by decide +kernel) (fun _ h9 => h9) dX8_checksum_149 (fun v43 hv44 => ?_)
              obtain ⟨i45, rfl⟩ := hv44
              refine lv_i2l hx hb dX8_checksum_152 rfl ?_
              refine lv_topl (fun v46 e47 => ?_)
              refine lv_ladd hx hb dX8_checksum_153 ?_
              refine lv_topl (fun v48 e49 => ?_)
              exact W.lret (v := v48) hx hb hr (fun t ht hW => ⟨⟨_, (L, κ, g), rfl, rfl, z_end hK hI ht hW⟩, z_F hI ht⟩) (z_locs hI) dX8_checksum_154
            · skip
              have hltc16 : i15 < 8 := z_lt (by omega) c16
              refine lv_aload_n hx hb dX8_checksum_90 rfl (lv_at hl 1 rfl) ?_
              refine lv_iload hx hb dX8_checksum_91 (lv_at hl 4 rfl) ?_
              refine z_aald hM hI hr13 rfl rfl rfl (vp_in_nI (by omega) (by omega)) dX8_checksum_93 (fun x50 hv51 => ?_)
              have hL114 : ∀ (H : Heap) (locs : List Loc) (x55 : Int64)    (hI : zI D tc (zA [] L s.heap.size) s.heap [] L κ g H locs) (ls : Array Slot) (hl : lv_has ls 7 [(4, .int 8), (3, .ref i11), (1, .long x55), (0, .ref p0), (5, .int ((nI i15)))]), W p l e (headSpec wsX8_checksum ({ frames := 1, cells := 0, slots := 0, locals := 20 })).room s m ([.ref p0] : List Value).toArray below meth c H locs 0 0 (MQ below (va_Ql (fun (r : Int64) (u : zS) => u = (L, κ, g)) (fun (u : zS) (t : State) => zB D tc (zA [] L s.heap.size) [] u t) (zA [] L s.heap.size)) ([.ref p0] : List Value).toArray s 0 0 (zA [] L s.heap.size)) (F0 m 114 ls []) := by
                intro H locs x55 hI ls hl
                refine lv_iinc (v := nI (i15 + 1)) (lv' := [(5, .int ((nI (i15 + 1)))), (4, .int 8), (3, .ref i11), (1, .long x55), (0, .ref p0)]) hx hb dX8_checksum_114 hl (k := 4) rfl (z_inc i15) (by decide) rfl (fun ls hl => ?_)
                refine lv_goto (tgt := 83) hx hb dX8_checksum_117 (by decide) ?_
                exact ih _ _ x55 (i15 + 1) (by first | omega | (simp only [] at *; omega)) (by first | omega | (simp only [] at *; omega)) hI ls (lv_sub hl [1, 2, 3, 4, 0] rfl)
              obtain ⟨hghv51, hn54 | ⟨r52, hn54, hr53⟩⟩ := hv51
              · rw [hn54]
                rw [hn54] at hghv51
                refine lv_astoreN (lv' := [(6, .null), (4, .int 8), (3, .ref i11), (1, .long x14), (0, .ref p0), (5, .int ((nI i15)))]) hx hb dX8_checksum_94 hl (by decide) rfl (fun ls hl => ?_)
                refine lv_aloadN hx hb dX8_checksum_96 (lv_at hl 0 rfl) ?_
                refine lv_ifnullN (tgt := 114) hx hb dX8_checksum_98 (by decide) ?_
                exact hL114 _ _ x14 hI ls (lv_sub hl [1, 2, 3, 4, 5] rfl)
              · rw [hn54]
                rw [hn54] at hghv51
                refine lv_astore (lv' := [(6, .ref r52), (4, .int 8), (3, .ref i11), (1, .long x14), (0, .ref p0), (5, .int ((nI i15)))]) hx hb dX8_checksum_94 hl (by decide) rfl (fun ls hl => ?_)
                refine lv_aload hx hb dX8_checksum_96 (lv_at hl 0 rfl) ?_
                refine lv_ifnull hx hb dX8_checksum_98 ?_
                refine lv_ldc2 (v := 31) hx hb hown (hts (.constantLong RX8 287 (31)) (by decide +kernel)) dX8_checksum_101 ?_
                refine lv_lload_n hx hb dX8_checksum_104 rfl (lv_at hl 3 rfl) ?_
                refine lv_lmul hx hb dX8_checksum_105 ?_
                refine lv_topl (fun v56 e57 => ?_)
                refine lv_aload hx hb dX8_checksum_106 (lv_at hl 0 rfl) ?_
                refine z_get (k := 9) (j := 2) hM hI hr53 rfl rfl hinX7 rfl (by decide) (by decide +kernel) (fun _ h9 => h9) dX8_checksum_108 (fun v58 hv59 => ?_)
                obtain ⟨i60, rfl⟩ := hv59
                refine lv_i2l hx hb dX8_checksum_111 rfl ?_
                refine lv_topl (fun v61 e62 => ?_)
                refine lv_ladd hx hb dX8_checksum_112 ?_
                refine lv_topl (fun v63 e64 => ?_)
                refine lv_lstore_n (lv' := [(1, .long v63), (6, .ref r52), (4, .int 8), (3, .ref i11), (0, .ref p0), (5, .int ((nI i15)))]) hx hb dX8_checksum_113 rfl hl (by decide) rfl (fun ls hl => ?_)
                exact hL114 _ _ v63 hI ls (lv_sub hl [2, 3, 0, 4, 5] rfl)
        exact hL83 (8 + 1) _ _ x6 0 (by first | omega | (simp only [] at *; omega)) (by first | omega | (simp only [] at *; omega)) hI ls (lv_sub hl [1, 2, 3, 4, 0] rfl)
      · skip
        have hltc8 : i7 < 6 := z_lt (by omega) c8
        refine lv_aload_n hx hb dX8_checksum_23 rfl (lv_at hl 1 rfl) ?_
        refine lv_iload hx hb dX8_checksum_24 (lv_at hl 4 rfl) ?_
        refine z_aald hM hI hr5 rfl rfl rfl (vp_in_nI (by omega) (by omega)) dX8_checksum_26 (fun x65 hv66 => ?_)
        have hL65 : ∀ (H : Heap) (locs : List Loc) (x70 : Int64)    (hI : zI D tc (zA [] L s.heap.size) s.heap [] L κ g H locs) (ls : Array Slot) (hl : lv_has ls 7 [(4, .int 6), (3, .ref i3), (1, .long x70), (0, .ref p0), (5, .int ((nI i7)))]), W p l e (headSpec wsX8_checksum ({ frames := 1, cells := 0, slots := 0, locals := 20 })).room s m ([.ref p0] : List Value).toArray below meth c H locs 0 0 (MQ below (va_Ql (fun (r : Int64) (u : zS) => u = (L, κ, g)) (fun (u : zS) (t : State) => zB D tc (zA [] L s.heap.size) [] u t) (zA [] L s.heap.size)) ([.ref p0] : List Value).toArray s 0 0 (zA [] L s.heap.size)) (F0 m 65 ls []) := by
          intro H locs x70 hI ls hl
          refine lv_iinc (v := nI (i7 + 1)) (lv' := [(5, .int ((nI (i7 + 1)))), (4, .int 6), (3, .ref i3), (1, .long x70), (0, .ref p0)]) hx hb dX8_checksum_65 hl (k := 4) rfl (z_inc i7) (by decide) rfl (fun ls hl => ?_)
          refine lv_goto (tgt := 16) hx hb dX8_checksum_68 (by decide) ?_
          exact ih _ _ x70 (i7 + 1) (by first | omega | (simp only [] at *; omega)) (by first | omega | (simp only [] at *; omega)) hI ls (lv_sub hl [1, 2, 3, 4, 0] rfl)
        obtain ⟨hghv66, hn69 | ⟨r67, hn69, hr68⟩⟩ := hv66
        · rw [hn69]
          rw [hn69] at hghv66
          refine lv_astoreN (lv' := [(6, .null), (4, .int 6), (3, .ref i3), (1, .long x6), (0, .ref p0), (5, .int ((nI i7)))]) hx hb dX8_checksum_27 hl (by decide) rfl (fun ls hl => ?_)
          refine lv_aloadN hx hb dX8_checksum_29 (lv_at hl 0 rfl) ?_
          refine lv_ifnullN (tgt := 65) hx hb dX8_checksum_31 (by decide) ?_
          exact hL65 _ _ x6 hI ls (lv_sub hl [1, 2, 3, 4, 5] rfl)
        · rw [hn69]
          rw [hn69] at hghv66
          refine lv_astore (lv' := [(6, .ref r67), (4, .int 6), (3, .ref i3), (1, .long x6), (0, .ref p0), (5, .int ((nI i7)))]) hx hb dX8_checksum_27 hl (by decide) rfl (fun ls hl => ?_)
          refine lv_aload hx hb dX8_checksum_29 (lv_at hl 0 rfl) ?_
          refine lv_ifnull hx hb dX8_checksum_31 ?_
          refine lv_ldc2 (v := 31) hx hb hown (hts (.constantLong RX8 287 (31)) (by decide +kernel)) dX8_checksum_34 ?_
          refine lv_lload_n hx hb dX8_checksum_37 rfl (lv_at hl 3 rfl) ?_
          refine lv_lmul hx hb dX8_checksum_38 ?_
          refine lv_topl (fun v71 e72 => ?_)
          refine lv_aload hx hb dX8_checksum_39 (lv_at hl 0 rfl) ?_
          refine z_get (k := 5) (j := 7) hM hI hr68 rfl rfl hinX3 rfl (by decide) (by decide +kernel) (fun _ h9 => h9) dX8_checksum_41 (fun v73 hv74 => ?_)
          obtain ⟨i75, rfl⟩ := hv74
          refine lv_i2l hx hb dX8_checksum_44 rfl ?_
          refine lv_topl (fun v76 e77 => ?_)
          refine lv_ladd hx hb dX8_checksum_45 ?_
          refine lv_topl (fun v78 e79 => ?_)
          refine lv_lstore_n (lv' := [(1, .long v78), (6, .ref r67), (4, .int 6), (3, .ref i3), (0, .ref p0), (5, .int ((nI i7)))]) hx hb dX8_checksum_46 rfl hl (by decide) rfl (fun ls hl => ?_)
          refine lv_ldc2 (v := 31) hx hb hown (hts (.constantLong RX8 287 (31)) (by decide +kernel)) dX8_checksum_47 ?_
          refine lv_lload_n hx hb dX8_checksum_50 rfl (lv_at hl 0 rfl) ?_
          refine lv_lmul hx hb dX8_checksum_51 ?_
          refine lv_topl (fun v80 e81 => ?_)
          refine lv_aload hx hb dX8_checksum_52 (lv_at hl 1 rfl) ?_
          refine z_get (k := 5) (j := 15) hM hI hr68 rfl rfl hinX3 rfl (by decide) (by decide +kernel) (fun _ h9 => h9) dX8_checksum_54 (fun v82 hv83 => ?_)
          obtain ⟨i84, rfl, hr85⟩ := hv83
          refine z_get (k := 3) (j := 1) hM hI hr85 rfl rfl hinX1 rfl (by decide) (by decide +kernel) (fun _ h9 => h9) dX8_checksum_57 (fun v86 hv87 => ?_)
          obtain ⟨i88, rfl, hr89⟩ := hv87
          refine vp_callSl (W.runV (As := []) (rest := [.long v80]) ⟨hx, hb, hml, hown, hts⟩ (c_X0_lowBits l _ _ _ _ _ _ _ i88 hr89) (cwV 0 hts gX8_checksum_X0_lowBits rfl rfl rfl (by decide +kernel) ⟨Nat.le_of_ble_eq_true rfl, Nat.le_of_ble_eq_true rfl⟩) (z_preV hK hE hI [] rfl rfl (z_recv hK hI hr89 rfl rfl)) rfl rfl hl.1 rfl (lv_room (Nat.le_of_ble_eq_true rfl)) dX8_checksum_60 ⟨Nat.le_of_ble_eq_true rfl, Nat.le_of_ble_eq_true rfl⟩) (fun v90 hw91 => ?_)
          refine lv_ladd hx hb dX8_checksum_63 ?_
          refine lv_topl (fun v92 e93 => ?_)
          refine lv_lstore_n (lv' := [(1, .long v92), (6, .ref r67), (4, .int 6), (3, .ref i3), (0, .ref p0), (5, .int ((nI i7)))]) hx hb dX8_checksum_64 rfl hl (by decide) rfl (fun ls hl => ?_)
          exact hL65 _ _ v92 hI ls (lv_sub hl [2, 3, 0, 4, 5] rfl)
  exact hL16 (6 + 1) _ _ 7 0 (by first | omega | (simp only [] at *; omega)) (by first | omega | (simp only [] at *; omega)) hI ls (lv_sub hl [1, 2, 3, 4, 0] rfl)

set_option maxHeartbeats 4000000 in
set_option maxRecDepth 100000 in
theorem c_X8_isSound (l : Launch) (D : va_G) (tc : Nat → ClassId) (z0 : Nat) (L : List Nat) (κ : Nat → Nat) (g : Nat → Nat → Value) (sz : Nat) (p0 : Nat) (hk0 : κ p0 = 10) : Met l yX8_isSound wsX8_isSound ({ frames := 1, cells := 0, slots := 0, locals := 20 }) (zPc D tc z0 [.ref p0] [] (L, κ, g) sz) (va_Qi (fun (r : Int32) (u : zS) => u = (L, κ, g) ∧ (r = 0 ∨ r = 1)) (fun (u : zS) (t : State) => zB D tc (zA [] L sz) [] u t) (zA [] L sz)) 0 0 (zA [] L sz) := by
  refine Met.ofW (cc := cX8_isSound) (maxL := 9) (ret := (some .boolean)) (by decide) rfl ?_
  intro p e s m args below meth c s₁ B hml hv
  obtain ⟨rfl, rfl, hK, hE, hI⟩ := hv.opn
  have hx := B.exec
  have hb := B.bytes
  have hr := B.returns
  have hts := atoms_spec (ws := wsX8_isSound) B.pre
  have hown : s.vm.findClass RX8 = some m.cls := findClass_of_methodNamed B.named
  have hlocks := B.notSynchronized
  have hM : zM p s m c cX8_isSound _ wsX8_isSound RX8 D tc := ⟨hx, hb, hts, hown, hK⟩
  have hinX8 : ∀ w ∈ wsX80, w ∈ wsX8_isSound := by decide +kernel
  have hinX2 : ∀ w ∈ wsX20, w ∈ wsX8_isSound := by decide +kernel
  have hinX1 : ∀ w ∈ wsX10, w ∈ wsX8_isSound := by decide +kernel
  have hinX6 : ∀ w ∈ wsX60, w ∈ wsX8_isSound := by decide +kernel
  have hinX3 : ∀ w ∈ wsX30, w ∈ wsX8_isSound := by decide +kernel
  have hl := lv_entry ([.ref p0]) (n := 9) (Nat.le_of_ble_eq_true rfl)
  rw [lg_entry_eq]
  generalize (lg_sl ([.ref p0]) ++ List.replicate (9 - (lg_sl ([.ref p0])).length) Slot.unset).toArray = ls at hl ⊢
  have hl : lv_has ls 9 [(0, .ref p0)] := hl
  refine lv_aload_n hx hb dX8_isSound_0 rfl (lv_at hl 0 rfl) ?_
  refine z_get (k := 10) (j := 3) hM hI hk0 rfl rfl hinX8 rfl (by decide) (by decide +kernel) (fun _ h9 => h9) dX8_isSound_1 (fun v1 hv2 => ?_)
  obtain ⟨hg4, i3, rfl, hr5⟩ := hv2
  refine z_get (k := 4) (j := 0) hM hI hr5 rfl rfl hinX2 rfl (by decide) (by decide +kernel) (fun _ h9 => h9) dX8_isSound_4 (fun v6 hv7 => ?_)
  obtain ⟨i8, rfl, hr9⟩ := hv7
  refine z_get (k := 3) (j := 1) hM hI hr9 rfl rfl hinX1 rfl (by decide) (by decide +kernel) (fun _ h9 => h9) dX8_isSound_7 (fun v10 hv11 => ?_)
  obtain ⟨i12, rfl, hr13⟩ := hv11
  refine vp_callSl (W.runV (As := []) (rest := []) ⟨hx, hb, hml, hown, hts⟩ (c_X0_lowBits l _ _ _ _ _ _ _ i12 hr13) (cwV 0 hts gX8_isSound_X0_lowBits rfl rfl rfl (by decide +kernel) ⟨Nat.le_of_ble_eq_true rfl, Nat.le_of_ble_eq_true rfl⟩) (z_preV hK hE hI [] rfl rfl (z_recv hK hI hr13 rfl rfl)) rfl rfl hl.1 rfl (lv_room (Nat.le_of_ble_eq_true rfl)) dX8_isSound_10 ⟨Nat.le_of_ble_eq_true rfl, Nat.le_of_ble_eq_true rfl⟩) (fun v14 hw15 => ?_)
  refine lv_lstore_n (lv' := [(1, .long v14), (0, .ref p0)]) hx hb dX8_isSound_13 rfl hl (by decide) rfl (fun ls hl => ?_)
  refine lv_ldc2 (v := 4000) hx hb hown (hts (.constantLong RX8 301 (4000)) (by decide +kernel)) dX8_isSound_14 ?_
  refine lv_lstore_n (lv' := [(3, .long 4000), (1, .long v14), (0, .ref p0)]) hx hb dX8_isSound_17 rfl hl (by decide) rfl (fun ls hl => ?_)
  refine lv_aload_n hx hb dX8_isSound_18 rfl (lv_at hl 2 rfl) ?_
  refine z_get (k := 10) (j := 1) hM hI hk0 rfl rfl hinX8 rfl (by decide) (by decide +kernel) (fun _ h9 => h9) dX8_isSound_19 (fun v16 hv17 => ?_)
  obtain ⟨hg19, i18, rfl, hr20⟩ := hv17
  refine lv_astore (lv' := [(5, .ref i18), (3, .long 4000), (1, .long v14), (0, .ref p0)]) hx hb dX8_isSound_22 hl (by decide) rfl (fun ls hl => ?_)
  refine lv_aload hx hb dX8_isSound_24 (lv_at hl 0 rfl) ?_
  refine z_alen (v := 6) hM hI hr20 rfl rfl rfl (by decide) dX8_isSound_26 ?_
  refine lv_istore (lv' := [(6, .int 6), (5, .ref i18), (3, .long 4000), (1, .long v14), (0, .ref p0)]) hx hb dX8_isSound_27 hl (by decide) rfl (fun ls hl => ?_)
  refine lv_iconst (v := 0) hx hb dX8_isSound_29 (by decide) ?_
  refine lv_istore (lv' := [(7, .int 0), (6, .int 6), (5, .ref i18), (3, .long 4000), (1, .long v14), (0, .ref p0)]) hx hb dX8_isSound_30 hl (by decide) rfl (fun ls hl => ?_)
  have hL32 : ∀ (n : Nat) (H : Heap) (locs : List Loc) (x21 : Int64) (x22 : Int64)  (i23 : Nat) (hi : i23 ≤ 6) (hn : 6 - i23 < n)   (hI : zI D tc (zA [] L s.heap.size) s.heap [] L κ g H locs) (ls : Array Slot) (hl : lv_has ls 9 [(6, .int 6), (5, .ref i18), (3, .long x21), (1, .long x22), (0, .ref p0), (7, .int ((nI i23)))]), W p l e (headSpec wsX8_isSound ({ frames := 1, cells := 0, slots := 0, locals := 20 })).room s m ([.ref p0] : List Value).toArray below meth c H locs 0 0 (MQ below (va_Qi (fun (r : Int32) (u : zS) => u = (L, κ, g) ∧ (r = 0 ∨ r = 1)) (fun (u : zS) (t : State) => zB D tc (zA [] L s.heap.size) [] u t) (zA [] L s.heap.size)) ([.ref p0] : List Value).toArray s 0 0 (zA [] L s.heap.size)) (F0 m 32 ls []) := by
    intro n
    induction n with
    | zero => intro H locs x21 x22 i23 hi hn hI ls hl; exact absurd hn (Nat.not_lt_zero _)
    | succ n ih =>
      intro H locs x21 x22 i23 hi hn hI ls hl
      refine lv_iload hx hb dX8_isSound_32 (lv_at hl 5 rfl) ?_
      refine lv_iload hx hb dX8_isSound_34 (lv_at hl 0 rfl) ?_
      refine lv_icmp_ge (tgt := 77) hx hb dX8_isSound_36 (by decide) (fun c24 => ?_) (fun c24 => ?_)
      · skip
        have hgec24 : 6 ≤ i23 := z_ge (by omega) (by omega) c24
        refine lv_lload_n hx hb dX8_isSound_77 rfl (lv_at hl 3 rfl) ?_
        refine lv_aload_n hx hb dX8_isSound_78 rfl (lv_at hl 4 rfl) ?_
        refine z_get (k := 10) (j := 3) hM hI hk0 rfl rfl hinX8 rfl (by decide) (by decide +kernel) (fun _ h9 => h9) dX8_isSound_79 (fun v25 hv26 => ?_)
        obtain ⟨hg28, i27, rfl, hr29⟩ := hv26
        refine z_get (k := 4) (j := 2) hM hI hr29 rfl rfl hinX2 rfl (by decide) (by decide +kernel) (fun _ h9 => h9) dX8_isSound_82 (fun v30 hv31 => ?_)
        obtain ⟨i32, rfl⟩ := hv31
        refine lv_ladd hx hb dX8_isSound_85 ?_
        refine lv_topl (fun v33 e34 => ?_)
        refine lv_lload_n hx hb dX8_isSound_86 rfl (lv_at hl 2 rfl) ?_
        refine lv_aload_n hx hb dX8_isSound_87 rfl (lv_at hl 4 rfl) ?_
        refine z_get (k := 10) (j := 4) hM hI hk0 rfl rfl hinX8 rfl (by decide) (by decide +kernel) (fun _ h9 => h9) dX8_isSound_88 (fun v35 hv36 => ?_)
        obtain ⟨hg38, i37, rfl, hr39⟩ := hv36
        refine z_get (k := 8) (j := 9) hM hI hr39 rfl rfl hinX6 rfl (by decide) (by decide +kernel) (fun _ h9 => h9) dX8_isSound_91 (fun v40 hv41 => ?_)
        obtain ⟨i42, rfl⟩ := hv41
        refine lv_ladd hx hb dX8_isSound_94 ?_
        refine lv_topl (fun v43 e44 => ?_)
        refine lv_aload_n hx hb dX8_isSound_95 rfl (lv_at hl 4 rfl) ?_
        refine z_get (k := 10) (j := 9) hM hI hk0 rfl rfl hinX8 rfl (by decide) (by decide +kernel) (fun _ h9 => h9) dX8_isSound_96 (fun v45 hv46 => ?_)
        obtain ⟨i47, rfl⟩ := hv46
        refine lv_ladd hx hb dX8_isSound_99 ?_
        refine lv_topl (fun v48 e49 => ?_)
        refine W.lcmp hx hb dX8_isSound_100 ?_
        refine lv_topi (fun v50 e51 => ?_)
        refine lv_if_ne (tgt := 108) hx hb dX8_isSound_101 (by decide) (fun c52 => ?_) (fun c52 => ?_)
        · skip
          refine lv_iconst (v := 0) hx hb dX8_isSound_108 (by decide) ?_
          refine lv_istore (lv' := [(5, .int 0), (6, .int 6), (3, .long x21), (1, .long x22), (0, .ref p0), (7, .int ((nI i23)))]) hx hb dX8_isSound_109 hl (by decide) rfl (fun ls hl => ?_)
          refine lv_aload_n hx hb dX8_isSound_111 rfl (lv_at hl 4 rfl) ?_
          refine z_get (k := 10) (j := 4) hM hI hk0 rfl rfl hinX8 rfl (by decide) (by decide +kernel) (fun _ h9 => h9) dX8_isSound_112 (fun v53 hv54 => ?_)
          obtain ⟨hg56, i55, rfl, hr57⟩ := hv54
          refine z_get (k := 8) (j := 9) hM hI hr57 rfl rfl hinX6 rfl (by decide) (by decide +kernel) (fun _ h9 => h9) dX8_isSound_115 (fun v58 hv59 => ?_)
          obtain ⟨i60, rfl⟩ := hv59
          refine lv_aload_n hx hb dX8_isSound_118 rfl (lv_at hl 4 rfl) ?_
          refine z_get (k := 10) (j := 4) hM hI hk0 rfl rfl hinX8 rfl (by decide) (by decide +kernel) (fun _ h9 => h9) dX8_isSound_119 (fun v61 hv62 => ?_)
          obtain ⟨hg64, i63, rfl, hr65⟩ := hv62
          refine z_get (k := 8) (j := 6) hM hI hr65 rfl rfl hinX6 rfl (by decide) (by decide +kernel) (fun _ h9 => h9) dX8_isSound_122 (fun v66 hv67 => ?_)
          obtain ⟨i68, rfl⟩ := hv67
          refine lv_aload_n hx hb dX8_isSound_125 rfl (lv_at hl 4 rfl) ?_
          refine z_get (k := 10) (j := 4) hM hI hk0 rfl rfl hinX8 rfl (by decide) (by decide +kernel) (fun _ h9 => h9) dX8_isSound_126 (fun v69 hv70 => ?_)
          obtain ⟨hg72, i71, rfl, hr73⟩ := hv70
          refine z_get (k := 8) (j := 7) hM hI hr73 rfl rfl hinX6 rfl (by decide) (by decide +kernel) (fun _ h9 => h9) dX8_isSound_129 (fun v74 hv75 => ?_)
          obtain ⟨i76, rfl⟩ := hv75
          refine lv_ladd hx hb dX8_isSound_132 ?_
          refine lv_topl (fun v77 e78 => ?_)
          refine lv_aload_n hx hb dX8_isSound_133 rfl (lv_at hl 4 rfl) ?_
          refine z_get (k := 10) (j := 4) hM hI hk0 rfl rfl hinX8 rfl (by decide) (by decide +kernel) (fun _ h9 => h9) dX8_isSound_134 (fun v79 hv80 => ?_)
          obtain ⟨hg82, i81, rfl, hr83⟩ := hv80
          refine z_get (k := 8) (j := 8) hM hI hr83 rfl rfl hinX6 rfl (by decide) (by decide +kernel) (fun _ h9 => h9) dX8_isSound_137 (fun v84 hv85 => ?_)
          obtain ⟨i86, rfl⟩ := hv85
          refine lv_ladd hx hb dX8_isSound_140 ?_
          refine lv_topl (fun v87 e88 => ?_)
          refine W.lcmp hx hb dX8_isSound_141 ?_
          refine lv_topi (fun v89 e90 => ?_)
          refine lv_if_ne (tgt := 149) hx hb dX8_isSound_142 (by decide) (fun c91 => ?_) (fun c91 => ?_)
          · skip
            refine lv_iconst (v := 0) hx hb dX8_isSound_149 (by decide) ?_
            refine lv_istore (lv' := [(6, .int 0), (5, .int 0), (3, .long x21), (1, .long x22), (0, .ref p0), (7, .int ((nI i23)))]) hx hb dX8_isSound_150 hl (by decide) rfl (fun ls hl => ?_)
            refine lv_iload hx hb dX8_isSound_152 (lv_at hl 1 rfl) ?_
            refine lv_if_eq (tgt := 189) hx hb dX8_isSound_154 (by decide) (fun c92 => ?_) (fun c92 => ?_)
            · skip
              refine lv_iconst (v := 0) hx hb dX8_isSound_189 (by decide) ?_
              exact W.zret (v := 0) hx hb hr (by decide) (fun t ht hW => ⟨⟨_, (L, κ, g), rfl, ⟨rfl, by first | exact Or.inl rfl | exact Or.inr rfl⟩, z_end hK hI ht hW⟩, z_F hI ht⟩) (z_locs hI) dX8_isSound_190
            · skip
              refine lv_iload hx hb dX8_isSound_157 (lv_at hl 0 rfl) ?_
              refine lv_if_eq (tgt := 189) hx hb dX8_isSound_159 (by decide) (fun c93 => ?_) (fun c93 => ?_)
              · skip
                refine lv_iconst (v := 0) hx hb dX8_isSound_189 (by decide) ?_
                exact W.zret (v := 0) hx hb hr (by decide) (fun t ht hW => ⟨⟨_, (L, κ, g), rfl, ⟨rfl, by first | exact Or.inl rfl | exact Or.inr rfl⟩, z_end hK hI ht hW⟩, z_F hI ht⟩) (z_locs hI) dX8_isSound_190
              · skip
                refine lv_aload_n hx hb dX8_isSound_162 rfl (lv_at hl 4 rfl) ?_
                refine z_get (k := 10) (j := 4) hM hI hk0 rfl rfl hinX8 rfl (by decide) (by decide +kernel) (fun _ h9 => h9) dX8_isSound_163 (fun v94 hv95 => ?_)
                obtain ⟨hg97, i96, rfl, hr98⟩ := hv95
                refine z_get (k := 8) (j := 1) hM hI hr98 rfl rfl hinX6 rfl (by decide) (by decide +kernel) (fun _ h9 => h9) dX8_isSound_166 (fun v99 hv100 => ?_)
                obtain ⟨i101, rfl⟩ := hv100
                refine lv_if_lt (tgt := 189) hx hb dX8_isSound_169 (by decide) (fun c102 => ?_) (fun c102 => ?_)
                · skip
                  refine lv_iconst (v := 0) hx hb dX8_isSound_189 (by decide) ?_
                  exact W.zret (v := 0) hx hb hr (by decide) (fun t ht hW => ⟨⟨_, (L, κ, g), rfl, ⟨rfl, by first | exact Or.inl rfl | exact Or.inr rfl⟩, z_end hK hI ht hW⟩, z_F hI ht⟩) (z_locs hI) dX8_isSound_190
                · skip
                  refine lv_aload_n hx hb dX8_isSound_172 rfl (lv_at hl 4 rfl) ?_
                  refine z_get (k := 10) (j := 4) hM hI hk0 rfl rfl hinX8 rfl (by decide) (by decide +kernel) (fun _ h9 => h9) dX8_isSound_173 (fun v103 hv104 => ?_)
                  obtain ⟨hg106, i105, rfl, hr107⟩ := hv104
                  refine z_get (k := 8) (j := 1) hM hI hr107 rfl rfl hinX6 rfl (by decide) (by decide +kernel) (fun _ h9 => h9) dX8_isSound_176 (fun v108 hv109 => ?_)
                  obtain ⟨i110, rfl⟩ := hv109
                  refine lv_sipush (v := 5000) hx hb dX8_isSound_179 (by decide) ?_
                  refine lv_icmp_gt (tgt := 189) hx hb dX8_isSound_182 (by decide) (fun c111 => ?_) (fun c111 => ?_)
                  · skip
                    refine lv_iconst (v := 0) hx hb dX8_isSound_189 (by decide) ?_
                    exact W.zret (v := 0) hx hb hr (by decide) (fun t ht hW => ⟨⟨_, (L, κ, g), rfl, ⟨rfl, by first | exact Or.inl rfl | exact Or.inr rfl⟩, z_end hK hI ht hW⟩, z_F hI ht⟩) (z_locs hI) dX8_isSound_190
                  · skip
                    refine lv_iconst (v := 1) hx hb dX8_isSound_185 (by decide) ?_
                    refine lv_goto (tgt := 190) hx hb dX8_isSound_186 (by decide) ?_
                    exact W.zret (v := 1) hx hb hr (by decide) (fun t ht hW => ⟨⟨_, (L, κ, g), rfl, ⟨rfl, by first | exact Or.inl rfl | exact Or.inr rfl⟩, z_end hK hI ht hW⟩, z_F hI ht⟩) (z_locs hI) dX8_isSound_190
          · skip
            refine lv_iconst (v := 1) hx hb dX8_isSound_145 (by decide) ?_
            refine lv_goto (tgt := 150) hx hb dX8_isSound_146 (by decide) ?_
            refine lv_istore (lv' := [(6, .int 1), (5, .int 0), (3, .long x21), (1, .long x22), (0, .ref p0), (7, .int ((nI i23)))]) hx hb dX8_isSound_150 hl (by decide) rfl (fun ls hl => ?_)
            refine lv_iload hx hb dX8_isSound_152 (lv_at hl 1 rfl) ?_
            refine lv_if_eq (tgt := 189) hx hb dX8_isSound_154 (by decide) (fun c112 => ?_) (fun c112 => ?_)
            · skip
              refine lv_iconst (v := 0) hx hb dX8_isSound_189 (by decide) ?_
              exact W.zret (v := 0) hx hb hr (by decide) (fun t ht hW => ⟨⟨_, (L, κ, g), rfl, ⟨rfl, by first | exact Or.inl rfl | exact Or.inr rfl⟩, z_end hK hI ht hW⟩, z_F hI ht⟩) (z_locs hI) dX8_isSound_190
            · skip
              refine lv_iload hx hb dX8_isSound_157 (lv_at hl 0 rfl) ?_
              refine lv_if_eq (tgt := 189) hx hb dX8_isSound_159 (by decide) (fun c113 => ?_) (fun c113 => ?_)
              · skip
                refine lv_iconst (v := 0) hx hb dX8_isSound_189 (by decide) ?_
                exact W.zret (v := 0) hx hb hr (by decide) (fun t ht hW => ⟨⟨_, (L, κ, g), rfl, ⟨rfl, by first | exact Or.inl rfl | exact Or.inr rfl⟩, z_end hK hI ht hW⟩, z_F hI ht⟩) (z_locs hI) dX8_isSound_190
              · skip
                refine lv_aload_n hx hb dX8_isSound_162 rfl (lv_at hl 4 rfl) ?_
                refine z_get (k := 10) (j := 4) hM hI hk0 rfl rfl hinX8 rfl (by decide) (by decide +kernel) (fun _ h9 => h9) dX8_isSound_163 (fun v114 hv115 => ?_)
                obtain ⟨hg117, i116, rfl, hr118⟩ := hv115
                refine z_get (k := 8) (j := 1) hM hI hr118 rfl rfl hinX6 rfl (by decide) (by decide +kernel) (fun _ h9 => h9) dX8_isSound_166 (fun v119 hv120 => ?_)
                obtain ⟨i121, rfl⟩ := hv120
                refine lv_if_lt (tgt := 189) hx hb dX8_isSound_169 (by decide) (fun c122 => ?_) (fun c122 => ?_)
                · skip
                  refine lv_iconst (v := 0) hx hb dX8_isSound_189 (by decide) ?_
                  exact W.zret (v := 0) hx hb hr (by decide) (fun t ht hW => ⟨⟨_, (L, κ, g), rfl, ⟨rfl, by first | exact Or.inl rfl | exact Or.inr rfl⟩, z_end hK hI ht hW⟩, z_F hI ht⟩) (z_locs hI) dX8_isSound_190
                · skip
                  refine lv_aload_n hx hb dX8_isSound_172 rfl (lv_at hl 4 rfl) ?_
                  refine z_get (k := 10) (j := 4) hM hI hk0 rfl rfl hinX8 rfl (by decide) (by decide +kernel) (fun _ h9 => h9) dX8_isSound_173 (fun v123 hv124 => ?_)
                  obtain ⟨hg126, i125, rfl, hr127⟩ := hv124
                  refine z_get (k := 8) (j := 1) hM hI hr127 rfl rfl hinX6 rfl (by decide) (by decide +kernel) (fun _ h9 => h9) dX8_isSound_176 (fun v128 hv129 => ?_)
                  obtain ⟨i130, rfl⟩ := hv129
                  refine lv_sipush (v := 5000) hx hb dX8_isSound_179 (by decide) ?_
                  refine lv_icmp_gt (tgt := 189) hx hb dX8_isSound_182 (by decide) (fun c131 => ?_) (fun c131 => ?_)
                  · skip
                    refine lv_iconst (v := 0) hx hb dX8_isSound_189 (by decide) ?_
                    exact W.zret (v := 0) hx hb hr (by decide) (fun t ht hW => ⟨⟨_, (L, κ, g), rfl, ⟨rfl, by first | exact Or.inl rfl | exact Or.inr rfl⟩, z_end hK hI ht hW⟩, z_F hI ht⟩) (z_locs hI) dX8_isSound_190
                  · skip
                    refine lv_iconst (v := 1) hx hb dX8_isSound_185 (by decide) ?_
                    refine lv_goto (tgt := 190) hx hb dX8_isSound_186 (by decide) ?_
                    exact W.zret (v := 1) hx hb hr (by decide) (fun t ht hW => ⟨⟨_, (L, κ, g), rfl, ⟨rfl, by first | exact Or.inl rfl | exact Or.inr rfl⟩, z_end hK hI ht hW⟩, z_F hI ht⟩) (z_locs hI) dX8_isSound_190
        · skip
          refine lv_iconst (v := 1) hx hb dX8_isSound_104 (by decide) ?_
          refine lv_goto (tgt := 109) hx hb dX8_isSound_105 (by decide) ?_
          refine lv_istore (lv' := [(5, .int 1), (6, .int 6), (3, .long x21), (1, .long x22), (0, .ref p0), (7, .int ((nI i23)))]) hx hb dX8_isSound_109 hl (by decide) rfl (fun ls hl => ?_)
          refine lv_aload_n hx hb dX8_isSound_111 rfl (lv_at hl 4 rfl) ?_
          refine z_get (k := 10) (j := 4) hM hI hk0 rfl rfl hinX8 rfl (by decide) (by decide +kernel) (fun _ h9 => h9) dX8_isSound_112 (fun v132 hv133 => ?_)
          obtain ⟨hg135, i134, rfl, hr136⟩ := hv133
          refine z_get (k := 8) (j := 9) hM hI hr136 rfl rfl hinX6 rfl (by decide) (by decide +kernel) (fun _ h9 => h9) dX8_isSound_115 (fun v137 hv138 => ?_)
          obtain ⟨i139, rfl⟩ := hv138
          refine lv_aload_n hx hb dX8_isSound_118 rfl (lv_at hl 4 rfl) ?_
          refine z_get (k := 10) (j := 4) hM hI hk0 rfl rfl hinX8 rfl (by decide) (by decide +kernel) (fun _ h9 => h9) dX8_isSound_119 (fun v140 hv141 => ?_)
          obtain ⟨hg143, i142, rfl, hr144⟩ := hv141
          refine z_get (k := 8) (j := 6) hM hI hr144 rfl rfl hinX6 rfl (by decide) (by decide +kernel) (fun _ h9 => h9) dX8_isSound_122 (fun v145 hv146 => ?_)
          obtain ⟨i147, rfl⟩ := hv146
          refine lv_aload_n hx hb dX8_isSound_125 rfl (lv_at hl 4 rfl) ?_
          refine z_get (k := 10) (j := 4) hM hI hk0 rfl rfl hinX8 rfl (by decide) (by decide +kernel) (fun _ h9 => h9) dX8_isSound_126 (fun v148 hv149 => ?_)
          obtain ⟨hg151, i150, rfl, hr152⟩ := hv149
          refine z_get (k := 8) (j := 7) hM hI hr152 rfl rfl hinX6 rfl (by decide) (by decide +kernel) (fun _ h9 => h9) dX8_isSound_129 (fun v153 hv154 => ?_)
          obtain ⟨i155, rfl⟩ := hv154
          refine lv_ladd hx hb dX8_isSound_132 ?_
          refine lv_topl (fun v156 e157 => ?_)
          refine lv_aload_n hx hb dX8_isSound_133 rfl (lv_at hl 4 rfl) ?_
          refine z_get (k := 10) (j := 4) hM hI hk0 rfl rfl hinX8 rfl (by decide) (by decide +kernel) (fun _ h9 => h9) dX8_isSound_134 (fun v158 hv159 => ?_)
          obtain ⟨hg161, i160, rfl, hr162⟩ := hv159
          refine z_get (k := 8) (j := 8) hM hI hr162 rfl rfl hinX6 rfl (by decide) (by decide +kernel) (fun _ h9 => h9) dX8_isSound_137 (fun v163 hv164 => ?_)
          obtain ⟨i165, rfl⟩ := hv164
          refine lv_ladd hx hb dX8_isSound_140 ?_
          refine lv_topl (fun v166 e167 => ?_)
          refine W.lcmp hx hb dX8_isSound_141 ?_
          refine lv_topi (fun v168 e169 => ?_)
          refine lv_if_ne (tgt := 149) hx hb dX8_isSound_142 (by decide) (fun c170 => ?_) (fun c170 => ?_)
          · skip
            refine lv_iconst (v := 0) hx hb dX8_isSound_149 (by decide) ?_
            refine lv_istore (lv' := [(6, .int 0), (5, .int 1), (3, .long x21), (1, .long x22), (0, .ref p0), (7, .int ((nI i23)))]) hx hb dX8_isSound_150 hl (by decide) rfl (fun ls hl => ?_)
            refine lv_iload hx hb dX8_isSound_152 (lv_at hl 1 rfl) ?_
            refine lv_if_eq (tgt := 189) hx hb dX8_isSound_154 (by decide) (fun c171 => ?_) (fun c171 => ?_)
            · skip
              refine lv_iconst (v := 0) hx hb dX8_isSound_189 (by decide) ?_
              exact W.zret (v := 0) hx hb hr (by decide) (fun t ht hW => ⟨⟨_, (L, κ, g), rfl, ⟨rfl, by first | exact Or.inl rfl | exact Or.inr rfl⟩, z_end hK hI ht hW⟩, z_F hI ht⟩) (z_locs hI) dX8_isSound_190
            · skip
              refine lv_iload hx hb dX8_isSound_157 (lv_at hl 0 rfl) ?_
              refine lv_if_eq (tgt := 189) hx hb dX8_isSound_159 (by decide) (fun c172 => ?_) (fun c172 => ?_)
              · skip
                refine lv_iconst (v := 0) hx hb dX8_isSound_189 (by decide) ?_
                exact W.zret (v := 0) hx hb hr (by decide) (fun t ht hW => ⟨⟨_, (L, κ, g), rfl, ⟨rfl, by first | exact Or.inl rfl | exact Or.inr rfl⟩, z_end hK hI ht hW⟩, z_F hI ht⟩) (z_locs hI) dX8_isSound_190
              · skip
                refine lv_aload_n hx hb dX8_isSound_162 rfl (lv_at hl 4 rfl) ?_
                refine z_get (k := 10) (j := 4) hM hI hk0 rfl rfl hinX8 rfl (by decide) (by decide +kernel) (fun _ h9 => h9) dX8_isSound_163 (fun v173 hv174 => ?_)
                obtain ⟨hg176, i175, rfl, hr177⟩ := hv174
                refine z_get (k := 8) (j := 1) hM hI hr177 rfl rfl hinX6 rfl (by decide) (by decide +kernel) (fun _ h9 => h9) dX8_isSound_166 (fun v178 hv179 => ?_)
                obtain ⟨i180, rfl⟩ := hv179
                refine lv_if_lt (tgt := 189) hx hb dX8_isSound_169 (by decide) (fun c181 => ?_) (fun c181 => ?_)
                · skip
                  refine lv_iconst (v := 0) hx hb dX8_isSound_189 (by decide) ?_
                  exact W.zret (v := 0) hx hb hr (by decide) (fun t ht hW => ⟨⟨_, (L, κ, g), rfl, ⟨rfl, by first | exact Or.inl rfl | exact Or.inr rfl⟩, z_end hK hI ht hW⟩, z_F hI ht⟩) (z_locs hI) dX8_isSound_190
                · skip
                  refine lv_aload_n hx hb dX8_isSound_172 rfl (lv_at hl 4 rfl) ?_
                  refine z_get (k := 10) (j := 4) hM hI hk0 rfl rfl hinX8 rfl (by decide) (by decide +kernel) (fun _ h9 => h9) dX8_isSound_173 (fun v182 hv183 => ?_)
                  obtain ⟨hg185, i184, rfl, hr186⟩ := hv183
                  refine z_get (k := 8) (j := 1) hM hI hr186 rfl rfl hinX6 rfl (by decide) (by decide +kernel) (fun _ h9 => h9) dX8_isSound_176 (fun v187 hv188 => ?_)
                  obtain ⟨i189, rfl⟩ := hv188
                  refine lv_sipush (v := 5000) hx hb dX8_isSound_179 (by decide) ?_
                  refine lv_icmp_gt (tgt := 189) hx hb dX8_isSound_182 (by decide) (fun c190 => ?_) (fun c190 => ?_)
                  · skip
                    refine lv_iconst (v := 0) hx hb dX8_isSound_189 (by decide) ?_
                    exact W.zret (v := 0) hx hb hr (by decide) (fun t ht hW => ⟨⟨_, (L, κ, g), rfl, ⟨rfl, by first | exact Or.inl rfl | exact Or.inr rfl⟩, z_end hK hI ht hW⟩, z_F hI ht⟩) (z_locs hI) dX8_isSound_190
                  · skip
                    refine lv_iconst (v := 1) hx hb dX8_isSound_185 (by decide) ?_
                    refine lv_goto (tgt := 190) hx hb dX8_isSound_186 (by decide) ?_
                    exact W.zret (v := 1) hx hb hr (by decide) (fun t ht hW => ⟨⟨_, (L, κ, g), rfl, ⟨rfl, by first | exact Or.inl rfl | exact Or.inr rfl⟩, z_end hK hI ht hW⟩, z_F hI ht⟩) (z_locs hI) dX8_isSound_190
          · skip
            refine lv_iconst (v := 1) hx hb dX8_isSound_145 (by decide) ?_
            refine lv_goto (tgt := 150) hx hb dX8_isSound_146 (by decide) ?_
            refine lv_istore (lv' := [(6, .int 1), (5, .int 1), (3, .long x21), (1, .long x22), (0, .ref p0), (7, .int ((nI i23)))]) hx hb dX8_isSound_150 hl (by decide) rfl (fun ls hl => ?_)
            refine lv_iload hx hb dX8_isSound_152 (lv_at hl 1 rfl) ?_
            refine lv_if_eq (tgt := 189) hx hb dX8_isSound_154 (by decide) (fun c191 => ?_) (fun c191 => ?_)
            · skip
              refine lv_iconst (v := 0) hx hb dX8_isSound_189 (by decide) ?_
              exact W.zret (v := 0) hx hb hr (by decide) (fun t ht hW => ⟨⟨_, (L, κ, g), rfl, ⟨rfl, by first | exact Or.inl rfl | exact Or.inr rfl⟩, z_end hK hI ht hW⟩, z_F hI ht⟩) (z_locs hI) dX8_isSound_190
            · skip
              refine lv_iload hx hb dX8_isSound_157 (lv_at hl 0 rfl) ?_
              refine lv_if_eq (tgt := 189) hx hb dX8_isSound_159 (by decide) (fun c192 => ?_) (fun c192 => ?_)
              · skip
                refine lv_iconst (v := 0) hx hb dX8_isSound_189 (by decide) ?_
                exact W.zret (v := 0) hx hb hr (by decide) (fun t ht hW => ⟨⟨_, (L, κ, g), rfl, ⟨rfl, by first | exact Or.inl rfl | exact Or.inr rfl⟩, z_end hK hI ht hW⟩, z_F hI ht⟩) (z_locs hI) dX8_isSound_190
              · skip
                refine lv_aload_n hx hb dX8_isSound_162 rfl (lv_at hl 4 rfl) ?_
                refine z_get (k := 10) (j := 4) hM hI hk0 rfl rfl hinX8 rfl (by decide) (by decide +kernel) (fun _ h9 => h9) dX8_isSound_163 (fun v193 hv194 => ?_)
                obtain ⟨hg196, i195, rfl, hr197⟩ := hv194
                refine z_get (k := 8) (j := 1) hM hI hr197 rfl rfl hinX6 rfl (by decide) (by decide +kernel) (fun _ h9 => h9) dX8_isSound_166 (fun v198 hv199 => ?_)
                obtain ⟨i200, rfl⟩ := hv199
                refine lv_if_lt (tgt := 189) hx hb dX8_isSound_169 (by decide) (fun c201 => ?_) (fun c201 => ?_)
                · skip
                  refine lv_iconst (v := 0) hx hb dX8_isSound_189 (by decide) ?_
                  exact W.zret (v := 0) hx hb hr (by decide) (fun t ht hW => ⟨⟨_, (L, κ, g), rfl, ⟨rfl, by first | exact Or.inl rfl | exact Or.inr rfl⟩, z_end hK hI ht hW⟩, z_F hI ht⟩) (z_locs hI) dX8_isSound_190
                · skip
                  refine lv_aload_n hx hb dX8_isSound_172 rfl (lv_at hl 4 rfl) ?_
                  refine z_get (k := 10) (j := 4) hM hI hk0 rfl rfl hinX8 rfl (by decide) (by decide +kernel) (fun _ h9 => h9) dX8_isSound_173 (fun v202 hv203 => ?_)
                  obtain ⟨hg205, i204, rfl, hr206⟩ := hv203
                  refine z_get (k := 8) (j := 1) hM hI hr206 rfl rfl hinX6 rfl (by decide) (by decide +kernel) (fun _ h9 => h9) dX8_isSound_176 (fun v207 hv208 => ?_)
                  obtain ⟨i209, rfl⟩ := hv208
                  refine lv_sipush (v := 5000) hx hb dX8_isSound_179 (by decide) ?_
                  refine lv_icmp_gt (tgt := 189) hx hb dX8_isSound_182 (by decide) (fun c210 => ?_) (fun c210 => ?_)
                  · skip
                    refine lv_iconst (v := 0) hx hb dX8_isSound_189 (by decide) ?_
                    exact W.zret (v := 0) hx hb hr (by decide) (fun t ht hW => ⟨⟨_, (L, κ, g), rfl, ⟨rfl, by first | exact Or.inl rfl | exact Or.inr rfl⟩, z_end hK hI ht hW⟩, z_F hI ht⟩) (z_locs hI) dX8_isSound_190
                  · skip
                    refine lv_iconst (v := 1) hx hb dX8_isSound_185 (by decide) ?_
                    refine lv_goto (tgt := 190) hx hb dX8_isSound_186 (by decide) ?_
                    exact W.zret (v := 1) hx hb hr (by decide) (fun t ht hW => ⟨⟨_, (L, κ, g), rfl, ⟨rfl, by first | exact Or.inl rfl | exact Or.inr rfl⟩, z_end hK hI ht hW⟩, z_F hI ht⟩) (z_locs hI) dX8_isSound_190
      · skip
        have hltc24 : i23 < 6 := z_lt (by omega) c24
        refine lv_aload hx hb dX8_isSound_39 (lv_at hl 1 rfl) ?_
        refine lv_iload hx hb dX8_isSound_41 (lv_at hl 5 rfl) ?_
        refine z_aald hM hI hr20 rfl rfl rfl (vp_in_nI (by omega) (by omega)) dX8_isSound_43 (fun x211 hv212 => ?_)
        have hL71 : ∀ (H : Heap) (locs : List Loc) (x216 : Int64) (x217 : Int64)    (hI : zI D tc (zA [] L s.heap.size) s.heap [] L κ g H locs) (ls : Array Slot) (hl : lv_has ls 9 [(6, .int 6), (5, .ref i18), (3, .long x216), (1, .long x217), (0, .ref p0), (7, .int ((nI i23)))]), W p l e (headSpec wsX8_isSound ({ frames := 1, cells := 0, slots := 0, locals := 20 })).room s m ([.ref p0] : List Value).toArray below meth c H locs 0 0 (MQ below (va_Qi (fun (r : Int32) (u : zS) => u = (L, κ, g) ∧ (r = 0 ∨ r = 1)) (fun (u : zS) (t : State) => zB D tc (zA [] L s.heap.size) [] u t) (zA [] L s.heap.size)) ([.ref p0] : List Value).toArray s 0 0 (zA [] L s.heap.size)) (F0 m 71 ls []) := by
          intro H locs x216 x217 hI ls hl
          refine lv_iinc (v := nI (i23 + 1)) (lv' := [(7, .int ((nI (i23 + 1)))), (6, .int 6), (5, .ref i18), (3, .long x216), (1, .long x217), (0, .ref p0)]) hx hb dX8_isSound_71 hl (k := 5) rfl (z_inc i23) (by decide) rfl (fun ls hl => ?_)
          refine lv_goto (tgt := 32) hx hb dX8_isSound_74 (by decide) ?_
          exact ih _ _ x216 x217 (i23 + 1) (by first | omega | (simp only [] at *; omega)) (by first | omega | (simp only [] at *; omega)) hI ls (lv_sub hl [1, 2, 3, 4, 5, 0] rfl)
        obtain ⟨hghv212, hn215 | ⟨r213, hn215, hr214⟩⟩ := hv212
        · rw [hn215]
          rw [hn215] at hghv212
          refine lv_astoreN (lv' := [(8, .null), (6, .int 6), (5, .ref i18), (3, .long x21), (1, .long x22), (0, .ref p0), (7, .int ((nI i23)))]) hx hb dX8_isSound_44 hl (by decide) rfl (fun ls hl => ?_)
          refine lv_aloadN hx hb dX8_isSound_46 (lv_at hl 0 rfl) ?_
          refine lv_ifnullN (tgt := 71) hx hb dX8_isSound_48 (by decide) ?_
          exact hL71 _ _ x21 x22 hI ls (lv_sub hl [1, 2, 3, 4, 5, 6] rfl)
        · rw [hn215]
          rw [hn215] at hghv212
          refine lv_astore (lv' := [(8, .ref r213), (6, .int 6), (5, .ref i18), (3, .long x21), (1, .long x22), (0, .ref p0), (7, .int ((nI i23)))]) hx hb dX8_isSound_44 hl (by decide) rfl (fun ls hl => ?_)
          refine lv_aload hx hb dX8_isSound_46 (lv_at hl 0 rfl) ?_
          refine lv_ifnull hx hb dX8_isSound_48 ?_
          refine lv_lload_n hx hb dX8_isSound_51 rfl (lv_at hl 4 rfl) ?_
          refine lv_aload hx hb dX8_isSound_52 (lv_at hl 0 rfl) ?_
          refine z_get (k := 5) (j := 15) hM hI hr214 rfl rfl hinX3 rfl (by decide) (by decide +kernel) (fun _ h9 => h9) dX8_isSound_54 (fun v218 hv219 => ?_)
          obtain ⟨i220, rfl, hr221⟩ := hv219
          refine z_get (k := 3) (j := 1) hM hI hr221 rfl rfl hinX1 rfl (by decide) (by decide +kernel) (fun _ h9 => h9) dX8_isSound_57 (fun v222 hv223 => ?_)
          obtain ⟨i224, rfl, hr225⟩ := hv223
          refine vp_callSl (W.runV (As := []) (rest := [.long x22]) ⟨hx, hb, hml, hown, hts⟩ (c_X0_lowBits l _ _ _ _ _ _ _ i224 hr225) (cwV 0 hts gX8_isSound_X0_lowBits rfl rfl rfl (by decide +kernel) ⟨Nat.le_of_ble_eq_true rfl, Nat.le_of_ble_eq_true rfl⟩) (z_preV hK hE hI [] rfl rfl (z_recv hK hI hr225 rfl rfl)) rfl rfl hl.1 rfl (lv_room (Nat.le_of_ble_eq_true rfl)) dX8_isSound_60 ⟨Nat.le_of_ble_eq_true rfl, Nat.le_of_ble_eq_true rfl⟩) (fun v226 hw227 => ?_)
          refine lv_ladd hx hb dX8_isSound_63 ?_
          refine lv_topl (fun v228 e229 => ?_)
          refine lv_lstore_n (lv' := [(1, .long v228), (8, .ref r213), (6, .int 6), (5, .ref i18), (3, .long x21), (0, .ref p0), (7, .int ((nI i23)))]) hx hb dX8_isSound_64 rfl hl (by decide) rfl (fun ls hl => ?_)
          refine lv_lload_n hx hb dX8_isSound_65 rfl (lv_at hl 4 rfl) ?_
          refine lv_ldc2 (v := 400) hx hb hown (hts (.constantLong RX8 303 (400)) (by decide +kernel)) dX8_isSound_66 ?_
          refine lv_ladd hx hb dX8_isSound_69 ?_
          refine lv_topl (fun v230 e231 => ?_)
          refine lv_lstore_n (lv' := [(3, .long v230), (1, .long v228), (8, .ref r213), (6, .int 6), (5, .ref i18), (0, .ref p0), (7, .int ((nI i23)))]) hx hb dX8_isSound_70 rfl hl (by decide) rfl (fun ls hl => ?_)
          exact hL71 _ _ v230 v228 hI ls (lv_sub hl [3, 4, 0, 1, 5, 6] rfl)
  exact hL32 (6 + 1) _ _ 4000 v14 0 (by first | omega | (simp only [] at *; omega)) (by first | omega | (simp only [] at *; omega)) hI ls (lv_sub hl [1, 2, 3, 4, 5, 0] rfl)

