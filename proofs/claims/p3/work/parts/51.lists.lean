set_option maxHeartbeats 4000000 in
set_option maxRecDepth 100000 in
theorem c_Jx4a65c_size_8abf5 (l : Launch) (D : va_G) (tc : Nat → ClassId) (z0 : Nat) (L : List Nat) (κ : Nat → Nat) (g : Nat → Nat → Value) (sz : Nat) (p0 K e KA KE n : Nat) (mo : Int32) (f : Nat → Nat) (hO : zO K = some (1, [(10, 0), (18, 0), (10, 0)])) (hL : zLi κ g z0 p0 K e KA KE n mo f) : Met l yJx4a65c_size_8abf5 wsJx4a65c_size_8abf5 ({ frames := 0, cells := 0, slots := 0, locals := 0 }) (zPc D tc z0 [.ref p0] [] (L, κ, g) sz) (vp_Si (fun r => r = nI n)) 0 0 (fun _ => False) := by
  refine Met.ofW (cc := cJx4a65c_size_8abf5) (maxL := 1) (ret := (some .int)) (by decide) rfl ?_
  intro p e9 s m args below meth c s₁ B hml hv
  obtain ⟨rfl, rfl, hK, hE, hI⟩ := hv.opn
  have hx := B.exec
  have hb := B.bytes
  have hr := B.returns
  have hts := atoms_spec (ws := wsJx4a65c_size_8abf5) B.pre
  have hown : s.vm.findClass RJx4a65c = some m.cls := findClass_of_methodNamed B.named
  have hlocks := B.notSynchronized
  have hM : zM p s m c cJx4a65c_size_8abf5 _ wsJx4a65c_size_8abf5 RJx4a65c D tc := ⟨hx, hb, hts, hown, hK⟩
  have hl := lv_entry ([.ref p0]) (n := 1) (Nat.le_of_ble_eq_true rfl)
  rw [lg_entry_eq]
  generalize (lg_sl ([.ref p0]) ++ List.replicate (1 - (lg_sl ([.ref p0])).length) Slot.unset).toArray = ls at hl ⊢
  have hl : lv_has ls 1 [(0, .ref p0)] := hl
  have hin9 : ∀ w ∈ wsJx4a65c0, w ∈ wsJx4a65c_size_8abf5 := by decide +kernel
  refine lv_aload_n hx hb dJx4a65c_size_8abf5_0 rfl (lv_at hl 0 rfl) ?_
  refine z_get (k := K) (j := 2) hM hI hL.1 hO rfl hin9 rfl (by decide) (by decide +kernel) (fun _ h9 => h9) dJx4a65c_size_8abf5_1 (fun v1 hv2 => ?_)
  obtain ⟨hg4, i3, rfl⟩ := hv2
  obtain rfl : (nI n) = i3 := Value.int.inj ((hL.2.2.2.1).symm.trans hg4.symm)
  exact W.iret (v := nI n) hx hb hr (fun t ht hW => ⟨_, rfl, rfl, ht⟩) (fun q h => by cases h) dJx4a65c_size_8abf5_4

set_option maxHeartbeats 4000000 in
set_option maxRecDepth 100000 in
theorem c_Jx4a65c_isEmpty_aae02 (l : Launch) (D : va_G) (tc : Nat → ClassId) (z0 : Nat) (L : List Nat) (κ : Nat → Nat) (g : Nat → Nat → Value) (sz : Nat) (p0 K e KA KE n : Nat) (mo : Int32) (f : Nat → Nat) (hO : zO K = some (1, [(10, 0), (18, 0), (10, 0)])) (hL : zLi κ g z0 p0 K e KA KE n mo f) : Met l yJx4a65c_isEmpty_aae02 wsJx4a65c_isEmpty_aae02 ({ frames := 0, cells := 0, slots := 0, locals := 0 }) (zPc D tc z0 [.ref p0] [] (L, κ, g) sz) (vp_Si (fun r => (r = 1 ∧ n = 0) ∨ (r = 0 ∧ 0 < n))) 0 0 (fun _ => False) := by
  refine Met.ofW (cc := cJx4a65c_isEmpty_aae02) (maxL := 1) (ret := (some .boolean)) (by decide) rfl ?_
  intro p e9 s m args below meth c s₁ B hml hv
  obtain ⟨rfl, rfl, hK, hE, hI⟩ := hv.opn
  have hx := B.exec
  have hb := B.bytes
  have hr := B.returns
  have hts := atoms_spec (ws := wsJx4a65c_isEmpty_aae02) B.pre
  have hown : s.vm.findClass RJx4a65c = some m.cls := findClass_of_methodNamed B.named
  have hlocks := B.notSynchronized
  have hM : zM p s m c cJx4a65c_isEmpty_aae02 _ wsJx4a65c_isEmpty_aae02 RJx4a65c D tc := ⟨hx, hb, hts, hown, hK⟩
  have hl := lv_entry ([.ref p0]) (n := 1) (Nat.le_of_ble_eq_true rfl)
  rw [lg_entry_eq]
  generalize (lg_sl ([.ref p0]) ++ List.replicate (1 - (lg_sl ([.ref p0])).length) Slot.unset).toArray = ls at hl ⊢
  have hl : lv_has ls 1 [(0, .ref p0)] := hl
  have hin9 : ∀ w ∈ wsJx4a65c0, w ∈ wsJx4a65c_isEmpty_aae02 := by decide +kernel
  have hn := hL.n9
  refine lv_aload_n hx hb dJx4a65c_isEmpty_aae02_0 rfl (lv_at hl 0 rfl) ?_
  refine z_get (k := K) (j := 2) hM hI hL.1 hO rfl hin9 rfl (by decide) (by decide +kernel) (fun _ h9 => h9) dJx4a65c_isEmpty_aae02_1 (fun v1 hv2 => ?_)
  obtain ⟨hg4, i3, rfl⟩ := hv2
  obtain rfl : (nI n) = i3 := Value.int.inj ((hL.2.2.2.1).symm.trans hg4.symm)
  refine lv_if_ne (tgt := 11) hx hb dJx4a65c_isEmpty_aae02_4 (by decide) (fun c5 => ?_) (fun c5 => ?_)
  · have h9 : 0 < n := by
      rcases Nat.eq_zero_or_pos n with h | h
      · exact absurd (by rw [h]; rfl) c5
      · exact h
    refine lv_iconst (v := 0) hx hb dJx4a65c_isEmpty_aae02_11 (by decide) ?_
    exact W.zret (v := 0) hx hb hr (by decide) (fun t ht hW => ⟨_, rfl, Or.inr ⟨rfl, h9⟩, ht⟩) (fun q h => by cases h) dJx4a65c_isEmpty_aae02_12
  · have c5 : nI n = 0 := by simpa using c5
    have h9 : n = 0 := (nI_eq (b := 0) (by omega) (by omega)).mp c5
    refine lv_iconst (v := 1) hx hb dJx4a65c_isEmpty_aae02_7 (by decide) ?_
    refine lv_goto (tgt := 12) hx hb dJx4a65c_isEmpty_aae02_8 (by decide) ?_
    exact W.zret (v := 1) hx hb hr (by decide) (fun t ht hW => ⟨_, rfl, Or.inl ⟨rfl, h9⟩, ht⟩) (fun q h => by cases h) dJx4a65c_isEmpty_aae02_12

set_option maxHeartbeats 4000000 in
set_option maxRecDepth 100000 in
theorem c_Jx4a65c_elementData_915e3 (l : Launch) (D : va_G) (tc : Nat → ClassId) (z0 : Nat) (L : List Nat) (κ : Nat → Nat) (g : Nat → Nat → Value) (sz : Nat) (p0 K e KA KE n : Nat) (mo : Int32) (f : Nat → Nat) (hO : zO K = some (1, [(10, 0), (18, 0), (10, 0)])) (hL : zLi κ g z0 p0 K e KA KE n mo f) (hA0 : zO KA = none) (hR : zR KA = some (6, 10, 4, (12, KE))) (i : Nat) (hi : i < n) : Met l yJx4a65c_elementData_915e3 wsJx4a65c_elementData_915e3 ({ frames := 0, cells := 0, slots := 0, locals := 0 }) (zPc D tc z0 [.ref p0, .int (nI i)] [] (L, κ, g) sz) (va_Sq (fun r : Option Nat => r = some (f i))) 0 0 (fun _ => False) := by
  refine Met.ofW (cc := cJx4a65c_elementData_915e3) (maxL := 2) (ret := (some (.object "java/lang/Object"))) (by decide) rfl ?_
  intro p e9 s m args below meth c s₁ B hml hv
  obtain ⟨rfl, rfl, hK, hE, hI⟩ := hv.opn
  have hx := B.exec
  have hb := B.bytes
  have hr := B.returns
  have hts := atoms_spec (ws := wsJx4a65c_elementData_915e3) B.pre
  have hown : s.vm.findClass RJx4a65c = some m.cls := findClass_of_methodNamed B.named
  have hlocks := B.notSynchronized
  have hM : zM p s m c cJx4a65c_elementData_915e3 _ wsJx4a65c_elementData_915e3 RJx4a65c D tc := ⟨hx, hb, hts, hown, hK⟩
  have hl := lv_entry ([.ref p0, .int (nI i)]) (n := 2) (Nat.le_of_ble_eq_true rfl)
  rw [lg_entry_eq]
  generalize (lg_sl ([.ref p0, .int (nI i)]) ++ List.replicate (2 - (lg_sl ([.ref p0, .int (nI i)])).length) Slot.unset).toArray = ls at hl ⊢
  have hl : lv_has ls 2 [(0, .ref p0), (1, .int (nI i))] := hl
  have hin9 : ∀ w ∈ wsJx4a65c0, w ∈ wsJx4a65c_elementData_915e3 := by decide +kernel
  have hn := hL.n9
  refine lv_aload_n hx hb dJx4a65c_elementData_915e3_0 rfl (lv_at hl 0 rfl) ?_
  refine z_get (k := K) (j := 1) hM hI hL.1 hO rfl hin9 rfl (by decide) (by decide +kernel) (fun _ h9 => h9) dJx4a65c_elementData_915e3_1 (fun v1 hv2 => ?_)
  obtain ⟨hg4, i3, rfl⟩ := hv2
  obtain rfl : e = i3 := Value.ref.inj ((hL.2.2.1).symm.trans hg4.symm)
  refine lv_iload_n hx hb dJx4a65c_elementData_915e3_4 rfl (lv_at hl 1 rfl) ?_
  refine z_aald (n := 10) (C := "java/lang/Object") hM hI (hL.ka hi) hA0 hR rfl (vp_in_nI (by omega) (by omega)) dJx4a65c_elementData_915e3_5 (fun x hx9 => ?_)
  obtain ⟨hx9, -⟩ := hx9
  rw [nI_clamp (by omega), hL.at hi] at hx9
  rw [hx9]
  exact W.aret (v := .ref (f i)) hx hb hr (Or.inl ⟨_, rfl⟩) (Or.inr ⟨_, rfl⟩) (fun t ht hW => ⟨some (f i), rfl, rfl, ht⟩) (fun q h => by cases h) dJx4a65c_elementData_915e3_6

set_option maxHeartbeats 4000000 in
set_option maxRecDepth 100000 in
theorem c_Jx35411_hasNext_aae02 (l : Launch) (D : va_G) (tc : Nat → ClassId) (z0 : Nat) (L : List Nat) (κ : Nat → Nat) (g : Nat → Nat → Value) (sz : Nat) (p0 K e KA KE n : Nat) (mo : Int32) (f : Nat → Nat) (hO : zO K = some (1, [(10, 0), (18, 0), (10, 0)])) (hL : zLi κ g z0 p0 K e KA KE n mo f) (q i : Nat) (lr : Int32) (hi : i ≤ n) : Met l yJx35411_hasNext_aae02 wsJx35411_hasNext_aae02 ({ frames := 0, cells := 0, slots := 0, locals := 0 }) (zPc D tc z0 [.ref q] ([(q, .inr (0, [.int (nI i), .int lr, .int mo, .ref p0]))] : va_W) (L, κ, g) sz) (vp_Si (fun r => (r = 1 ∧ i < n) ∨ (r = 0 ∧ i = n))) 0 0 (fun _ => False) := by
  refine Met.ofW (cc := cJx35411_hasNext_aae02) (maxL := 1) (ret := (some .boolean)) (by decide) rfl ?_
  intro p e9 s m args below meth c s₁ B hml hv
  obtain ⟨rfl, rfl, hK, hE, hI⟩ := hv.opn
  have hx := B.exec
  have hb := B.bytes
  have hr := B.returns
  have hts := atoms_spec (ws := wsJx35411_hasNext_aae02) B.pre
  have hown : s.vm.findClass RJx35411 = some m.cls := findClass_of_methodNamed B.named
  have hlocks := B.notSynchronized
  have hM : zM p s m c cJx35411_hasNext_aae02 _ wsJx35411_hasNext_aae02 RJx35411 D tc := ⟨hx, hb, hts, hown, hK⟩
  have hl := lv_entry ([.ref q]) (n := 1) (Nat.le_of_ble_eq_true rfl)
  rw [lg_entry_eq]
  generalize (lg_sl ([.ref q]) ++ List.replicate (1 - (lg_sl ([.ref q])).length) Slot.unset).toArray = ls at hl ⊢
  have hl : lv_has ls 1 [(0, .ref q)] := hl
  have hin8 : ∀ w ∈ wsJx354110, w ∈ wsJx35411_hasNext_aae02 := by decide +kernel
  have hin9 : ∀ w ∈ wsJx4a65c0, w ∈ wsJx35411_hasNext_aae02 := by decide +kernel
  have hn := hL.n9
  refine lv_aload_n hx hb dJx35411_hasNext_aae02_0 rfl (lv_at hl 0 rfl) ?_
  refine z_getX (i := 0) (j := 0) hM hI rfl hin8 rfl (by decide) (by decide +kernel) (fun _ h9 => h9) rfl dJx35411_hasNext_aae02_1 ?_
  refine lv_aload_n hx hb dJx35411_hasNext_aae02_4 rfl (lv_at hl 0 rfl) ?_
  refine z_getX (i := 0) (j := 3) hM hI rfl hin8 rfl (by decide) (by decide +kernel) (fun _ h9 => h9) rfl dJx35411_hasNext_aae02_5 ?_
  refine z_getN (host := "java/util/ArrayList") (k := K) (j := 2) hM hE hI hL.1 hO rfl hin9 rfl (by decide) (by decide +kernel) (fun _ h9 => h9) dJx35411_hasNext_aae02_8 (fun v1 hv2 => ?_)
  obtain ⟨hg4, i3, rfl⟩ := hv2
  obtain rfl : (nI n) = i3 := Value.int.inj ((hL.2.2.2.1).symm.trans hg4.symm)
  refine lv_icmp_eq (tgt := 18) hx hb dJx35411_hasNext_aae02_11 (by decide) (fun c5 => ?_) (fun c5 => ?_)
  · have h9 : i = n := (nI_eq (by omega) (by omega)).mp c5
    refine lv_iconst (v := 0) hx hb dJx35411_hasNext_aae02_18 (by decide) ?_
    exact W.zret (v := 0) hx hb hr (by decide) (fun t ht hW => ⟨_, rfl, Or.inr ⟨rfl, h9⟩, ht⟩) (fun q h => by cases h) dJx35411_hasNext_aae02_19
  · have h9 : i < n := by
      rcases Nat.lt_or_eq_of_le hi with h | h
      · exact h
      · exact absurd (congrArg nI h) c5
    refine lv_iconst (v := 1) hx hb dJx35411_hasNext_aae02_14 (by decide) ?_
    refine lv_goto (tgt := 19) hx hb dJx35411_hasNext_aae02_15 (by decide) ?_
    exact W.zret (v := 1) hx hb hr (by decide) (fun t ht hW => ⟨_, rfl, Or.inl ⟨rfl, h9⟩, ht⟩) (fun q h => by cases h) dJx35411_hasNext_aae02_19

set_option maxHeartbeats 4000000 in
set_option maxRecDepth 100000 in
theorem c_J3_checkIndex_8e157 (l : Launch) (D : va_G) (tc : Nat → ClassId) (z0 : Nat) (L : List Nat) (κ : Nat → Nat) (g : Nat → Nat → Value) (sz : Nat) (p0 : Int32) (p1 : Int32) (h0 : ¬ p0 < 0) (h1 : p0 < p1) : Met l yJ3_checkIndex_8e157 wsJ3_checkIndex_8e157 ({ frames := 0, cells := 0, slots := 0, locals := 0 }) (zPc D tc z0 [.int p0, .int p1, .null] [] (L, κ, g) sz) (vp_Si (fun r : Int32 => r = p0)) 0 0 (fun _ => False) := by
  refine Met.ofW (cc := cJ3_checkIndex_8e157) (maxL := 3) (ret := (some .int)) (by decide) rfl ?_
  intro p e s m args below meth c s₁ B hml hv
  obtain ⟨rfl, rfl, hK, hE, hI⟩ := hv.opn
  have hx := B.exec
  have hb := B.bytes
  have hr := B.returns
  have hts := atoms_spec (ws := wsJ3_checkIndex_8e157) B.pre
  have hown : s.vm.findClass RJ3 = some m.cls := findClass_of_methodNamed B.named
  have hlocks := B.notSynchronized
  have hM : zM p s m c cJ3_checkIndex_8e157 _ wsJ3_checkIndex_8e157 RJ3 D tc := ⟨hx, hb, hts, hown, hK⟩
  skip
  have hl := lv_entry ([.int p0, .int p1, .null]) (n := 3) (Nat.le_of_ble_eq_true rfl)
  rw [lg_entry_eq]
  generalize (lg_sl ([.int p0, .int p1, .null]) ++ List.replicate (3 - (lg_sl ([.int p0, .int p1, .null])).length) Slot.unset).toArray = ls at hl ⊢
  have hl : lv_has ls 3 [(0, .int p0), (1, .int p1), (2, .null)] := hl
  refine lv_iload_n hx hb dJ3_checkIndex_8e157_0 rfl (lv_at hl 0 rfl) ?_
  refine lv_if_lt (tgt := 9) hx hb dJ3_checkIndex_8e157_1 (by decide) (fun c1 => ?_) (fun c1 => ?_)
  · skip
    exact absurd c1 h0
  · skip
    refine lv_iload_n hx hb dJ3_checkIndex_8e157_4 rfl (lv_at hl 0 rfl) ?_
    refine lv_iload_n hx hb dJ3_checkIndex_8e157_5 rfl (lv_at hl 1 rfl) ?_
    refine lv_icmp_lt (tgt := 16) hx hb dJ3_checkIndex_8e157_6 (by decide) (fun c2 => ?_) (fun c2 => ?_)
    · skip
      refine lv_iload_n hx hb dJ3_checkIndex_8e157_16 rfl (lv_at hl 0 rfl) ?_
      exact W.iret (v := p0) hx hb hr (fun t ht hW => ⟨_, rfl, rfl, ht⟩) (fun q h => by cases h) dJ3_checkIndex_8e157_17
    · skip
      exact absurd h1 c2

set_option maxHeartbeats 4000000 in
set_option maxRecDepth 100000 in
theorem c_J15_checkIndex_7cf53 (l : Launch) (D : va_G) (tc : Nat → ClassId) (z0 : Nat) (L : List Nat) (κ : Nat → Nat) (g : Nat → Nat → Value) (sz : Nat) (p0 : Int32) (p1 : Int32) (h0 : ¬ p0 < 0) (h1 : p0 < p1) : Met l yJ15_checkIndex_7cf53 wsJ15_checkIndex_7cf53 ({ frames := 1, cells := 0, slots := 0, locals := 22 }) (zPc D tc z0 [.int p0, .int p1] [] (L, κ, g) sz) (vp_Si (fun r : Int32 => r = p0)) 0 0 (fun _ => False) := by
  refine Met.ofW (cc := cJ15_checkIndex_7cf53) (maxL := 2) (ret := (some .int)) (by decide) rfl ?_
  intro p e s m args below meth c s₁ B hml hv
  obtain ⟨rfl, rfl, hK, hE, hI⟩ := hv.opn
  have hx := B.exec
  have hb := B.bytes
  have hr := B.returns
  have hts := atoms_spec (ws := wsJ15_checkIndex_7cf53) B.pre
  have hown : s.vm.findClass RJ15 = some m.cls := findClass_of_methodNamed B.named
  have hlocks := B.notSynchronized
  have hM : zM p s m c cJ15_checkIndex_7cf53 _ wsJ15_checkIndex_7cf53 RJ15 D tc := ⟨hx, hb, hts, hown, hK⟩
  skip
  have hl := lv_entry ([.int p0, .int p1]) (n := 2) (Nat.le_of_ble_eq_true rfl)
  rw [lg_entry_eq]
  generalize (lg_sl ([.int p0, .int p1]) ++ List.replicate (2 - (lg_sl ([.int p0, .int p1])).length) Slot.unset).toArray = ls at hl ⊢
  have hl : lv_has ls 2 [(0, .int p0), (1, .int p1)] := hl
  refine lv_iload_n hx hb dJ15_checkIndex_7cf53_0 rfl (lv_at hl 0 rfl) ?_
  refine lv_iload_n hx hb dJ15_checkIndex_7cf53_1 rfl (lv_at hl 1 rfl) ?_
  refine lv_null hx hb dJ15_checkIndex_7cf53_2 ?_
  refine vp_callSi (W.runS (As := [.int p0, .int p1, .null]) (rest := []) ⟨hx, hb, hml, hown, hts⟩ (c_J3_checkIndex_8e157 l _ _ _ _ _ _ _ p0 p1 h0 h1) (va_cwS 3 hts gJ15_checkIndex_7cf53_J3_checkIndex_8e157 rfl rfl rfl (by decide +kernel) ⟨Nat.le_of_ble_eq_true rfl, Nat.le_of_ble_eq_true rfl⟩) (z_pre hK hE hI [] rfl rfl) rfl rfl hl.1 rfl (lv_room (Nat.le_of_ble_eq_true rfl)) dJ15_checkIndex_7cf53_3 ⟨Nat.le_of_ble_eq_true rfl, Nat.le_of_ble_eq_true rfl⟩) (fun v1 hw2 => ?_)
  exact W.iret (v := v1) hx hb hr (fun t ht hW => ⟨_, rfl, hw2, ht⟩) (fun q h => by cases h) dJ15_checkIndex_7cf53_6

set_option maxHeartbeats 4000000 in
set_option maxRecDepth 100000 in
theorem c_Jx4a65c_get_915e3 (l : Launch) (D : va_G) (tc : Nat → ClassId) (z0 : Nat) (L : List Nat) (κ : Nat → Nat) (g : Nat → Nat → Value) (sz : Nat) (p0 K e KA KE n : Nat) (mo : Int32) (f : Nat → Nat) (hO : zO K = some (1, [(10, 0), (18, 0), (10, 0)])) (hL : zLi κ g z0 p0 K e KA KE n mo f) (hA0 : zO KA = none) (hR : zR KA = some (6, 10, 4, (12, KE))) (i : Nat) (hi : i < n) : Met l yJx4a65c_get_915e3 wsJx4a65c_get_915e3 ({ frames := 2, cells := 0, slots := 0, locals := 43 }) (zPc D tc z0 [.ref p0, .int (nI i)] [] (L, κ, g) sz) (va_Sq (fun r : Option Nat => r = some (f i))) 0 0 (fun _ => False) := by
  refine Met.ofW (cc := cJx4a65c_get_915e3) (maxL := 2) (ret := (some (.object "java/lang/Object"))) (by decide) rfl ?_
  intro p e9 s m args below meth c s₁ B hml hv
  obtain ⟨rfl, rfl, hK, hE, hI⟩ := hv.opn
  have hx := B.exec
  have hb := B.bytes
  have hr := B.returns
  have hts := atoms_spec (ws := wsJx4a65c_get_915e3) B.pre
  have hown : s.vm.findClass RJx4a65c = some m.cls := findClass_of_methodNamed B.named
  have hlocks := B.notSynchronized
  have hM : zM p s m c cJx4a65c_get_915e3 _ wsJx4a65c_get_915e3 RJx4a65c D tc := ⟨hx, hb, hts, hown, hK⟩
  have hl := lv_entry ([.ref p0, .int (nI i)]) (n := 2) (Nat.le_of_ble_eq_true rfl)
  rw [lg_entry_eq]
  generalize (lg_sl ([.ref p0, .int (nI i)]) ++ List.replicate (2 - (lg_sl ([.ref p0, .int (nI i)])).length) Slot.unset).toArray = ls at hl ⊢
  have hl : lv_has ls 2 [(0, .ref p0), (1, .int (nI i))] := hl
  have hin9 : ∀ w ∈ wsJx4a65c0, w ∈ wsJx4a65c_get_915e3 := by decide +kernel
  have hn := hL.n9
  refine lv_iload_n hx hb dJx4a65c_get_915e3_0 rfl (lv_at hl 1 rfl) ?_
  refine lv_aload_n hx hb dJx4a65c_get_915e3_1 rfl (lv_at hl 0 rfl) ?_
  refine z_get (k := K) (j := 2) hM hI hL.1 hO rfl hin9 rfl (by decide) (by decide +kernel) (fun _ h9 => h9) dJx4a65c_get_915e3_2 (fun v1 hv2 => ?_)
  obtain ⟨hg4, i3, rfl⟩ := hv2
  obtain rfl : (nI n) = i3 := Value.int.inj ((hL.2.2.2.1).symm.trans hg4.symm)
  refine vp_callSi (W.runS (As := [.int (nI i), .int (nI n)]) (rest := []) ⟨hx, hb, hml, hown, hts⟩ (c_J15_checkIndex_7cf53 l _ _ _ _ _ _ _ (nI i) (nI n) (nI_pos (by omega)) (nI_lt hi (by omega))) (va_cwS 2 hts gJx4a65c_get_915e3_J15_checkIndex_7cf53 rfl rfl rfl (by decide +kernel) ⟨Nat.le_of_ble_eq_true rfl, Nat.le_of_ble_eq_true rfl⟩) (z_pre hK hE hI [] rfl rfl) rfl rfl hl.1 rfl (lv_room (Nat.le_of_ble_eq_true rfl)) dJx4a65c_get_915e3_5 ⟨Nat.le_of_ble_eq_true rfl, Nat.le_of_ble_eq_true rfl⟩) (fun v5 hw5 => ?_)
  refine lv_pop hx hb dJx4a65c_get_915e3_8 rfl ?_
  refine lv_aload_n hx hb dJx4a65c_get_915e3_9 rfl (lv_at hl 0 rfl) ?_
  refine lv_iload_n hx hb dJx4a65c_get_915e3_10 rfl (lv_at hl 1 rfl) ?_
  refine va_csq (W.runV (As := [.int (nI i)]) (rest := []) ⟨hx, hb, hml, hown, hts⟩ (c_Jx4a65c_elementData_915e3 l _ _ _ _ _ _ _ p0 K e KA KE n mo f hO hL hA0 hR i hi) (cwV 1 hts gJx4a65c_get_915e3_Jx4a65c_elementData_915e3 rfl rfl rfl (by decide +kernel) ⟨Nat.le_of_ble_eq_true rfl, Nat.le_of_ble_eq_true rfl⟩) (z_preV hK hE hI [] rfl rfl (z_recv hK hI hL.1 hO rfl)) rfl rfl hl.1 rfl (lv_room (Nat.le_of_ble_eq_true rfl)) dJx4a65c_get_915e3_11 ⟨Nat.le_of_ble_eq_true rfl, Nat.le_of_ble_eq_true rfl⟩) (fun v6 hw6 => ?_)
  obtain rfl := hw6
  exact W.aret (v := .ref (f i)) hx hb hr (Or.inl ⟨_, rfl⟩) (Or.inr ⟨_, rfl⟩) (fun t ht hW => ⟨some (f i), rfl, rfl, ht⟩) (fun q h => by cases h) dJx4a65c_get_915e3_14

set_option maxHeartbeats 4000000 in
set_option maxRecDepth 100000 in
theorem c_Jx35411_checkForComodification_da8c8 (l : Launch) (D : va_G) (tc : Nat → ClassId) (z0 : Nat) (L : List Nat) (κ : Nat → Nat) (g : Nat → Nat → Value) (sz : Nat) (p0 K e KA KE n : Nat) (mo : Int32) (f : Nat → Nat) (hO : zO K = some (1, [(10, 0), (18, 0), (10, 0)])) (hL : zLi κ g z0 p0 K e KA KE n mo f) (q i : Nat) (lr : Int32) : Met l yJx35411_checkForComodification_da8c8 wsJx35411_checkForComodification_da8c8 ({ frames := 0, cells := 0, slots := 0, locals := 0 }) (zPc D tc z0 [.ref q] ([(q, .inr (0, [.int (nI i), .int lr, .int mo, .ref p0]))] : va_W) (L, κ, g) sz) (va_Sv (fun _ => True)) 0 0 (fun _ => False) := by
  refine Met.ofW (cc := cJx35411_checkForComodification_da8c8) (maxL := 1) (ret := none) (by decide) rfl ?_
  intro p e9 s m args below meth c s₁ B hml hv
  obtain ⟨rfl, rfl, hK, hE, hI⟩ := hv.opn
  have hx := B.exec
  have hb := B.bytes
  have hr := B.returns
  have hts := atoms_spec (ws := wsJx35411_checkForComodification_da8c8) B.pre
  have hown : s.vm.findClass RJx35411 = some m.cls := findClass_of_methodNamed B.named
  have hlocks := B.notSynchronized
  have hM : zM p s m c cJx35411_checkForComodification_da8c8 _ wsJx35411_checkForComodification_da8c8 RJx35411 D tc := ⟨hx, hb, hts, hown, hK⟩
  have hl := lv_entry ([.ref q]) (n := 1) (Nat.le_of_ble_eq_true rfl)
  rw [lg_entry_eq]
  generalize (lg_sl ([.ref q]) ++ List.replicate (1 - (lg_sl ([.ref q])).length) Slot.unset).toArray = ls at hl ⊢
  have hl : lv_has ls 1 [(0, .ref q)] := hl
  have hin8 : ∀ w ∈ wsJx354110, w ∈ wsJx35411_checkForComodification_da8c8 := by decide +kernel
  have hin9 : ∀ w ∈ wsJx4a65c0, w ∈ wsJx35411_checkForComodification_da8c8 := by decide +kernel
  refine lv_aload_n hx hb dJx35411_checkForComodification_da8c8_0 rfl (lv_at hl 0 rfl) ?_
  refine z_getX (i := 0) (j := 3) hM hI rfl hin8 rfl (by decide) (by decide +kernel) (fun _ h9 => h9) rfl dJx35411_checkForComodification_da8c8_1 ?_
  refine z_get (k := K) (j := 0) hM hI hL.1 hO rfl hin9 rfl (by decide) (by decide +kernel) (fun x9 h9 => u_same (hts (.sameField "java/util/ArrayList" "java/util/AbstractList" "modCount" "I") (by decide +kernel)) x9 h9) dJx35411_checkForComodification_da8c8_4 (fun v1 hv2 => ?_)
  obtain ⟨hg4, i3, rfl⟩ := hv2
  obtain rfl : mo = i3 := Value.int.inj ((hL.2.1).symm.trans hg4.symm)
  refine lv_aload_n hx hb dJx35411_checkForComodification_da8c8_7 rfl (lv_at hl 0 rfl) ?_
  refine z_getX (i := 0) (j := 2) hM hI rfl hin8 rfl (by decide) (by decide +kernel) (fun _ h9 => h9) rfl dJx35411_checkForComodification_da8c8_8 ?_
  refine lv_icmp_eq (tgt := 22) hx hb dJx35411_checkForComodification_da8c8_11 (by decide) (fun c5 => ?_) (fun c5 => absurd rfl c5)
  exact W.vret hx hb hr (fun t ht hW => ⟨rfl, trivial, ht⟩) (fun q h => by cases h) dJx35411_checkForComodification_da8c8_22

set_option maxHeartbeats 4000000 in
set_option maxRecDepth 100000 in
theorem c_Jx35411_next_0502b (l : Launch) (D : va_G) (tc : Nat → ClassId) (z0 : Nat) (L : List Nat) (κ : Nat → Nat) (g : Nat → Nat → Value) (sz : Nat) (p0 K e KA KE n : Nat) (mo : Int32) (f : Nat → Nat) (hO : zO K = some (1, [(10, 0), (18, 0), (10, 0)])) (hL : zLi κ g z0 p0 K e KA KE n mo f) (hA0 : zO KA = none) (hR : zR KA = some (6, 10, 4, (12, KE))) (q i : Nat) (lr : Int32) (hi : i < n) : Met l yJx35411_next_0502b wsJx35411_next_0502b ({ frames := 1, cells := 0, slots := 0, locals := 20 }) (zPc D tc z0 [.ref q] ([(q, .inr (0, [.int (nI i), .int lr, .int mo, .ref p0]))] : va_W) (L, κ, g) sz) (va_Qq (fun (r : Option Nat) (u : zS) => r = some (f i) ∧ u = (L, κ, g)) (fun (u : zS) (t : State) => zB D tc (zA ([(q, .inr (0, [.int (nI i), .int lr, .int mo, .ref p0]))] : va_W) L sz) [(q, .inr (0, [.int (nI (i + 1)), .int (nI i), .int mo, .ref p0]))] u t) (zA ([(q, .inr (0, [.int (nI i), .int lr, .int mo, .ref p0]))] : va_W) L sz)) 0 0 (zA ([(q, .inr (0, [.int (nI i), .int lr, .int mo, .ref p0]))] : va_W) L sz) := by
  refine Met.ofW (cc := cJx35411_next_0502b) (maxL := 3) (ret := (some (.object "java/lang/Object"))) (by decide) rfl ?_
  intro p e9 s m args below meth c s₁ B hml hv
  obtain ⟨rfl, rfl, hK, hE, hI⟩ := hv.opn
  have hx := B.exec
  have hb := B.bytes
  have hr := B.returns
  have hts := atoms_spec (ws := wsJx35411_next_0502b) B.pre
  have hown : s.vm.findClass RJx35411 = some m.cls := findClass_of_methodNamed B.named
  have hlocks := B.notSynchronized
  have hM : zM p s m c cJx35411_next_0502b _ wsJx35411_next_0502b RJx35411 D tc := ⟨hx, hb, hts, hown, hK⟩
  have hl := lv_entry ([.ref q]) (n := 3) (Nat.le_of_ble_eq_true rfl)
  rw [lg_entry_eq]
  generalize (lg_sl ([.ref q]) ++ List.replicate (3 - (lg_sl ([.ref q])).length) Slot.unset).toArray = ls at hl ⊢
  have hl : lv_has ls 3 [(0, .ref q)] := hl
  have hin8 : ∀ w ∈ wsJx354110, w ∈ wsJx35411_next_0502b := by decide +kernel
  have hin9 : ∀ w ∈ wsJx4a65c0, w ∈ wsJx35411_next_0502b := by decide +kernel
  have hn := hL.n9
  refine lv_aload_n hx hb dJx35411_next_0502b_0 rfl (lv_at hl 0 rfl) ?_
  refine va_csv (W.runV (As := []) (rest := []) ⟨hx, hb, hml, hown, hts⟩ (c_Jx35411_checkForComodification_da8c8 l _ _ _ _ _ _ _ p0 K e KA KE n mo f hO hL q i lr) (cwV 0 hts gJx35411_next_0502b_Jx35411_checkForComodification_da8c8 rfl rfl rfl (by decide +kernel) ⟨Nat.le_of_ble_eq_true rfl, Nat.le_of_ble_eq_true rfl⟩) (z_preV hK hE hI [0] rfl rfl (z_recvX hK hI (i := 0) rfl rfl)) rfl rfl hl.1 rfl (lv_room (Nat.le_of_ble_eq_true rfl)) dJx35411_next_0502b_1 ⟨Nat.le_of_ble_eq_true rfl, Nat.le_of_ble_eq_true rfl⟩) (fun _ => ?_)
  refine lv_aload_n hx hb dJx35411_next_0502b_4 rfl (lv_at hl 0 rfl) ?_
  refine z_getX (i := 0) (j := 0) hM hI rfl hin8 rfl (by decide) (by decide +kernel) (fun _ h9 => h9) rfl dJx35411_next_0502b_5 ?_
  refine lv_istore_n (lv' := [(1, .int (nI i)), (0, .ref q)]) hx hb dJx35411_next_0502b_8 rfl hl (by decide) rfl (fun ls hl => ?_)
  refine lv_iload_n hx hb dJx35411_next_0502b_9 rfl (lv_at hl 0 rfl) ?_
  refine lv_aload_n hx hb dJx35411_next_0502b_10 rfl (lv_at hl 1 rfl) ?_
  refine z_getX (i := 0) (j := 3) hM hI rfl hin8 rfl (by decide) (by decide +kernel) (fun _ h9 => h9) rfl dJx35411_next_0502b_11 ?_
  refine z_getN (host := "java/util/ArrayList") (k := K) (j := 2) hM hE hI hL.1 hO rfl hin9 rfl (by decide) (by decide +kernel) (fun _ h9 => h9) dJx35411_next_0502b_14 (fun v1 hv2 => ?_)
  obtain ⟨hg4, i3, rfl⟩ := hv2
  obtain rfl : (nI n) = i3 := Value.int.inj ((hL.2.2.2.1).symm.trans hg4.symm)
  refine lv_icmp_lt (tgt := 28) hx hb dJx35411_next_0502b_17 (by decide) (fun _ => ?_) (fun c5 => absurd (nI_lt hi (by omega)) c5)
  refine lv_aload_n hx hb dJx35411_next_0502b_28 rfl (lv_at hl 1 rfl) ?_
  refine z_getX (i := 0) (j := 3) hM hI rfl hin8 rfl (by decide) (by decide +kernel) (fun _ h9 => h9) rfl dJx35411_next_0502b_29 ?_
  refine z_get (k := K) (j := 1) hM hI hL.1 hO rfl hin9 rfl (by decide) (by decide +kernel) (fun _ h9 => h9) dJx35411_next_0502b_32 (fun v1 hv2 => ?_)
  obtain ⟨hg4, i3, rfl⟩ := hv2
  obtain rfl : e = i3 := Value.ref.inj ((hL.2.2.1).symm.trans hg4.symm)
  refine lv_astore_n (lv' := [(2, .ref e), (1, .int (nI i)), (0, .ref q)]) hx hb dJx35411_next_0502b_35 rfl hl (by decide) rfl (fun ls hl => ?_)
  refine lv_iload_n hx hb dJx35411_next_0502b_36 rfl (lv_at hl 1 rfl) ?_
  refine lv_aload_n hx hb dJx35411_next_0502b_37 rfl (lv_at hl 0 rfl) ?_
  refine z_alen (v := 10) (n := 10) hM hI (hL.ka hi) hA0 hR rfl (by decide) dJx35411_next_0502b_38 ?_
  refine lv_icmp_lt (tgt := 50) hx hb dJx35411_next_0502b_39 (by decide) (fun _ => ?_) (fun c5 => absurd (show nI i < nI 10 from nI_lt (by omega) (by omega)) c5)
  refine lv_aload_n hx hb dJx35411_next_0502b_50 rfl (lv_at hl 2 rfl) ?_
  refine lv_iload_n hx hb dJx35411_next_0502b_51 rfl (lv_at hl 1 rfl) ?_
  refine lv_iconst (v := 1) hx hb dJx35411_next_0502b_52 (by decide) ?_
  refine lv_iadd hx hb dJx35411_next_0502b_53 ?_
  rw [nI_1]
  refine z_putX (i := 0) (j := 0) hM hI rfl hin8 tyJx35411 tyJx35411_ok nmJx35411 rfl (by decide) (by decide +kernel) (fun _ h9 => h9) rfl rfl rfl rfl (Nat.le_of_ble_eq_true rfl) dJx35411_next_0502b_54 (fun H locs hI => ?_)
  refine lv_aload_n hx hb dJx35411_next_0502b_57 rfl (lv_at hl 0 rfl) ?_
  refine lv_aload_n hx hb dJx35411_next_0502b_58 rfl (lv_at hl 2 rfl) ?_
  refine lv_iload_n hx hb dJx35411_next_0502b_59 rfl (lv_at hl 1 rfl) ?_
  refine lv_dup_x1 hx hb dJx35411_next_0502b_60 rfl rfl ?_
  refine z_putX (i := 0) (j := 1) hM hI rfl hin8 tyJx35411 tyJx35411_ok nmJx35411 rfl (by decide) (by decide +kernel) (fun _ h9 => h9) rfl rfl rfl rfl (Nat.le_of_ble_eq_true rfl) dJx35411_next_0502b_61 (fun H locs hI => ?_)
  refine z_aald (n := 10) (C := "java/lang/Object") hM hI (hL.ka hi) hA0 hR rfl (vp_in_nI (by omega) (by omega)) dJx35411_next_0502b_64 (fun x hx9 => ?_)
  obtain ⟨hx9, -⟩ := hx9
  rw [nI_clamp (by omega), hL.at hi] at hx9
  rw [hx9]
  exact W.aret (v := .ref (f i)) hx hb hr (Or.inl ⟨_, rfl⟩) (Or.inr ⟨_, rfl⟩) (fun t ht hW => ⟨⟨some (f i), (L, κ, g), rfl, ⟨rfl, rfl⟩, z_end hK hI ht hW⟩, z_F hI ht⟩) (z_locs hI) dJx35411_next_0502b_65

set_option maxHeartbeats 4000000 in
set_option maxRecDepth 100000 in
theorem c_Jx35411_init_45d68 (l : Launch) (D : va_G) (tc : Nat → ClassId) (z0 : Nat) (L : List Nat) (κ : Nat → Nat) (g : Nat → Nat → Value) (sz : Nat) (p0 K e KA KE n : Nat) (mo : Int32) (f : Nat → Nat) (hO : zO K = some (1, [(10, 0), (18, 0), (10, 0)])) (hL : zLi κ g z0 p0 K e KA KE n mo f) (q : Nat) : Met l yJx35411_init_45d68 wsJx35411_init_45d68 ({ frames := 1, cells := 0, slots := 0, locals := 20 }) (zPc D tc z0 [.ref q, .ref p0] ([(q, .inr (0, [.int 0, .int 0, .int 0, .null]))] : va_W) (L, κ, g) sz) (va_Qv (fun (u : zS) => u = (L, κ, g)) (fun (u : zS) (t : State) => zB D tc (zA ([(q, .inr (0, [.int 0, .int 0, .int 0, .null]))] : va_W) L sz) [(q, .inr (0, [.int (nI 0), .int (-1), .int mo, .ref p0]))] u t) (zA ([(q, .inr (0, [.int 0, .int 0, .int 0, .null]))] : va_W) L sz)) 0 0 (zA ([(q, .inr (0, [.int 0, .int 0, .int 0, .null]))] : va_W) L sz) := by
  refine Met.ofW (cc := cJx35411_init_45d68) (maxL := 2) (ret := none) (by decide) rfl ?_
  intro p e9 s m args below meth c s₁ B hml hv
  obtain ⟨rfl, rfl, hK, hE, hI⟩ := hv.opn
  have hx := B.exec
  have hb := B.bytes
  have hr := B.returns
  have hts := atoms_spec (ws := wsJx35411_init_45d68) B.pre
  have hown : s.vm.findClass RJx35411 = some m.cls := findClass_of_methodNamed B.named
  have hlocks := B.notSynchronized
  have hM : zM p s m c cJx35411_init_45d68 _ wsJx35411_init_45d68 RJx35411 D tc := ⟨hx, hb, hts, hown, hK⟩
  have hin2 : meth.name = "<init>" := (name_of_methodNamed B.named B.method).1
  have hl := lv_entry ([.ref q, .ref p0]) (n := 2) (Nat.le_of_ble_eq_true rfl)
  rw [lg_entry_eq]
  generalize (lg_sl ([.ref q, .ref p0]) ++ List.replicate (2 - (lg_sl ([.ref q, .ref p0])).length) Slot.unset).toArray = ls at hl ⊢
  have hl : lv_has ls 2 [(0, .ref q), (1, .ref p0)] := hl
  have hin8 : ∀ w ∈ wsJx354110, w ∈ wsJx35411_init_45d68 := by decide +kernel
  have hin9 : ∀ w ∈ wsJx4a65c0, w ∈ wsJx35411_init_45d68 := by decide +kernel
  refine lv_aload_n hx hb dJx35411_init_45d68_0 rfl (lv_at hl 0 rfl) ?_
  refine lv_aload_n hx hb dJx35411_init_45d68_1 rfl (lv_at hl 1 rfl) ?_
  refine z_putXF (i := 0) (j := 3) hM hI hin2 rfl hin8 tyJx35411 tyJx35411_ok nmJx35411 rfl (by decide) (by decide +kernel) (fun _ h9 => h9) rfl rfl rfl rfl rfl (Nat.le_of_ble_eq_true rfl) dJx35411_init_45d68_2 (fun H locs hI => ?_)
  refine lv_aload_n hx hb dJx35411_init_45d68_5 rfl (lv_at hl 0 rfl) ?_
  refine W.objInit hx hb hown (hts (.methodLink RJx35411 7 objectInit) (by decide +kernel)) (hts (.instanceMethod objectInit) (by decide +kernel)) (hts (.code objectInit ⟨#[0xb1]⟩ 1 none) (by decide +kernel)) rfl (by rw [hml]; exact hl.1) rfl dJx35411_init_45d68_6 (Nat.le_of_ble_eq_true rfl) (Nat.le_of_ble_eq_true rfl) ?_
  refine W.eq (g2 := F0 m 9 ls []) rfl ?_
  refine lv_aload_n hx hb dJx35411_init_45d68_9 rfl (lv_at hl 0 rfl) ?_
  refine lv_iconst (v := -1) hx hb dJx35411_init_45d68_10 (by decide) ?_
  refine z_putX (i := 0) (j := 1) hM hI rfl hin8 tyJx35411 tyJx35411_ok nmJx35411 rfl (by decide) (by decide +kernel) (fun _ h9 => h9) rfl rfl rfl rfl (Nat.le_of_ble_eq_true rfl) dJx35411_init_45d68_11 (fun H locs hI => ?_)
  refine lv_aload_n hx hb dJx35411_init_45d68_14 rfl (lv_at hl 0 rfl) ?_
  refine lv_aload_n hx hb dJx35411_init_45d68_15 rfl (lv_at hl 0 rfl) ?_
  refine z_getX (i := 0) (j := 3) hM hI rfl hin8 rfl (by decide) (by decide +kernel) (fun _ h9 => h9) rfl dJx35411_init_45d68_16 ?_
  refine z_get (k := K) (j := 0) hM hI hL.1 hO rfl hin9 rfl (by decide) (by decide +kernel) (fun x9 h9 => u_same (hts (.sameField "java/util/ArrayList" "java/util/AbstractList" "modCount" "I") (by decide +kernel)) x9 h9) dJx35411_init_45d68_19 (fun v1 hv2 => ?_)
  obtain ⟨hg4, i3, rfl⟩ := hv2
  obtain rfl : mo = i3 := Value.int.inj ((hL.2.1).symm.trans hg4.symm)
  refine z_putX (i := 0) (j := 2) hM hI rfl hin8 tyJx35411 tyJx35411_ok nmJx35411 rfl (by decide) (by decide +kernel) (fun _ h9 => h9) rfl rfl rfl rfl (Nat.le_of_ble_eq_true rfl) dJx35411_init_45d68_22 (fun H locs hI => ?_)
  exact W.vret hx hb hr (fun t ht hW => ⟨⟨(L, κ, g), rfl, rfl, z_end hK hI ht hW⟩, z_F hI ht⟩) (z_locs hI) dJx35411_init_45d68_25

set_option maxHeartbeats 4000000 in
set_option maxRecDepth 100000 in
theorem c_Jx4a65c_iterator_32c93 (l : Launch) (D : va_G) (tc : Nat → ClassId) (z0 : Nat) (L : List Nat) (κ : Nat → Nat) (g : Nat → Nat → Value) (sz : Nat) (p0 K e KA KE n : Nat) (mo : Int32) (f : Nat → Nat) (hO : zO K = some (1, [(10, 0), (18, 0), (10, 0)])) (hL : zLi κ g z0 p0 K e KA KE n mo f) : Met l yJx4a65c_iterator_32c93 wsJx4a65c_iterator_32c93 ({ frames := 2, cells := 1, slots := 4, locals := 41 }) (zPc D tc z0 [.ref p0] [] (L, κ, g) sz) (va_Qq (fun (r : Option Nat) (u : Nat × zS) => r = some u.1 ∧ u.2 = (L, κ, g)) (fun (u : Nat × zS) (t : State) => zB D tc (zA [] L sz) [(u.1, .inr (0, [.int (nI 0), .int (-1), .int mo, .ref p0]))] u.2 t) (zA [] L sz)) 1 4 (zA [] L sz) := by
  refine Met.ofW (cc := cJx4a65c_iterator_32c93) (maxL := 1) (ret := (some (.object "java/util/Iterator"))) (by decide) rfl ?_
  intro p e9 s m args below meth c s₁ B hml hv
  obtain ⟨rfl, rfl, hK, hE, hI⟩ := hv.opn
  have hx := B.exec
  have hb := B.bytes
  have hr := B.returns
  have hts := atoms_spec (ws := wsJx4a65c_iterator_32c93) B.pre
  have hown : s.vm.findClass RJx4a65c = some m.cls := findClass_of_methodNamed B.named
  have hlocks := B.notSynchronized
  have hM : zM p s m c cJx4a65c_iterator_32c93 _ wsJx4a65c_iterator_32c93 RJx4a65c D tc := ⟨hx, hb, hts, hown, hK⟩
  have hl := lv_entry ([.ref p0]) (n := 1) (Nat.le_of_ble_eq_true rfl)
  rw [lg_entry_eq]
  generalize (lg_sl ([.ref p0]) ++ List.replicate (1 - (lg_sl ([.ref p0])).length) Slot.unset).toArray = ls at hl ⊢
  have hl : lv_has ls 1 [(0, .ref p0)] := hl
  have hin9 : ∀ w ∈ wsJx4a65c0, w ∈ wsJx4a65c_iterator_32c93 := by decide +kernel
  have hin8 : ∀ w ∈ wsJx354110, w ∈ wsJx4a65c_iterator_32c93 := by decide +kernel
  refine z_new (ci := 0) (fs := [.int 0, .int 0, .int 0, .null]) (C := RJx35411) (T := TJx35411) (N := 4) hM hI hin8 tyJx35411 tyJx35411_ok (by decide +kernel) (by decide +kernel) (by decide +kernel) rfl (by decide +kernel) (Nat.le_of_ble_eq_true rfl) (Nat.le_of_ble_eq_true rfl) dJx4a65c_iterator_32c93_0 (fun q H hI => ?_)
  have hI : zI D tc _ s.heap [(q, .inr (0, [.int 0, .int 0, .int 0, .null]))] L κ g _ _ := hI
  refine lv_dup hx hb dJx4a65c_iterator_32c93_3 rfl ?_
  refine lv_aload_n hx hb dJx4a65c_iterator_32c93_4 rfl (lv_at hl 0 rfl) ?_
  refine z_cvX (Xc := [(q, .inr (0, [.int 0, .int 0, .int 0, .null]))]) (wr := []) (rx := [(q, .inr (0, [.int (nI 0), .int (-1), .int mo, .ref p0]))]) [0] [] rfl rfl rfl rfl (by decide) hI (va_runI (As := [.ref p0]) (rest := [.ref q]) ⟨hx, hb, hml, hown, hts⟩ (c_Jx35411_init_45d68 l _ _ _ _ _ _ _ p0 K e KA KE n mo f hO hL q) (cwI 1 hts gJx4a65c_iterator_32c93_Jx35411_init_45d68 rfl rfl rfl (hts (.initialized RJx35411) (by decide +kernel)) (hts (.methodLink RJx4a65c 269 yJx35411_init_45d68) (by decide +kernel)) (hts (.instanceMethod yJx35411_init_45d68) (by decide +kernel)) rfl (by decide +kernel) ⟨Nat.le_of_ble_eq_true rfl, Nat.le_of_ble_eq_true rfl⟩) (z_pre (Xc := [(q, .inr (0, [.int 0, .int 0, .int 0, .null]))]) hK hE hI [0] rfl rfl) rfl rfl hl.1 rfl (lv_room (Nat.le_of_ble_eq_true rfl)) dJx4a65c_iterator_32c93_5 ⟨Nat.le_of_ble_eq_true rfl, Nat.le_of_ble_eq_true rfl⟩) (fun u H locs hw hI => ?_)
  obtain rfl := hw
  exact W.aret (v := .ref q) hx hb hr (Or.inl ⟨_, rfl⟩) (Or.inr ⟨_, rfl⟩) (fun t ht hW => ⟨⟨some q, (q, (L, κ, g)), rfl, ⟨rfl, rfl⟩, z_end hK hI ht hW⟩, z_F hI ht⟩) (z_locs hI) dJx4a65c_iterator_32c93_8
