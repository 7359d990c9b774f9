set_option maxHeartbeats 4000000 in
set_option maxRecDepth 100000 in
theorem a_X1_gain (l : Launch) (D : va_G) (tc : Nat → ClassId) (z0 : Nat) (L : List Nat) (κ : Nat → Nat) (g : Nat → Nat → Value) (sz : Nat) (b0 KB KH KD w : Nat) (hKB : zBK KB KH KD w) (hw1 : 1 ≤ w ∧ w < 2147483648) (hkb : κ b0 = KB) (p0 q0 u0 K0 A0 : Nat) (p2 q2 u2 K2 A2 : Nat) (p1 q1 u1 K1 A1 : Nat) (hH : g b0 1 = .ref p0) (hD : g b0 2 = .ref p2) (hKH : KH = K0) (hKD : KD = K2) (hK0 : zAK K0 A0) (hk0 : κ p0 = K0) (hq0 : κ q0 = A0) (hN0 : zN g p0 q0 u0) (hK2 : zAK K2 A2) (hk2 : κ p2 = K2) (hq2 : κ q2 = A2) (hN2 : zN g p2 q2 u2) (hK1 : zAK K1 A1) (hk1 : κ p1 = K1) (hq1 : κ q1 = A1) (hN1 : zN g p1 q1 u1) (hp : p1 ≠ p0) (hq : q1 ≠ q0) (hp2 : p2 ≠ p0) (hqq : q2 ≠ q0) (hV9 : zV g q0 + zV g q1 < 4294967296 ^ 16) : Met l yX1_gain wsX1_gain ({ frames := 4, cells := 0, slots := 0, locals := 90 }) (zPc D tc z0 ([.ref b0, .ref p1] : List Value) [] (L, κ, g) sz) (va_Qv (fun (u : zS) => zBm L κ g p0 q0 p2 q2 w (zV g q0 + zV g q1) u) (fun (u : zS) (t : State) => zB D tc (zA [] L sz) [] u t) (zA [] L sz)) 0 0 (zA [] L sz) := by
  refine Met.ofW (cc := cX1_gain) (maxL := 2) (ret := none) (by decide) rfl ?_
  intro p e9 s m args below meth c s₁ B hml hv
  obtain ⟨rfl, rfl, hK, hE, hI⟩ := hv.opn
  have hx := B.exec
  have hb := B.bytes
  have hr := B.returns
  have hts := atoms_spec (ws := wsX1_gain) B.pre
  have hown : s.vm.findClass RX1 = some m.cls := findClass_of_methodNamed B.named
  have hlocks := B.notSynchronized
  have hM : zM p s m c cX1_gain _ wsX1_gain RX1 D tc := ⟨hx, hb, hts, hown, hK⟩
  have hinX1 : ∀ w ∈ wsX10, w ∈ wsX1_gain := by decide +kernel
  have hl := lv_entry ([.ref b0, .ref p1] : List Value) (n := 2) (Nat.le_of_ble_eq_true rfl)
  rw [lg_entry_eq]
  generalize (lg_sl ([.ref b0, .ref p1] : List Value) ++ List.replicate (2 - (lg_sl ([.ref b0, .ref p1] : List Value)).length) Slot.unset).toArray = ls at hl ⊢
  have hl : lv_has ls 2 [(0, .ref b0), (1, .ref p1)] := hl
  subst hKH
  subst hKD
  have hne : b0 ≠ q0 := by
    intro e9
    have h9 := hKB
    unfold zBK at h9
    rw [← hkb, e9, hq0, hK0.2.1] at h9
    cases h9
  have hne2 : b0 ≠ p0 := by
    intro e9
    have h9 := hKB
    unfold zBK at h9
    rw [← hkb, e9, hk0, hK0.1] at h9
    cases h9
  refine lv_aload_n hx hb dX1_gain_0 rfl (lv_at hl 0 rfl) ?_
  refine z_get (k := KB) (j := 1) hM hI hkb hKB rfl hinX1 rfl (by decide) (by decide +kernel) (fun _ h9 => h9) dX1_gain_1 (fun v9 hv9 => ?_)
  obtain ⟨hg9, r9, rfl, -⟩ := hv9
  obtain rfl : p0 = r9 := Value.ref.inj ((hH).symm.trans hg9.symm)
  clear hg9
  refine lv_aload_n hx hb dX1_gain_4 rfl (lv_at hl 1 rfl) ?_
  refine z_cv hI (va_runV (As := [.ref p1]) (rest := []) ⟨hx, hb, hml, hown, hts⟩ (a_X0_add l _ _ _ _ _ _ _ p0 q0 u0  _ A0 p1 q1 u1 _ A1 hK0 hk0 hq0 hN0.toZN0  hK1 hk1 hq1 hN1.toZN0  hp hq hV9) (cwV 1 hts gX1_gain_X0_add rfl rfl rfl (by decide +kernel) ⟨Nat.le_of_ble_eq_true rfl, Nat.le_of_ble_eq_true rfl⟩) (z_preV hK hE hI [] rfl rfl (z_recv hK hI hk0 hK0.1 rfl)) rfl rfl hl.1 rfl (lv_room (Nat.le_of_ble_eq_true rfl)) dX1_gain_5 ⟨Nat.le_of_ble_eq_true rfl, Nat.le_of_ble_eq_true rfl⟩) (fun u H locs hw hI => ?_)
  obtain ⟨g1, u5, rfl, hn1, hv1, hf1⟩ := hw
  have hH1 : g1 b0 1 = .ref p0 := (hf1.o hne hne2).trans hH
  have hD1 : g1 b0 2 = .ref p2 := (hf1.o hne hne2).trans hD
  have hN3 : zN0 g1 p2 q2 u2 := hN2.toZN0.o hf1 (hK2.ne2 hK0 hk2 hq0) hp2 hqq (Ne.symm (hK0.ne2 hK2 hk0 hq2))
  refine lv_aload_n hx hb dX1_gain_8 rfl (lv_at hl 0 rfl) ?_
  refine z_get (k := KB) (j := 2) hM hI hkb hKB rfl hinX1 rfl (by decide) (by decide +kernel) (fun _ h9 => h9) dX1_gain_9 (fun v9 hv9 => ?_)
  obtain ⟨hg9, r9, rfl, -⟩ := hv9
  obtain rfl : p2 = r9 := Value.ref.inj ((hD1).symm.trans hg9.symm)
  clear hg9
  refine lv_aload_n hx hb dX1_gain_12 rfl (lv_at hl 0 rfl) ?_
  refine z_get (k := KB) (j := 1) hM hI hkb hKB rfl hinX1 rfl (by decide) (by decide +kernel) (fun _ h9 => h9) dX1_gain_13 (fun v9 hv9 => ?_)
  obtain ⟨hg9, r9, rfl, -⟩ := hv9
  obtain rfl : p0 = r9 := Value.ref.inj ((hH1).symm.trans hg9.symm)
  clear hg9
  refine lv_aload_n hx hb dX1_gain_16 rfl (lv_at hl 0 rfl) ?_
  refine z_get (k := KB) (j := 0) hM hI hkb hKB rfl hinX1 rfl (by decide) (by decide +kernel) (fun _ h9 => h9) dX1_gain_17 (fun v9 hv9 => ?_)
  obtain rfl : v9 = .int (nI w) := hv9
  refine z_cv hI (va_runV (As := [.ref p0, .int (nI w)]) (rest := []) ⟨hx, hb, hml, hown, hts⟩ (a_X0_becomeQuotient l _ _ _ _ _ _ _ p2 q2 u2 _ A2 p0 q0 u5 _ A0 (nI w) hK2 hk2 hq2 hN3 hK0 hk0 hq0 hn1.toZN0 (by rw [nI_toInt hw1.2]; omega)) (cwV 2 hts gX1_gain_X0_becomeQuotient rfl rfl rfl (by decide +kernel) ⟨Nat.le_of_ble_eq_true rfl, Nat.le_of_ble_eq_true rfl⟩) (z_preV hK hE hI [] rfl rfl (z_recv hK hI hk2 hK2.1 rfl)) rfl rfl hl.1 rfl (lv_room (Nat.le_of_ble_eq_true rfl)) dX1_gain_20 ⟨Nat.le_of_ble_eq_true rfl, Nat.le_of_ble_eq_true rfl⟩) (fun u H locs hw hI => ?_)
  obtain ⟨g2, u6, rfl, hn2, hv2, hf2⟩ := hw
  have hn4 : zN g2 p0 q0 u5 := hn1.o hf2 (hK0.ne2 hK2 hk0 hq2) (Ne.symm hp2) (Ne.symm hqq) (Ne.symm (hK2.ne2 hK0 hk2 hq0))
  have hv4 : zV g2 q0 = zV g q0 + zV g q1 := (zV_o hf2 (Ne.symm hqq) (Ne.symm (hK2.ne2 hK0 hk2 hq0))).trans hv1
  exact W.vret hx hb hr (fun t ht hW => ⟨⟨(L, κ, g2), rfl, ⟨g2, u5, u6, rfl, hn4, hn2, hv4, by rw [hv2, hv1, nI_toInt hw1.2], hf1.two hf2⟩, z_end hK hI ht hW⟩, z_F hI ht⟩) (z_locs hI) dX1_gain_23

set_option maxHeartbeats 4000000 in
set_option maxRecDepth 100000 in
theorem a_X1_giveAway (l : Launch) (D : va_G) (tc : Nat → ClassId) (z0 : Nat) (L : List Nat) (κ : Nat → Nat) (g : Nat → Nat → Value) (sz : Nat) (b0 KB KH KD w : Nat) (hKB : zBK KB KH KD w) (hw1 : 1 ≤ w ∧ w < 2147483648) (hkb : κ b0 = KB) (p0 q0 u0 K0 A0 : Nat) (p2 q2 u2 K2 A2 : Nat) (p1 q1 u1 K1 A1 : Nat) (hH : g b0 1 = .ref p0) (hD : g b0 2 = .ref p2) (hKH : KH = K0) (hKD : KD = K2) (hK0 : zAK K0 A0) (hk0 : κ p0 = K0) (hq0 : κ q0 = A0) (hN0 : zN g p0 q0 u0) (hK2 : zAK K2 A2) (hk2 : κ p2 = K2) (hq2 : κ q2 = A2) (hN2 : zN g p2 q2 u2) (hK1 : zAK K1 A1) (hk1 : κ p1 = K1) (hq1 : κ q1 = A1) (hN1 : zN g p1 q1 u1) (hp : p1 ≠ p0) (hq : q1 ≠ q0) (hp2 : p2 ≠ p0) (hqq : q2 ≠ q0) (hV9 : zV g q1 ≤ zV g q0) : Met l yX1_giveAway wsX1_giveAway ({ frames := 4, cells := 0, slots := 0, locals := 90 }) (zPc D tc z0 ([.ref b0, .ref p1] : List Value) [] (L, κ, g) sz) (va_Qv (fun (u : zS) => zBm L κ g p0 q0 p2 q2 w (zV g q0 - zV g q1) u) (fun (u : zS) (t : State) => zB D tc (zA [] L sz) [] u t) (zA [] L sz)) 0 0 (zA [] L sz) := by
  refine Met.ofW (cc := cX1_giveAway) (maxL := 2) (ret := none) (by decide) rfl ?_
  intro p e9 s m args below meth c s₁ B hml hv
  obtain ⟨rfl, rfl, hK, hE, hI⟩ := hv.opn
  have hx := B.exec
  have hb := B.bytes
  have hr := B.returns
  have hts := atoms_spec (ws := wsX1_giveAway) B.pre
  have hown : s.vm.findClass RX1 = some m.cls := findClass_of_methodNamed B.named
  have hlocks := B.notSynchronized
  have hM : zM p s m c cX1_giveAway _ wsX1_giveAway RX1 D tc := ⟨hx, hb, hts, hown, hK⟩
  have hinX1 : ∀ w ∈ wsX10, w ∈ wsX1_giveAway := by decide +kernel
  have hl := lv_entry ([.ref b0, .ref p1] : List Value) (n := 2) (Nat.le_of_ble_eq_true rfl)
  rw [lg_entry_eq]
  generalize (lg_sl ([.ref b0, .ref p1] : List Value) ++ List.replicate (2 - (lg_sl ([.ref b0, .ref p1] : List Value)).length) Slot.unset).toArray = ls at hl ⊢
  have hl : lv_has ls 2 [(0, .ref b0), (1, .ref p1)] := hl
  subst hKH
  subst hKD
  have hne : b0 ≠ q0 := by
    intro e9
    have h9 := hKB
    unfold zBK at h9
    rw [← hkb, e9, hq0, hK0.2.1] at h9
    cases h9
  have hne2 : b0 ≠ p0 := by
    intro e9
    have h9 := hKB
    unfold zBK at h9
    rw [← hkb, e9, hk0, hK0.1] at h9
    cases h9
  refine lv_aload_n hx hb dX1_giveAway_0 rfl (lv_at hl 0 rfl) ?_
  refine z_get (k := KB) (j := 1) hM hI hkb hKB rfl hinX1 rfl (by decide) (by decide +kernel) (fun _ h9 => h9) dX1_giveAway_1 (fun v9 hv9 => ?_)
  obtain ⟨hg9, r9, rfl, -⟩ := hv9
  obtain rfl : p0 = r9 := Value.ref.inj ((hH).symm.trans hg9.symm)
  clear hg9
  refine lv_aload_n hx hb dX1_giveAway_4 rfl (lv_at hl 1 rfl) ?_
  refine z_cv hI (va_runV (As := [.ref p1]) (rest := []) ⟨hx, hb, hml, hown, hts⟩ (a_X0_takeAway l _ _ _ _ _ _ _ p0 q0 u0  _ A0 p1 q1 u1 _ A1 hK0 hk0 hq0 hN0  hK1 hk1 hq1 hN1  hp hq hV9) (cwV 1 hts gX1_giveAway_X0_takeAway rfl rfl rfl (by decide +kernel) ⟨Nat.le_of_ble_eq_true rfl, Nat.le_of_ble_eq_true rfl⟩) (z_preV hK hE hI [] rfl rfl (z_recv hK hI hk0 hK0.1 rfl)) rfl rfl hl.1 rfl (lv_room (Nat.le_of_ble_eq_true rfl)) dX1_giveAway_5 ⟨Nat.le_of_ble_eq_true rfl, Nat.le_of_ble_eq_true rfl⟩) (fun u H locs hw hI => ?_)
  obtain ⟨g1, u5, rfl, hn1, hv1, hf1⟩ := hw
  have hH1 : g1 b0 1 = .ref p0 := (hf1.o hne hne2).trans hH
  have hD1 : g1 b0 2 = .ref p2 := (hf1.o hne hne2).trans hD
  have hN3 : zN0 g1 p2 q2 u2 := hN2.toZN0.o hf1 (hK2.ne2 hK0 hk2 hq0) hp2 hqq (Ne.symm (hK0.ne2 hK2 hk0 hq2))
  refine lv_aload_n hx hb dX1_giveAway_8 rfl (lv_at hl 0 rfl) ?_
  refine z_get (k := KB) (j := 2) hM hI hkb hKB rfl hinX1 rfl (by decide) (by decide +kernel) (fun _ h9 => h9) dX1_giveAway_9 (fun v9 hv9 => ?_)
  obtain ⟨hg9, r9, rfl, -⟩ := hv9
  obtain rfl : p2 = r9 := Value.ref.inj ((hD1).symm.trans hg9.symm)
  clear hg9
  refine lv_aload_n hx hb dX1_giveAway_12 rfl (lv_at hl 0 rfl) ?_
  refine z_get (k := KB) (j := 1) hM hI hkb hKB rfl hinX1 rfl (by decide) (by decide +kernel) (fun _ h9 => h9) dX1_giveAway_13 (fun v9 hv9 => ?_)
  obtain ⟨hg9, r9, rfl, -⟩ := hv9
  obtain rfl : p0 = r9 := Value.ref.inj ((hH1).symm.trans hg9.symm)
  clear hg9
  refine lv_aload_n hx hb dX1_giveAway_16 rfl (lv_at hl 0 rfl) ?_
  refine z_get (k := KB) (j := 0) hM hI hkb hKB rfl hinX1 rfl (by decide) (by decide +kernel) (fun _ h9 => h9) dX1_giveAway_17 (fun v9 hv9 => ?_)
  obtain rfl : v9 = .int (nI w) := hv9
  refine z_cv hI (va_runV (As := [.ref p0, .int (nI w)]) (rest := []) ⟨hx, hb, hml, hown, hts⟩ (a_X0_becomeQuotient l _ _ _ _ _ _ _ p2 q2 u2 _ A2 p0 q0 u5 _ A0 (nI w) hK2 hk2 hq2 hN3 hK0 hk0 hq0 hn1.toZN0 (by rw [nI_toInt hw1.2]; omega)) (cwV 2 hts gX1_giveAway_X0_becomeQuotient rfl rfl rfl (by decide +kernel) ⟨Nat.le_of_ble_eq_true rfl, Nat.le_of_ble_eq_true rfl⟩) (z_preV hK hE hI [] rfl rfl (z_recv hK hI hk2 hK2.1 rfl)) rfl rfl hl.1 rfl (lv_room (Nat.le_of_ble_eq_true rfl)) dX1_giveAway_20 ⟨Nat.le_of_ble_eq_true rfl, Nat.le_of_ble_eq_true rfl⟩) (fun u H locs hw hI => ?_)
  obtain ⟨g2, u6, rfl, hn2, hv2, hf2⟩ := hw
  have hn4 : zN g2 p0 q0 u5 := hn1.o hf2 (hK0.ne2 hK2 hk0 hq2) (Ne.symm hp2) (Ne.symm hqq) (Ne.symm (hK2.ne2 hK0 hk2 hq0))
  have hv4 : zV g2 q0 = zV g q0 - zV g q1 := (zV_o hf2 (Ne.symm hqq) (Ne.symm (hK2.ne2 hK0 hk2 hq0))).trans hv1
  exact W.vret hx hb hr (fun t ht hW => ⟨⟨(L, κ, g2), rfl, ⟨g2, u5, u6, rfl, hn4, hn2, hv4, by rw [hv2, hv1, nI_toInt hw1.2], hf1.two hf2⟩, z_end hK hI ht hW⟩, z_F hI ht⟩) (z_locs hI) dX1_giveAway_23
