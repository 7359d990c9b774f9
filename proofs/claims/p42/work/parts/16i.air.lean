set_option maxHeartbeats 4000000 in
set_option maxRecDepth 100000 in
theorem a_X2_giveToAir (l : Launch) (D : va_G) (tc : Nat → ClassId) (z0 : Nat) (L : List Nat) (κ : Nat → Nat) (g : Nat → Nat → Value) (sz : Nat) (P cf b a q : Nat → Nat) (n : Nat) (hS : zShp κ g P cf b a q n) (hB : zV g (q 0) + zHs g q n < 4294967296 ^ 15 * 4194304) (hH9 : zHt g q n) (h20 : zV g (q 2) = 20) (A9 : Int) (hA9 : g (P 3) 2 = .long (Int64.ofInt A9)) : Met l yX2_giveToAir wsX2_giveToAir ({ frames := 5, cells := 0, slots := 0, locals := 112 }) (zPc D tc z0 ([.ref (P 3), .ref (a 4)] : List Value) [] (L, κ, g) sz) (va_Qv (fun (u : zS) => ∃ (g2 : Nat → Nat → Value) (G : Int), 0 ≤ G ∧ u = (L, κ, g2) ∧ zShp κ g2 P cf b a q n ∧ zHt g2 q n ∧ zV g2 (q 0) = zV g (q 0) - G ∧ zHs g2 q n = zHs g q n ∧ zV g2 (q 2) = zV g (q 2) ∧ zV g2 (q 3) = zV g (q 3) ∧ g2 (P 3) 2 = .long (Int64.ofInt (A9 + G)) ∧ zQ1 κ (P 3) 2 g g2) (fun (u : zS) (t : State) => zB D tc (zA [] L sz) [] u t) (zA [] L sz)) 0 0 (zA [] L sz) := by
  refine Met.ofW (cc := cX2_giveToAir) (maxL := 2) (ret := none) (by decide) rfl ?_
  intro p e9 s m args below meth c s₁ B hml hv
  obtain ⟨rfl, rfl, hK, hE, hI⟩ := hv.opn
  have hx := B.exec
  have hb := B.bytes
  have hr := B.returns
  have hts := atoms_spec (ws := wsX2_giveToAir) B.pre
  have hown : s.vm.findClass RX2 = some m.cls := findClass_of_methodNamed B.named
  have hlocks := B.notSynchronized
  have hM : zM p s m c cX2_giveToAir _ wsX2_giveToAir RX2 D tc := ⟨hx, hb, hts, hown, hK⟩
  have hinX2 : ∀ w ∈ wsX20, w ∈ wsX2_giveToAir := by decide +kernel
  have hl := lv_entry ([.ref (P 3), .ref (a 4)] : List Value) (n := 2) (Nat.le_of_ble_eq_true rfl)
  rw [lg_entry_eq]
  generalize (lg_sl ([.ref (P 3), .ref (a 4)] : List Value) ++ List.replicate (2 - (lg_sl ([.ref (P 3), .ref (a 4)] : List Value)).length) Slot.unset).toArray = ls at hl ⊢
  have hl : lv_has ls 2 [(0, .ref (P 3)), (1, .ref (a 4))] := hl
  have hinX1 : ∀ w ∈ wsX10, w ∈ wsX2_giveToAir := by decide +kernel
  have hinX0 : ∀ w ∈ wsX00, w ∈ wsX2_giveToAir := by decide +kernel
  have hn6 := hS.n6
  obtain ⟨⟨-, -, -, k3, -, -, k6⟩, -, ⟨m0, m1, mb1, mb2⟩, -⟩ := id hS
  obtain ⟨⟨hd0, hlo0⟩, -⟩ := id hH9
  have hsnn : 0 ≤ zHs g q n := zSm_nn (fun j hj => hS.af.nn (by omega))
  refine lv_aload_n hx hb dX2_giveToAir_0 rfl (lv_at hl 1 rfl) ?_
  refine lv_aload_n hx hb dX2_giveToAir_1 rfl (lv_at hl 0 rfl) ?_
  refine z_get (k := 4) (j := 0) hM hI k3 rfl rfl hinX2 rfl (by decide) (by decide +kernel) (fun _ h9 => h9) dX2_giveToAir_2 (fun v9 hv9 => ?_)
  obtain ⟨hg9, r9, rfl, -⟩ := hv9
  obtain rfl : (P 6) = r9 := Value.ref.inj ((m0).symm.trans hg9.symm)
  clear hg9
  refine z_get (k := 31) (j := 2) hM hI k6 rfl rfl hinX1 rfl (by decide) (by decide +kernel) (fun _ h9 => h9) dX2_giveToAir_5 (fun v9 hv9 => ?_)
  obtain ⟨hg9, r9, rfl, -⟩ := hv9
  obtain rfl : (a 1) = r9 := Value.ref.inj ((mb2).symm.trans hg9.symm)
  clear hg9
  obtain ⟨hkk1, hqk1, uk1, hnk1⟩ := hS.af.1 4 (by omega)
  obtain ⟨hkk2, hqk2, uk2, hnk2⟩ := hS.af.1 1 (by omega)
  refine z_cv hI (va_runV (As := [.ref (a 1)]) (rest := []) ⟨hx, hb, hml, hown, hts⟩ (a_X0_becomeSame l _ _ _ _ _ _ _ (a 4) (q 4) uk1 _ _ (a 1) (q 1) uk2 _ _  (kx_ok 4) hkk1 hqk1 hnk1.toZN0 (kx_ok 1) hkk2 hqk2 hnk2.toZN0 (hS.af.2 1 4 (by omega) (by omega) (by omega)).1 (hS.af.2 1 4 (by omega) (by omega) (by omega)).2 ) (cwV 1 hts gX2_giveToAir_X0_becomeSame rfl rfl rfl (by decide +kernel) ⟨Nat.le_of_ble_eq_true rfl, Nat.le_of_ble_eq_true rfl⟩) (z_preV hK hE hI [] rfl rfl (z_recv hK hI hkk1 (kx_ok 4).1 rfl)) rfl rfl hl.1 rfl (lv_room (Nat.le_of_ble_eq_true rfl)) dX2_giveToAir_8 ⟨Nat.le_of_ble_eq_true rfl, Nat.le_of_ble_eq_true rfl⟩) (fun u H locs hw hI => ?_)
  obtain ⟨g1, rfl, AFg1, hvg1, hog1, hQg1⟩ := hS.af.am (by omega) hw
  have hSg1 := hS.q hQg1 AFg1
  obtain ⟨-, -, ⟨m0g1, m1g1, mb1g1, mb2g1⟩, -⟩ := id hSg1
  have a0 := hog1 0 (by omega) (by omega)
  have a2 := hog1 2 (by omega) (by omega)
  refine lv_aload_n hx hb dX2_giveToAir_11 rfl (lv_at hl 1 rfl) ?_
  refine lv_aload_n hx hb dX2_giveToAir_12 rfl (lv_at hl 0 rfl) ?_
  refine z_get (k := 4) (j := 1) hM hI k3 rfl rfl hinX2 rfl (by decide) (by decide +kernel) (fun _ h9 => h9) dX2_giveToAir_13 (fun v9 hv9 => ?_)
  obtain ⟨hg9, r9, rfl, -⟩ := hv9
  obtain rfl : (a 2) = r9 := Value.ref.inj ((m1g1).symm.trans hg9.symm)
  clear hg9
  obtain ⟨hkk3, hqk3, uk3, hnk3⟩ := AFg1.1 4 (by omega)
  obtain ⟨hkk4, hqk4, uk4, hnk4⟩ := AFg1.1 2 (by omega)
  refine z_cv hI (va_runV (As := [.ref (a 2)]) (rest := []) ⟨hx, hb, hml, hown, hts⟩ (a_X0_takeAway l _ _ _ _ _ _ _ (a 4) (q 4) uk3 _ _ (a 2) (q 2) uk4 _ _  (kx_ok 4) hkk3 hqk3 hnk3 (kx_ok 2) hkk4 hqk4 hnk4 (AFg1.2 2 4 (by omega) (by omega) (by omega)).1 (AFg1.2 2 4 (by omega) (by omega) (by omega)).2 (by omega)) (cwV 1 hts gX2_giveToAir_X0_takeAway rfl rfl rfl (by decide +kernel) ⟨Nat.le_of_ble_eq_true rfl, Nat.le_of_ble_eq_true rfl⟩) (z_preV hK hE hI [] rfl rfl (z_recv hK hI hkk3 (kx_ok 4).1 rfl)) rfl rfl hl.1 rfl (lv_room (Nat.le_of_ble_eq_true rfl)) dX2_giveToAir_16 ⟨Nat.le_of_ble_eq_true rfl, Nat.le_of_ble_eq_true rfl⟩) (fun u H locs hw hI => ?_)
  obtain ⟨g2, rfl, AFg2, hvg2, hog2, hQg2⟩ := AFg1.am (by omega) hw
  have hSg2 := hSg1.q hQg2 AFg2
  obtain ⟨-, -, ⟨m0g2, m1g2, mb1g2, mb2g2⟩, -⟩ := id hSg2
  have b0 := hog2 0 (by omega) (by omega)
  refine lv_aload_n hx hb dX2_giveToAir_19 rfl (lv_at hl 1 rfl) ?_
  refine lv_aload_n hx hb dX2_giveToAir_20 rfl (lv_at hl 1 rfl) ?_
  refine lv_aload_n hx hb dX2_giveToAir_21 rfl (lv_at hl 0 rfl) ?_
  refine z_get (k := 4) (j := 3) hM hI k3 rfl rfl hinX2 rfl (by decide) (by decide +kernel) (fun _ h9 => h9) dX2_giveToAir_22 (fun v9 hv9 => ?_)
  obtain ⟨fl, rfl, hfll, hflh⟩ := hv9
  have hflh : fl.toInt < 4 := hflh
  refine lv_iconst (v := 1) hx hb dX2_giveToAir_25 (by decide) ?_
  refine lv_iadd hx hb dX2_giveToAir_26 ?_
  refine lv_topi (fun f1 ef => ?_)
  have hf1 : f1.toInt = fl.toInt + 1 := by rw [ef, wi_add (by rw [show (1 : Int32).toInt = 1 from rfl]; omega)]; rfl
  have hv0 : 0 ≤ zV g2 (q 4) := AFg2.nn (by omega)
  have hp1 : zV g2 (q 4) * f1.toInt ≤ zV g2 (q 4) * 4 := Int.mul_le_mul_of_nonneg_left (by omega) hv0
  have hp0 : 0 ≤ zV g2 (q 4) * f1.toInt := Int.mul_nonneg hv0 (by omega)
  obtain ⟨hkk5, hqk5, uk5, hnk5⟩ := AFg2.1 4 (by omega)
  obtain ⟨hkk6, hqk6, uk6, hnk6⟩ := AFg2.1 4 (by omega)
  refine z_cv hI (va_runV (As := [.ref (a 4), .int f1]) (rest := []) ⟨hx, hb, hml, hown, hts⟩ (a_X0_becomeProduct l _ _ _ _ _ _ _ (a 4) (q 4) uk5 _ _ (a 4) (q 4) uk6 _ _ f1 (kx_ok 4) hkk5 hqk5 hnk5.toZN0 (kx_ok 4) hkk6 hqk6 hnk6.toZN0 (by omega) (by omega)) (cwV 2 hts gX2_giveToAir_X0_becomeProduct rfl rfl rfl (by decide +kernel) ⟨Nat.le_of_ble_eq_true rfl, Nat.le_of_ble_eq_true rfl⟩) (z_preV hK hE hI [] rfl rfl (z_recv hK hI hkk5 (kx_ok 4).1 rfl)) rfl rfl hl.1 rfl (lv_room (Nat.le_of_ble_eq_true rfl)) dX2_giveToAir_27 ⟨Nat.le_of_ble_eq_true rfl, Nat.le_of_ble_eq_true rfl⟩) (fun u H locs hw hI => ?_)
  obtain ⟨g3, rfl, AFg3, hvg3, hog3, hQg3⟩ := AFg2.am (by omega) hw
  have hSg3 := hSg2.q hQg3 AFg3
  obtain ⟨-, -, ⟨m0g3, m1g3, mb1g3, mb2g3⟩, -⟩ := id hSg3
  have c0 := hog3 0 (by omega) (by omega)
  refine lv_aload_n hx hb dX2_giveToAir_30 rfl (lv_at hl 1 rfl) ?_
  refine lv_aload_n hx hb dX2_giveToAir_31 rfl (lv_at hl 1 rfl) ?_
  refine lv_iconst (v := 2) hx hb dX2_giveToAir_32 (by decide) ?_
  obtain ⟨hkk7, hqk7, uk7, hnk7⟩ := AFg3.1 4 (by omega)
  obtain ⟨hkk8, hqk8, uk8, hnk8⟩ := AFg3.1 4 (by omega)
  refine z_cv hI (va_runV (As := [.ref (a 4), .int 2]) (rest := []) ⟨hx, hb, hml, hown, hts⟩ (a_X0_becomeQuotient l _ _ _ _ _ _ _ (a 4) (q 4) uk7 _ _ (a 4) (q 4) uk8 _ _ 2 (kx_ok 4) hkk7 hqk7 hnk7.toZN0 (kx_ok 4) hkk8 hqk8 hnk8.toZN0 (by decide)) (cwV 2 hts gX2_giveToAir_X0_becomeQuotient rfl rfl rfl (by decide +kernel) ⟨Nat.le_of_ble_eq_true rfl, Nat.le_of_ble_eq_true rfl⟩) (z_preV hK hE hI [] rfl rfl (z_recv hK hI hkk7 (kx_ok 4).1 rfl)) rfl rfl hl.1 rfl (lv_room (Nat.le_of_ble_eq_true rfl)) dX2_giveToAir_33 ⟨Nat.le_of_ble_eq_true rfl, Nat.le_of_ble_eq_true rfl⟩) (fun u H locs hw hI => ?_)
  obtain ⟨g4, rfl, AFg4, hvg4, hog4, hQg4⟩ := AFg3.am (by omega) hw
  have hSg4 := hSg3.q hQg4 AFg4
  obtain ⟨-, -, ⟨m0g4, m1g4, mb1g4, mb2g4⟩, -⟩ := id hSg4
  rw [show (2 : Int32).toInt = 2 from rfl] at hvg4
  have d0 := hog4 0 (by omega) (by omega)
  refine lv_aload_n hx hb dX2_giveToAir_36 rfl (lv_at hl 0 rfl) ?_
  refine z_get (k := 4) (j := 0) hM hI k3 rfl rfl hinX2 rfl (by decide) (by decide +kernel) (fun _ h9 => h9) dX2_giveToAir_37 (fun v9 hv9 => ?_)
  obtain ⟨hg9, r9, rfl, -⟩ := hv9
  obtain rfl : (P 6) = r9 := Value.ref.inj ((m0g4).symm.trans hg9.symm)
  clear hg9
  refine lv_aload_n hx hb dX2_giveToAir_40 rfl (lv_at hl 1 rfl) ?_
  obtain ⟨hkk9, hqk9, uk9, hnk9⟩ := AFg4.1 0 (by omega)
  obtain ⟨hkk10, hqk10, uk10, hnk10⟩ := AFg4.1 1 (by omega)
  obtain ⟨hkk11, hqk11, uk11, hnk11⟩ := AFg4.1 4 (by omega)
  refine z_cv hI (va_runV (As := [.ref (a 4)]) (rest := []) ⟨hx, hb, hml, hown, hts⟩ (a_X1_giveAway l _ _ _ _ _ _ _ (P 6) 31 34 35 200 rfl (by decide) k6 (a 0) (q 0) uk9 _ _ (a 1) (q 1) uk10 _ _ (a 4) (q 4) uk11 _ _ mb1g4 mb2g4 rfl rfl (kx_ok 0) hkk9 hqk9 hnk9 (kx_ok 1) hkk10 hqk10 hnk10 (kx_ok 4) hkk11 hqk11 hnk11 (AFg4.2 4 0 (by omega) (by omega) (by omega)).1 (AFg4.2 4 0 (by omega) (by omega) (by omega)).2 (AFg4.2 1 0 (by omega) (by omega) (by omega)).1 (AFg4.2 1 0 (by omega) (by omega) (by omega)).2 (by omega)) (cwV 1 hts gX2_giveToAir_X1_giveAway rfl rfl rfl (by decide +kernel) ⟨Nat.le_of_ble_eq_true rfl, Nat.le_of_ble_eq_true rfl⟩) (z_preV hK hE hI [] rfl rfl (z_recv hK hI k6 rfl rfl)) rfl rfl hl.1 rfl (lv_room (Nat.le_of_ble_eq_true rfl)) dX2_giveToAir_41 ⟨Nat.le_of_ble_eq_true rfl, Nat.le_of_ble_eq_true rfl⟩) (fun u H locs hw hI => ?_)
  obtain ⟨g5, rfl, AFg5, hvg5, hdg5, hog5, hQg5⟩ := AFg4.bm (by omega) (by omega) (by omega) hw
  have hSg5 := hSg4.q hQg5 AFg5
  obtain ⟨-, -, ⟨m0g5, m1g5, mb1g5, mb2g5⟩, -⟩ := id hSg5
  have e4 := hog5 4 (by omega) (by omega) (by omega)
  have hQ5 : zQ κ g g5 := (((hQg1.tr hQg2).tr hQg3).tr hQg4).tr hQg5
  have hA5 : g5 (P 3) 2 = .long (Int64.ofInt A9) := (hQ5.at 2 k3 (by decide)).trans hA9
  refine lv_aload_n hx hb dX2_giveToAir_44 rfl (lv_at hl 0 rfl) ?_
  refine lv_dup hx hb dX2_giveToAir_45 rfl ?_
  refine z_get (k := 4) (j := 2) hM hI k3 rfl rfl hinX2 rfl (by decide) (by decide +kernel) (fun _ h9 => h9) dX2_giveToAir_46 (fun v9 hv9 => ?_)
  obtain ⟨hg9, i9, rfl⟩ := hv9
  obtain rfl : Int64.ofInt A9 = i9 := Value.long.inj ((hA5).symm.trans hg9.symm)
  clear hg9
  refine lv_aload_n hx hb dX2_giveToAir_49 rfl (lv_at hl 1 rfl) ?_
  obtain ⟨hkk12, hqk12, uk12, hnk12⟩ := AFg5.1 4 (by omega)
  refine vp_callSl (W.runV (As := []) (rest := [.long (Int64.ofInt A9), .ref (P 3)]) ⟨hx, hb, hml, hown, hts⟩ (a_X0_lowBits l _ _ _ _ _ _ _ (a 4) (q 4) uk12 _ _  (kx_ok 4) hkk12 hqk12 hnk12.toZN0 ) (cwV 0 hts gX2_giveToAir_X0_lowBits rfl rfl rfl (by decide +kernel) ⟨Nat.le_of_ble_eq_true rfl, Nat.le_of_ble_eq_true rfl⟩) (z_preV hK hE hI [] rfl rfl (z_recv hK hI hkk12 (kx_ok 4).1 rfl)) rfl rfl hl.1 rfl (lv_room (Nat.le_of_ble_eq_true rfl)) dX2_giveToAir_50 ⟨Nat.le_of_ble_eq_true rfl, Nat.le_of_ble_eq_true rfl⟩) (fun v8 hw => ?_)
  obtain rfl := hw
  refine lv_ladd hx hb dX2_giveToAir_53 ?_
  rw [wl_add, e4]
  obtain ⟨g6, hG9⟩ : ∃ g9, g9 = zup g5 (P 3) 2 (.long (Int64.ofInt (A9 + zV g4 (q 4)))) := ⟨_, rfl⟩
  have hsg6 : g6 (P 3) 2 = .long (Int64.ofInt (A9 + zV g4 (q 4))) := by rw [hG9]; exact zup_self _ _ _ _
  have hog6 : ∀ b j, (b ≠ (P 3) ∨ j ≠ 2) → g6 b j = g5 b j := fun b j h => by rw [hG9]; exact zup_ne h
  clear hG9
  refine z_put (g' := g6) (k := 4) (j := 2) hM hI k3 rfl rfl hinX2 tyX2 tyX2_ok nmX2 rfl (by decide) (by decide +kernel) (fun _ h9 => h9) rfl rfl rfl rfl ⟨hsg6.symm, _, rfl⟩ hog6 dX2_giveToAir_54 (fun H locs hI => ?_)
  obtain ⟨hS6, hv6⟩ := hSg5.put (x9 := P 3) (j9 := 2) k3 (by unfold zSlot; omega) hog6
  have ho5 : ∀ y, y < 5 + 2 * n → y ≠ 4 → y ≠ 0 → y ≠ 1 → zV g5 (q y) = zV g (q y) := fun y y0 y4 y1 y2 => (hog5 y y0 y1 y2).trans ((hog4 y y0 y4).trans ((hog3 y y0 y4).trans ((hog2 y y0 y4).trans (hog1 y y0 y4))))
  have hH6 : zHt g6 q n := by
    refine ⟨?_, fun j hj => ?_⟩
    · rw [hv6 1 (by omega), hv6 0 (by omega)]; exact ⟨by rw [hdg5, hvg5]; rfl, by omega⟩
    · rw [hv6 _ (by omega), hv6 _ (by omega), ho5 _ (by omega) (by omega) (by omega) (by omega), ho5 _ (by omega) (by omega) (by omega) (by omega)]; exact hH9.2 j hj
  exact W.vret hx hb hr (fun t ht hW => ⟨⟨(L, κ, g6), rfl, ⟨g6, zV g4 (q 4), AFg4.nn (by omega), rfl, hS6, hH6, by rw [hv6 0 (by omega)]; omega, zSm_congr (fun j hj => (hv6 _ (by omega)).trans (ho5 _ (by omega) (by omega) (by omega) (by omega))), (hv6 2 (by omega)).trans (ho5 2 (by omega) (by omega) (by omega) (by omega)), (hv6 3 (by omega)).trans (ho5 3 (by omega) (by omega) (by omega) (by omega)), hsg6, hQ5.one.tr (zQ1.put hog6)⟩, z_end hK hI ht hW⟩, z_F hI ht⟩) (z_locs hI) dX2_giveToAir_57

set_option maxHeartbeats 4000000 in
set_option maxRecDepth 100000 in
theorem a_X2_runFan (l : Launch) (D : va_G) (tc : Nat → ClassId) (z0 : Nat) (L : List Nat) (κ : Nat → Nat) (g : Nat → Nat → Value) (sz : Nat) (p0 : Nat) (hk0 : κ p0 = 4) (A9 : Int) (hA9 : g p0 2 = .long (Int64.ofInt A9)) : Met l yX2_runFan wsX2_runFan ({ frames := 0, cells := 0, slots := 0, locals := 0 }) (zPc D tc z0 ([.ref p0] : List Value) [] (L, κ, g) sz) (va_Qi (fun (r : Int32) (u : zS) => ∃ g2 : Nat → Nat → Value, u = (L, κ, g2) ∧ (0 ≤ r.toInt ∧ r.toInt ≤ 15) ∧ g2 p0 2 = .long (Int64.ofInt (A9 + r.toInt)) ∧ ∀ b j, (b ≠ p0 ∨ j ≠ 2) → g2 b j = g b j) (fun (u : zS) (t : State) => zB D tc (zA [] L sz) [] u t) (zA [] L sz)) 0 0 (zA [] L sz) := by
  refine Met.ofW (cc := cX2_runFan) (maxL := 2) (ret := (some .int)) (by decide) rfl ?_
  intro p e9 s m args below meth c s₁ B hml hv
  obtain ⟨rfl, rfl, hK, hE, hI⟩ := hv.opn
  have hx := B.exec
  have hb := B.bytes
  have hr := B.returns
  have hts := atoms_spec (ws := wsX2_runFan) B.pre
  have hown : s.vm.findClass RX2 = some m.cls := findClass_of_methodNamed B.named
  have hlocks := B.notSynchronized
  have hM : zM p s m c cX2_runFan _ wsX2_runFan RX2 D tc := ⟨hx, hb, hts, hown, hK⟩
  have hinX2 : ∀ w ∈ wsX20, w ∈ wsX2_runFan := by decide +kernel
  have hl := lv_entry ([.ref p0] : List Value) (n := 2) (Nat.le_of_ble_eq_true rfl)
  rw [lg_entry_eq]
  generalize (lg_sl ([.ref p0] : List Value) ++ List.replicate (2 - (lg_sl ([.ref p0] : List Value)).length) Slot.unset).toArray = ls at hl ⊢
  have hl : lv_has ls 2 [(0, .ref p0)] := hl
  refine lv_iconst (v := 5) hx hb dX2_runFan_0 (by decide) ?_
  refine lv_aload_n hx hb dX2_runFan_1 rfl (lv_at hl 0 rfl) ?_
  refine z_get (k := 4) (j := 3) hM hI hk0 rfl rfl hinX2 rfl (by decide) (by decide +kernel) (fun _ h9 => h9) dX2_runFan_2 (fun v9 hv9 => ?_)
  obtain ⟨fl, rfl, hfll, hflh⟩ := hv9
  have hflh : fl.toInt < 4 := hflh
  refine lv_imul hx hb dX2_runFan_5 ?_
  refine lv_topi (fun v ev => ?_)
  have hv : v.toInt = 5 * fl.toInt := by rw [ev, wi_mul (by rw [show (5 : Int32).toInt = 5 from rfl]; omega)]; rfl
  refine lv_istore_n (lv' := [(1, .int v), (0, .ref p0)]) hx hb dX2_runFan_6 rfl hl (by decide) rfl (fun ls hl => ?_)
  refine lv_aload_n hx hb dX2_runFan_7 rfl (lv_at hl 1 rfl) ?_
  refine lv_dup hx hb dX2_runFan_8 rfl ?_
  refine z_get (k := 4) (j := 2) hM hI hk0 rfl rfl hinX2 rfl (by decide) (by decide +kernel) (fun _ h9 => h9) dX2_runFan_9 (fun v9 hv9 => ?_)
  obtain ⟨hg9, i9, rfl⟩ := hv9
  obtain rfl : Int64.ofInt A9 = i9 := Value.long.inj ((hA9).symm.trans hg9.symm)
  clear hg9
  refine lv_iload_n hx hb dX2_runFan_12 rfl (lv_at hl 0 rfl) ?_
  refine lv_i2l hx hb dX2_runFan_13 (w_i2l v) ?_
  refine lv_ladd hx hb dX2_runFan_14 ?_
  rw [wl_add]
  obtain ⟨g2, hG9⟩ : ∃ g9, g9 = zup g p0 2 (.long (Int64.ofInt (A9 + v.toInt))) := ⟨_, rfl⟩
  have hsg2 : g2 p0 2 = .long (Int64.ofInt (A9 + v.toInt)) := by rw [hG9]; exact zup_self _ _ _ _
  have hog2 : ∀ b j, (b ≠ p0 ∨ j ≠ 2) → g2 b j = g b j := fun b j h => by rw [hG9]; exact zup_ne h
  clear hG9
  refine z_put (g' := g2) (k := 4) (j := 2) hM hI hk0 rfl rfl hinX2 tyX2 tyX2_ok nmX2 rfl (by decide) (by decide +kernel) (fun _ h9 => h9) rfl rfl rfl rfl ⟨hsg2.symm, _, rfl⟩ hog2 dX2_runFan_15 (fun H locs hI => ?_)
  refine lv_iload_n hx hb dX2_runFan_18 rfl (lv_at hl 0 rfl) ?_
  exact W.iret (v := v) hx hb hr (fun t ht hW => ⟨⟨_, (L, κ, g2), rfl, ⟨g2, rfl, ⟨by omega, by omega⟩, hsg2, hog2⟩, z_end hK hI ht hW⟩, z_F hI ht⟩) (z_locs hI) dX2_runFan_19

set_option maxHeartbeats 4000000 in
set_option maxRecDepth 100000 in
theorem a_X6_give (l : Launch) (D : va_G) (tc : Nat → ClassId) (z0 : Nat) (L : List Nat) (κ : Nat → Nat) (g : Nat → Nat → Value) (sz : Nat) (p0 : Nat) (hk0 : κ p0 = 8) (p1 q0 u0 K0 A0 : Nat) (hK0 : zAK K0 A0) (hk1 : κ p1 = K0) (hq0 : κ q0 = A0) (hN0 : zN g p1 q0 u0) (hne : p1 ≠ p0 ∧ q0 ≠ p0) (W9 B9 O9 T9 : Int) (t9 : Nat) (ht9 : t9 ≤ 5000) (h1 : g p0 1 = .int (nI t9)) (h6 : g p0 6 = .long (Int64.ofInt W9)) (h7 : g p0 7 = .long (Int64.ofInt B9)) (h8 : g p0 8 = .long (Int64.ofInt O9)) (h9 : g p0 9 = .long (Int64.ofInt T9)) (hsum : T9 = W9 + B9 + O9) : Met l yX6_give wsX6_give ({ frames := 1, cells := 0, slots := 0, locals := 45 }) (zPc D tc z0 ([.ref p0, .ref p1] : List Value) [] (L, κ, g) sz) (va_Qv (fun (u : zS) => ∃ (g2 : Nat → Nat → Value) (W2 B2 O2 : Int) (t2 : Nat), u = (L, κ, g2) ∧ t2 ≤ 5000 ∧ g2 p0 1 = .int (nI t2) ∧ g2 p0 6 = .long (Int64.ofInt W2) ∧ g2 p0 7 = .long (Int64.ofInt B2) ∧ g2 p0 8 = .long (Int64.ofInt O2) ∧ g2 p0 9 = .long (Int64.ofInt (T9 + zV g q0)) ∧ T9 + zV g q0 = W2 + B2 + O2 ∧ ∀ b j, b ≠ p0 → g2 b j = g b j) (fun (u : zS) (t : State) => zB D tc (zA [] L sz) [] u t) (zA [] L sz)) 0 0 (zA [] L sz) := by
  refine Met.ofW (cc := cX6_give) (maxL := 7) (ret := none) (by decide) rfl ?_
  intro p e9 s m args below meth c s₁ B hml hv
  obtain ⟨rfl, rfl, hK, hE, hI⟩ := hv.opn
  have hx := B.exec
  have hb := B.bytes
  have hr := B.returns
  have hts := atoms_spec (ws := wsX6_give) B.pre
  have hown : s.vm.findClass RX6 = some m.cls := findClass_of_methodNamed B.named
  have hlocks := B.notSynchronized
  have hM : zM p s m c cX6_give _ wsX6_give RX6 D tc := ⟨hx, hb, hts, hown, hK⟩
  have hinX6 : ∀ w ∈ wsX60, w ∈ wsX6_give := by decide +kernel
  have hl := lv_entry ([.ref p0, .ref p1] : List Value) (n := 7) (Nat.le_of_ble_eq_true rfl)
  rw [lg_entry_eq]
  generalize (lg_sl ([.ref p0, .ref p1] : List Value) ++ List.replicate (7 - (lg_sl ([.ref p0, .ref p1] : List Value)).length) Slot.unset).toArray = ls at hl ⊢
  have hl : lv_has ls 7 [(0, .ref p0), (1, .ref p1)] := hl
  have hnn := hN0.toZN0.nn
  refine lv_aload_n hx hb dX6_give_0 rfl (lv_at hl 1 rfl) ?_
  refine lv_sipush (v := 10000) hx hb dX6_give_1 (by decide) ?_
  refine vp_callSi (W.runV (As := [.int 10000]) (rest := []) ⟨hx, hb, hml, hown, hts⟩ (a_X0_upTo l _ _ _ _ _ _ _ p1 q0 u0 _ _ 10000 hK0 hk1 hq0 hN0 (by decide)) (cwV 1 hts gX6_give_X0_upTo rfl rfl rfl (by decide +kernel) ⟨Nat.le_of_ble_eq_true rfl, Nat.le_of_ble_eq_true rfl⟩) (z_preV hK hE hI [] rfl rfl (z_recv hK hI hk1 hK0.1 rfl)) rfl rfl hl.1 rfl (lv_room (Nat.le_of_ble_eq_true rfl)) dX6_give_4 ⟨Nat.le_of_ble_eq_true rfl, Nat.le_of_ble_eq_true rfl⟩) (fun bd hw => ?_)
  rw [show (10000 : Int32).toInt = 10000 from rfl] at hw
  refine lv_istore_n (lv' := [(2, .int bd), (0, .ref p0), (1, .ref p1)]) hx hb dX6_give_7 rfl hl (by decide) rfl (fun ls hl => ?_)
  obtain ⟨f, hIF⟩ := hI.ex
  obtain ⟨wg, hf, hwl, hwh⟩ := z_fld hIF hk0 rfl (j := 0) (t := (5, 1000)) rfl
  have hwh : wg.toInt < 1000 := hwh
  refine lv_iload_n hx hb dX6_give_8 rfl (lv_at hl 0 rfl) ?_
  refine lv_aload_n hx hb dX6_give_9 rfl (lv_at hl 1 rfl) ?_
  refine z_getF (k := 8) (j := 0) hM hIF hk0 rfl rfl hinX6 rfl (by decide) (by decide +kernel) (fun _ h9 => h9) dX6_give_10 (fun v1 h1f hv1 => ?_)
  obtain rfl := hf.symm.trans h1f
  refine va_mmin hx hb (hml.trans hl.1.symm) hown (hts (.methodLink RX6 50 Lib.Math.min.name) (by decide +kernel)) (hts (.static Lib.Math.min.name) (by decide +kernel)) (hts (.initialized "java/lang/Math") (by decide +kernel)) (hts (.code Lib.Math.min.name Lib.Math.min.code 2 (some .int)) (by decide +kernel)) (Nat.le_of_ble_eq_true rfl) (Nat.le_of_ble_eq_true rfl) (Nat.le_of_ble_eq_true rfl) (Nat.le_of_ble_eq_true rfl) dX6_give_13 ?_
  refine lv_topi (fun fw ew => ?_)
  have hfw := wi_min ew
  refine lv_istore_n (lv' := [(3, .int fw), (2, .int bd), (0, .ref p0), (1, .ref p1)]) hx hb dX6_give_16 rfl hl (by decide) rfl (fun ls hl => ?_)
  refine lv_iload_n hx hb dX6_give_17 rfl (lv_at hl 1 rfl) ?_
  refine lv_iload_n hx hb dX6_give_18 rfl (lv_at hl 0 rfl) ?_
  refine lv_isub hx hb dX6_give_19 ?_
  refine lv_topi (fun d1 ed => ?_)
  have hd1 : d1.toInt = bd.toInt - fw.toInt := by rw [ed, wi_sub (by omega)]
  have htn : (nI t9).toInt = (t9 : Int) := nI_toInt (by omega)
  refine lv_aload_n hx hb dX6_give_20 rfl (lv_at hl 2 rfl) ?_
  refine z_get (k := 8) (j := 1) hM hI hk0 rfl rfl hinX6 rfl (by decide) (by decide +kernel) (fun _ h9 => h9) dX6_give_21 (fun v9 hv9 => ?_)
  obtain ⟨hg9, i9, rfl⟩ := hv9
  obtain rfl : nI t9 = i9 := Value.int.inj ((h1).symm.trans hg9.symm)
  clear hg9
  refine va_mmin hx hb (hml.trans hl.1.symm) hown (hts (.methodLink RX6 50 Lib.Math.min.name) (by decide +kernel)) (hts (.static Lib.Math.min.name) (by decide +kernel)) (hts (.initialized "java/lang/Math") (by decide +kernel)) (hts (.code Lib.Math.min.name Lib.Math.min.code 2 (some .int)) (by decide +kernel)) (Nat.le_of_ble_eq_true rfl) (Nat.le_of_ble_eq_true rfl) (Nat.le_of_ble_eq_true rfl) (Nat.le_of_ble_eq_true rfl) dX6_give_24 ?_
  refine lv_topi (fun fb eb => ?_)
  have hfb := wi_min eb
  refine lv_istore (lv' := [(4, .int fb), (3, .int fw), (2, .int bd), (0, .ref p0), (1, .ref p1)]) hx hb dX6_give_27 hl (by decide) rfl (fun ls hl => ?_)
  refine lv_sipush (v := 5000) hx hb dX6_give_29 (by decide) ?_
  refine lv_aload_n hx hb dX6_give_32 rfl (lv_at hl 3 rfl) ?_
  refine z_get (k := 8) (j := 1) hM hI hk0 rfl rfl hinX6 rfl (by decide) (by decide +kernel) (fun _ h9 => h9) dX6_give_33 (fun v9 hv9 => ?_)
  obtain ⟨hg9, i9, rfl⟩ := hv9
  obtain rfl : nI t9 = i9 := Value.int.inj ((h1).symm.trans hg9.symm)
  clear hg9
  refine lv_isub hx hb dX6_give_36 ?_
  refine lv_topi (fun rm er => ?_)
  have hrm : rm.toInt = 5000 - (t9 : Int) := by rw [er, wi_sub (by rw [htn, show (5000 : Int32).toInt = 5000 from rfl]; omega), htn]; rfl
  refine lv_istore (lv' := [(5, .int rm), (4, .int fb), (3, .int fw), (2, .int bd), (0, .ref p0), (1, .ref p1)]) hx hb dX6_give_37 hl (by decide) rfl (fun ls hl => ?_)
  refine lv_iload hx hb dX6_give_39 (lv_at hl 0 rfl) ?_
  refine lv_bipush (v := 30) hx hb dX6_give_41 (by decide) ?_
  refine lv_aload_n hx hb dX6_give_43 rfl (lv_at hl 4 rfl) ?_
  refine z_getF (k := 8) (j := 0) hM hIF hk0 rfl rfl hinX6 rfl (by decide) (by decide +kernel) (fun _ h9 => h9) dX6_give_44 (fun v1 h1f hv1 => ?_)
  obtain rfl := hf.symm.trans h1f
  refine lv_iload_n hx hb dX6_give_47 rfl (lv_at hl 2 rfl) ?_
  refine lv_isub hx hb dX6_give_48 ?_
  refine lv_topi (fun d2 ed2 => ?_)
  have hd2 : d2.toInt = wg.toInt - fw.toInt := by rw [ed2, wi_sub (by omega)]
  refine va_mmin hx hb (hml.trans hl.1.symm) hown (hts (.methodLink RX6 50 Lib.Math.min.name) (by decide +kernel)) (hts (.static Lib.Math.min.name) (by decide +kernel)) (hts (.initialized "java/lang/Math") (by decide +kernel)) (hts (.code Lib.Math.min.name Lib.Math.min.code 2 (some .int)) (by decide +kernel)) (Nat.le_of_ble_eq_true rfl) (Nat.le_of_ble_eq_true rfl) (Nat.le_of_ble_eq_true rfl) (Nat.le_of_ble_eq_true rfl) dX6_give_49 ?_
  refine lv_topi (fun m1 em1 => ?_)
  have hm1 := wi_min em1
  refine va_mmin hx hb (hml.trans hl.1.symm) hown (hts (.methodLink RX6 50 Lib.Math.min.name) (by decide +kernel)) (hts (.static Lib.Math.min.name) (by decide +kernel)) (hts (.initialized "java/lang/Math") (by decide +kernel)) (hts (.code Lib.Math.min.name Lib.Math.min.code 2 (some .int)) (by decide +kernel)) (Nat.le_of_ble_eq_true rfl) (Nat.le_of_ble_eq_true rfl) (Nat.le_of_ble_eq_true rfl) (Nat.le_of_ble_eq_true rfl) dX6_give_52 ?_
  refine lv_topi (fun ch ec => ?_)
  have hch := wi_min ec
  rw [show (30 : Int32).toInt = 30 from rfl] at hm1
  refine lv_istore (lv' := [(6, .int ch), (5, .int rm), (4, .int fb), (3, .int fw), (2, .int bd), (0, .ref p0), (1, .ref p1)]) hx hb dX6_give_55 hl (by decide) rfl (fun ls hl => ?_)
  rw [htn] at hfb
  have hb1 : 0 ≤ fw.toInt ∧ fw.toInt ≤ 999 ∧ 0 ≤ fb.toInt ∧ fb.toInt ≤ (t9 : Int) ∧ 0 ≤ ch.toInt ∧ ch.toInt ≤ 5000 - (t9 : Int) ∧ ch.toInt ≤ 30 := by omega
  refine lv_aload_n hx hb dX6_give_57 rfl (lv_at hl 5 rfl) ?_
  refine lv_aload_n hx hb dX6_give_58 rfl (lv_at hl 6 rfl) ?_
  refine vp_callSl (W.runV (As := []) (rest := [.ref p0]) ⟨hx, hb, hml, hown, hts⟩ (a_X0_lowBits l _ _ _ _ _ _ _ p1 q0 u0 _ _ hK0 hk1 hq0 hN0.toZN0) (cwV 0 hts gX6_give_X0_lowBits rfl rfl rfl (by decide +kernel) ⟨Nat.le_of_ble_eq_true rfl, Nat.le_of_ble_eq_true rfl⟩) (z_preV hK hE hI [] rfl rfl (z_recv hK hI hk1 hK0.1 rfl)) rfl rfl hl.1 rfl (lv_room (Nat.le_of_ble_eq_true rfl)) dX6_give_59 ⟨Nat.le_of_ble_eq_true rfl, Nat.le_of_ble_eq_true rfl⟩) (fun lb hw => ?_)
  obtain rfl := hw
  obtain ⟨ga, hG9⟩ : ∃ g9, g9 = zup g p0 3 (.long (Int64.ofInt (zV g q0))) := ⟨_, rfl⟩
  have hsga : ga p0 3 = .long (Int64.ofInt (zV g q0)) := by rw [hG9]; exact zup_self _ _ _ _
  have hoga : ∀ b j, (b ≠ p0 ∨ j ≠ 3) → ga b j = g b j := fun b j h => by rw [hG9]; exact zup_ne h
  clear hG9
  refine z_put (g' := ga) (k := 8) (j := 3) hM hI hk0 rfl rfl hinX6 tyX6 tyX6_ok nmX6 rfl (by decide) (by decide +kernel) (fun _ h9 => h9) rfl rfl rfl rfl ⟨hsga.symm, _, rfl⟩ hoga dX6_give_62 (fun H locs hI => ?_)
  refine lv_aload_n hx hb dX6_give_65 rfl (lv_at hl 5 rfl) ?_
  refine lv_aload_n hx hb dX6_give_66 rfl (lv_at hl 5 rfl) ?_
  refine z_get (k := 8) (j := 3) hM hI hk0 rfl rfl hinX6 rfl (by decide) (by decide +kernel) (fun _ h9 => h9) dX6_give_67 (fun v9 hv9 => ?_)
  obtain ⟨hg9, i9, rfl⟩ := hv9
  obtain rfl : Int64.ofInt (zV g q0) = i9 := Value.long.inj ((hsga).symm.trans hg9.symm)
  clear hg9
  refine lv_iload_n hx hb dX6_give_70 rfl (lv_at hl 3 rfl) ?_
  refine lv_i2l hx hb dX6_give_71 (w_i2l fw) ?_
  refine lv_lsub hx hb dX6_give_72 ?_
  rw [wl_sub]
  refine lv_iload hx hb dX6_give_73 (lv_at hl 2 rfl) ?_
  refine lv_i2l hx hb dX6_give_75 (w_i2l fb) ?_
  refine lv_lsub hx hb dX6_give_76 ?_
  rw [wl_sub]
  obtain ⟨gb, hG9⟩ : ∃ g9, g9 = zup ga p0 4 (.long (Int64.ofInt (zV g q0 - fw.toInt - fb.toInt))) := ⟨_, rfl⟩
  have hsgb : gb p0 4 = .long (Int64.ofInt (zV g q0 - fw.toInt - fb.toInt)) := by rw [hG9]; exact zup_self _ _ _ _
  have hogb : ∀ b j, (b ≠ p0 ∨ j ≠ 4) → gb b j = ga b j := fun b j h => by rw [hG9]; exact zup_ne h
  clear hG9
  refine z_put (g' := gb) (k := 8) (j := 4) hM hI hk0 rfl rfl hinX6 tyX6 tyX6_ok nmX6 rfl (by decide) (by decide +kernel) (fun _ h9 => h9) rfl rfl rfl rfl ⟨hsgb.symm, _, rfl⟩ hogb dX6_give_77 (fun H locs hI => ?_)
  have hB : ∀ b j, (b ≠ p0 ∨ (j ≠ 3 ∧ j ≠ 4)) → gb b j = g b j := fun b j h => by
    rcases h with h | ⟨h3, h4⟩
    · exact (hogb b j (Or.inl h)).trans (hoga b j (Or.inl h))
    · exact (hogb b j (Or.inr h4)).trans (hoga b j (Or.inr h3))
  have hL : ∀ (H : Heap) (locs : List Loc) (hI : zI D tc (zA [] L s.heap.size) s.heap [] L κ gb H locs) (ls : Array Slot) (hl : lv_has ls 7 [(6, .int ch), (5, .int rm), (4, .int fb), (3, .int fw), (2, .int bd), (0, .ref p0), (1, .ref p1)]), W p l e9 (headSpec wsX6_give ({ frames := 1, cells := 0, slots := 0, locals := 45 })).room s m ([.ref p0, .ref p1] : List Value).toArray below meth c H locs 0 0 (MQ below (va_Qv (fun (u : zS) => ∃ (g2 : Nat → Nat → Value) (W2 B2 O2 : Int) (t2 : Nat), u = (L, κ, g2) ∧ t2 ≤ 5000 ∧ g2 p0 1 = .int (nI t2) ∧ g2 p0 6 = .long (Int64.ofInt W2) ∧ g2 p0 7 = .long (Int64.ofInt B2) ∧ g2 p0 8 = .long (Int64.ofInt O2) ∧ g2 p0 9 = .long (Int64.ofInt (T9 + zV g q0)) ∧ T9 + zV g q0 = W2 + B2 + O2 ∧ ∀ b j, b ≠ p0 → g2 b j = g b j) (fun (u : zS) (t : State) => zB D tc (zA [] L s.heap.size) [] u t) (zA [] L s.heap.size)) ([.ref p0, .ref p1] : List Value).toArray s 0 0 (zA [] L s.heap.size)) (F0 m 97 ls []) := by
    intro H locs hI ls hl
    have h1b : gb p0 1 = .int (nI t9) := (hB p0 1 (Or.inr (by decide))).trans h1
    refine lv_aload_n hx hb dX6_give_97 rfl (lv_at hl 5 rfl) ?_
    refine lv_dup hx hb dX6_give_98 rfl ?_
    refine z_get (k := 8) (j := 1) hM hI hk0 rfl rfl hinX6 rfl (by decide) (by decide +kernel) (fun _ h9 => h9) dX6_give_99 (fun v9 hv9 => ?_)
    obtain ⟨hg9, i9, rfl⟩ := hv9
    obtain rfl : nI t9 = i9 := Value.int.inj ((h1b).symm.trans hg9.symm)
    clear hg9
    refine lv_iload hx hb dX6_give_102 (lv_at hl 0 rfl) ?_
    refine lv_iload hx hb dX6_give_104 (lv_at hl 2 rfl) ?_
    refine lv_isub hx hb dX6_give_106 ?_
    refine lv_topi (fun d3 ed3 => ?_)
    have hd3 : d3.toInt = ch.toInt - fb.toInt := by rw [ed3, wi_sub (by omega)]
    refine lv_iadd hx hb dX6_give_107 ?_
    refine lv_topi (fun t2 et2 => ?_)
    have ht2 : t2.toInt = (t9 : Int) + d3.toInt := by rw [et2, wi_add (by omega), htn]
    obtain ⟨t3, rfl, ht3, -⟩ := wi_nat (i := t2) (by omega)
    obtain ⟨gc, hG9⟩ : ∃ g9, g9 = zup gb p0 1 (.int (nI t3)) := ⟨_, rfl⟩
    have hsgc : gc p0 1 = .int (nI t3) := by rw [hG9]; exact zup_self _ _ _ _
    have hogc : ∀ b j, (b ≠ p0 ∨ j ≠ 1) → gc b j = gb b j := fun b j h => by rw [hG9]; exact zup_ne h
    clear hG9
    refine z_put (g' := gc) (k := 8) (j := 1) hM hI hk0 rfl rfl hinX6 tyX6 tyX6_ok nmX6 rfl (by decide) (by decide +kernel) (fun _ h9 => h9) rfl rfl rfl rfl ⟨hsgc.symm, _, rfl⟩ hogc dX6_give_108 (fun H locs hI => ?_)
    refine lv_aload_n hx hb dX6_give_111 rfl (lv_at hl 5 rfl) ?_
    refine lv_dup hx hb dX6_give_112 rfl ?_
    refine z_get (k := 8) (j := 6) hM hI hk0 rfl rfl hinX6 rfl (by decide) (by decide +kernel) (fun _ h9 => h9) dX6_give_113 (fun v9 hv9 => ?_)
    obtain ⟨hg9, i9, rfl⟩ := hv9
    obtain rfl : Int64.ofInt W9 = i9 := Value.long.inj (((hogc p0 6 (Or.inr (by decide))).trans ((hB p0 6 (Or.inr (by decide))).trans h6)).symm.trans hg9.symm)
    clear hg9
    refine lv_iload_n hx hb dX6_give_116 rfl (lv_at hl 3 rfl) ?_
    refine lv_iload hx hb dX6_give_117 (lv_at hl 0 rfl) ?_
    refine lv_iadd hx hb dX6_give_119 ?_
    refine lv_topi (fun d4 ed4 => ?_)
    have hd4 : d4.toInt = fw.toInt + ch.toInt := by rw [ed4, wi_add (by omega)]
    refine lv_i2l hx hb dX6_give_120 (w_i2l d4) ?_
    refine lv_ladd hx hb dX6_give_121 ?_
    rw [wl_add]
    obtain ⟨gd, hG9⟩ : ∃ g9, g9 = zup gc p0 6 (.long (Int64.ofInt (W9 + d4.toInt))) := ⟨_, rfl⟩
    have hsgd : gd p0 6 = .long (Int64.ofInt (W9 + d4.toInt)) := by rw [hG9]; exact zup_self _ _ _ _
    have hogd : ∀ b j, (b ≠ p0 ∨ j ≠ 6) → gd b j = gc b j := fun b j h => by rw [hG9]; exact zup_ne h
    clear hG9
    refine z_put (g' := gd) (k := 8) (j := 6) hM hI hk0 rfl rfl hinX6 tyX6 tyX6_ok nmX6 rfl (by decide) (by decide +kernel) (fun _ h9 => h9) rfl rfl rfl rfl ⟨hsgd.symm, _, rfl⟩ hogd dX6_give_122 (fun H locs hI => ?_)
    refine lv_aload_n hx hb dX6_give_125 rfl (lv_at hl 5 rfl) ?_
    refine lv_dup hx hb dX6_give_126 rfl ?_
    refine z_get (k := 8) (j := 7) hM hI hk0 rfl rfl hinX6 rfl (by decide) (by decide +kernel) (fun _ h9 => h9) dX6_give_127 (fun v9 hv9 => ?_)
    obtain ⟨hg9, i9, rfl⟩ := hv9
    obtain rfl : Int64.ofInt B9 = i9 := Value.long.inj (((hogd p0 7 (Or.inr (by decide))).trans ((hogc p0 7 (Or.inr (by decide))).trans ((hB p0 7 (Or.inr (by decide))).trans h7))).symm.trans hg9.symm)
    clear hg9
    refine lv_iload hx hb dX6_give_130 (lv_at hl 2 rfl) ?_
    refine lv_iload hx hb dX6_give_132 (lv_at hl 0 rfl) ?_
    refine lv_isub hx hb dX6_give_134 ?_
    refine lv_topi (fun d5 ed5 => ?_)
    have hd5 : d5.toInt = fb.toInt - ch.toInt := by rw [ed5, wi_sub (by omega)]
    refine lv_i2l hx hb dX6_give_135 (w_i2l d5) ?_
    refine lv_ladd hx hb dX6_give_136 ?_
    rw [wl_add]
    obtain ⟨ge, hG9⟩ : ∃ g9, g9 = zup gd p0 7 (.long (Int64.ofInt (B9 + d5.toInt))) := ⟨_, rfl⟩
    have hsge : ge p0 7 = .long (Int64.ofInt (B9 + d5.toInt)) := by rw [hG9]; exact zup_self _ _ _ _
    have hoge : ∀ b j, (b ≠ p0 ∨ j ≠ 7) → ge b j = gd b j := fun b j h => by rw [hG9]; exact zup_ne h
    clear hG9
    refine z_put (g' := ge) (k := 8) (j := 7) hM hI hk0 rfl rfl hinX6 tyX6 tyX6_ok nmX6 rfl (by decide) (by decide +kernel) (fun _ h9 => h9) rfl rfl rfl rfl ⟨hsge.symm, _, rfl⟩ hoge dX6_give_137 (fun H locs hI => ?_)
    have hE4 : ∀ j, j ≠ 1 → j ≠ 6 → j ≠ 7 → ge p0 j = gb p0 j := fun j e1 e6 e7 => (hoge p0 j (Or.inr e7)).trans ((hogd p0 j (Or.inr e6)).trans (hogc p0 j (Or.inr e1)))
    have hEb : ∀ b j, b ≠ p0 → ge b j = g b j := fun b j h => (hoge b j (Or.inl h)).trans ((hogd b j (Or.inl h)).trans ((hogc b j (Or.inl h)).trans (hB b j (Or.inl h))))
    refine lv_aload_n hx hb dX6_give_140 rfl (lv_at hl 5 rfl) ?_
    refine lv_dup hx hb dX6_give_141 rfl ?_
    refine z_get (k := 8) (j := 8) hM hI hk0 rfl rfl hinX6 rfl (by decide) (by decide +kernel) (fun _ h9 => h9) dX6_give_142 (fun v9 hv9 => ?_)
    obtain ⟨hg9, i9, rfl⟩ := hv9
    obtain rfl : Int64.ofInt O9 = i9 := Value.long.inj (((hE4 8 (by decide) (by decide) (by decide)).trans ((hB p0 8 (Or.inr (by decide))).trans h8)).symm.trans hg9.symm)
    clear hg9
    refine lv_aload_n hx hb dX6_give_145 rfl (lv_at hl 5 rfl) ?_
    refine z_get (k := 8) (j := 4) hM hI hk0 rfl rfl hinX6 rfl (by decide) (by decide +kernel) (fun _ h9 => h9) dX6_give_146 (fun v9 hv9 => ?_)
    obtain ⟨hg9, i9, rfl⟩ := hv9
    obtain rfl : Int64.ofInt (zV g q0 - fw.toInt - fb.toInt) = i9 := Value.long.inj (((hE4 4 (by decide) (by decide) (by decide)).trans hsgb).symm.trans hg9.symm)
    clear hg9
    refine lv_ladd hx hb dX6_give_149 ?_
    rw [wl_add]
    obtain ⟨gf, hG9⟩ : ∃ g9, g9 = zup ge p0 8 (.long (Int64.ofInt (O9 + (zV g q0 - fw.toInt - fb.toInt)))) := ⟨_, rfl⟩
    have hsgf : gf p0 8 = .long (Int64.ofInt (O9 + (zV g q0 - fw.toInt - fb.toInt))) := by rw [hG9]; exact zup_self _ _ _ _
    have hogf : ∀ b j, (b ≠ p0 ∨ j ≠ 8) → gf b j = ge b j := fun b j h => by rw [hG9]; exact zup_ne h
    clear hG9
    refine z_put (g' := gf) (k := 8) (j := 8) hM hI hk0 rfl rfl hinX6 tyX6 tyX6_ok nmX6 rfl (by decide) (by decide +kernel) (fun _ h9 => h9) rfl rfl rfl rfl ⟨hsgf.symm, _, rfl⟩ hogf dX6_give_150 (fun H locs hI => ?_)
    refine lv_aload_n hx hb dX6_give_153 rfl (lv_at hl 5 rfl) ?_
    refine lv_dup hx hb dX6_give_154 rfl ?_
    refine z_get (k := 8) (j := 9) hM hI hk0 rfl rfl hinX6 rfl (by decide) (by decide +kernel) (fun _ h9 => h9) dX6_give_155 (fun v9 hv9 => ?_)
    obtain ⟨hg9, i9, rfl⟩ := hv9
    obtain rfl : Int64.ofInt T9 = i9 := Value.long.inj (((hogf p0 9 (Or.inr (by decide))).trans ((hE4 9 (by decide) (by decide) (by decide)).trans ((hB p0 9 (Or.inr (by decide))).trans h9))).symm.trans hg9.symm)
    clear hg9
    refine lv_aload_n hx hb dX6_give_158 rfl (lv_at hl 5 rfl) ?_
    refine z_get (k := 8) (j := 3) hM hI hk0 rfl rfl hinX6 rfl (by decide) (by decide +kernel) (fun _ h9 => h9) dX6_give_159 (fun v9 hv9 => ?_)
    obtain ⟨hg9, i9, rfl⟩ := hv9
    obtain rfl : Int64.ofInt (zV g q0) = i9 := Value.long.inj (((hogf p0 3 (Or.inr (by decide))).trans ((hE4 3 (by decide) (by decide) (by decide)).trans ((hogb p0 3 (Or.inr (by decide))).trans hsga))).symm.trans hg9.symm)
    clear hg9
    refine lv_ladd hx hb dX6_give_162 ?_
    rw [wl_add]
    obtain ⟨gh, hG9⟩ : ∃ g9, g9 = zup gf p0 9 (.long (Int64.ofInt (T9 + zV g q0))) := ⟨_, rfl⟩
    have hsgh : gh p0 9 = .long (Int64.ofInt (T9 + zV g q0)) := by rw [hG9]; exact zup_self _ _ _ _
    have hogh : ∀ b j, (b ≠ p0 ∨ j ≠ 9) → gh b j = gf b j := fun b j h => by rw [hG9]; exact zup_ne h
    clear hG9
    refine z_put (g' := gh) (k := 8) (j := 9) hM hI hk0 rfl rfl hinX6 tyX6 tyX6_ok nmX6 rfl (by decide) (by decide +kernel) (fun _ h9 => h9) rfl rfl rfl rfl ⟨hsgh.symm, _, rfl⟩ hogh dX6_give_163 (fun H locs hI => ?_)
    refine lv_aload_n hx hb dX6_give_166 rfl (lv_at hl 5 rfl) ?_
    refine lv_iconst (v := 0) hx hb dX6_give_167 (by decide) ?_
    refine lv_sipush (v := 600) hx hb dX6_give_168 (by decide) ?_
    refine lv_aload_n hx hb dX6_give_171 rfl (lv_at hl 5 rfl) ?_
    refine z_get (k := 8) (j := 2) hM hI hk0 rfl rfl hinX6 rfl (by decide) (by decide +kernel) (fun _ h9 => h9) dX6_give_172 (fun v9 hv9 => ?_)
    obtain ⟨i9, rfl⟩ := hv9
    refine lv_bipush (v := 60) hx hb dX6_give_175 (by decide) ?_
    refine lv_iadd hx hb dX6_give_177 ?_
    refine lv_iload_n hx hb dX6_give_178 rfl (lv_at hl 4 rfl) ?_
    refine lv_isub hx hb dX6_give_179 ?_
    refine va_mmin hx hb (hml.trans hl.1.symm) hown (hts (.methodLink RX6 50 Lib.Math.min.name) (by decide +kernel)) (hts (.static Lib.Math.min.name) (by decide +kernel)) (hts (.initialized "java/lang/Math") (by decide +kernel)) (hts (.code Lib.Math.min.name Lib.Math.min.code 2 (some .int)) (by decide +kernel)) (Nat.le_of_ble_eq_true rfl) (Nat.le_of_ble_eq_true rfl) (Nat.le_of_ble_eq_true rfl) (Nat.le_of_ble_eq_true rfl) dX6_give_180 ?_
    refine va_mmax hx hb (hml.trans hl.1.symm) hown (hts (.methodLink RX6 60 Lib.Math.max.name) (by decide +kernel)) (hts (.static Lib.Math.max.name) (by decide +kernel)) (hts (.initialized "java/lang/Math") (by decide +kernel)) (hts (.code Lib.Math.max.name Lib.Math.max.code 2 (some .int)) (by decide +kernel)) (Nat.le_of_ble_eq_true rfl) (Nat.le_of_ble_eq_true rfl) (Nat.le_of_ble_eq_true rfl) (Nat.le_of_ble_eq_true rfl) dX6_give_183 ?_
    refine lv_topi (fun pu9 _ => ?_)
    refine z_put (g' := gh) (k := 8) (j := 2) hM hI hk0 rfl rfl hinX6 tyX6 tyX6_ok nmX6 rfl (by decide) (by decide +kernel) (fun _ h9 => h9) rfl rfl rfl rfl ⟨_, rfl⟩ (fun _ _ _ => rfl) dX6_give_186 (fun H locs hI => ?_)
    exact W.vret hx hb hr (fun t ht hW => ⟨⟨(L, κ, gh), rfl, ⟨gh, W9 + d4.toInt, B9 + d5.toInt, O9 + (zV g q0 - fw.toInt - fb.toInt), t3, rfl, by omega, (hogh p0 1 (Or.inr (by decide))).trans ((hogf p0 1 (Or.inr (by decide))).trans ((hoge p0 1 (Or.inr (by decide))).trans ((hogd p0 1 (Or.inr (by decide))).trans hsgc))), (hogh p0 6 (Or.inr (by decide))).trans ((hogf p0 6 (Or.inr (by decide))).trans ((hoge p0 6 (Or.inr (by decide))).trans hsgd)), (hogh p0 7 (Or.inr (by decide))).trans ((hogf p0 7 (Or.inr (by decide))).trans hsge), (hogh p0 8 (Or.inr (by decide))).trans hsgf, hsgh, by omega, fun b j h => (hogh b j (Or.inl h)).trans ((hogf b j (Or.inl h)).trans (hEb b j h))⟩, z_end hK hI ht hW⟩, z_F hI ht⟩) (z_locs hI) dX6_give_189
  refine lv_aload_n hx hb dX6_give_80 rfl (lv_at hl 5 rfl) ?_
  refine lv_iload_n hx hb dX6_give_81 rfl (lv_at hl 4 rfl) ?_
  refine lv_iload_n hx hb dX6_give_82 rfl (lv_at hl 3 rfl) ?_
  refine lv_iload hx hb dX6_give_83 (lv_at hl 2 rfl) ?_
  refine lv_iadd hx hb dX6_give_85 ?_
  refine lv_icmp_le (tgt := 93) hx hb dX6_give_86 (by decide) (fun c1 => ?_) (fun c1 => ?_)
  · skip
    refine lv_iconst (v := 0) hx hb dX6_give_93 (by decide) ?_
    refine z_put (g' := gb) (k := 8) (j := 5) hM hI hk0 rfl rfl hinX6 tyX6 tyX6_ok nmX6 rfl (by decide) (by decide +kernel) (fun _ h9 => h9) rfl rfl (by decide) (by decide) (Or.inl rfl) (fun _ _ _ => rfl) dX6_give_94 (fun H locs hI => ?_)
    exact hL _ _ hI _ hl
  · skip
    refine lv_iconst (v := 1) hx hb dX6_give_89 (by decide) ?_
    refine lv_goto (tgt := 94) hx hb dX6_give_90 (by decide) ?_
    refine z_put (g' := gb) (k := 8) (j := 5) hM hI hk0 rfl rfl hinX6 tyX6 tyX6_ok nmX6 rfl (by decide) (by decide +kernel) (fun _ h9 => h9) rfl rfl (by decide) (by decide) (Or.inr rfl) (fun _ _ _ => rfl) dX6_give_94 (fun H locs hI => ?_)
    exact hL _ _ hI _ hl
