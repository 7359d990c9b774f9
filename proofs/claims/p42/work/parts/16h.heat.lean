set_option maxHeartbeats 4000000 in
set_option maxRecDepth 100000 in
theorem a_X8_heatCores (l : Launch) (D : va_G) (tc : Nat → ClassId) (z0 : Nat) (L : List Nat) (κ : Nat → Nat) (g : Nat → Nat → Value) (sz : Nat) (P cf b a q : Nat → Nat) (n : Nat) (hS : zShp κ g P cf b a q n) (hB : zV g (q 0) + zHs g q n < 4294967296 ^ 15 * 1048576) (hH9 : zHt g q n) : Met l yX8_heatCores wsX8_heatCores ({ frames := 6, cells := 0, slots := 0, locals := 130 }) (zPc D tc z0 ([.ref (P 0)] : List Value) [] (L, κ, g) sz) (va_Qv (fun (u : zS) => ∃ g2 : Nat → Nat → Value, u = (L, κ, g2) ∧ zHC κ g g2 a q n 6) (fun (u : zS) (t : State) => zB D tc (zA [] L sz) [] u t) (zA [] L sz)) 0 0 (zA [] L sz) := by
  refine Met.ofW (cc := cX8_heatCores) (maxL := 6) (ret := none) (by decide) rfl ?_
  intro p e9 s m args below meth c s₁ B hml hv
  obtain ⟨rfl, rfl, hK, hE, hI⟩ := hv.opn
  have hx := B.exec
  have hb := B.bytes
  have hr := B.returns
  have hts := atoms_spec (ws := wsX8_heatCores) B.pre
  have hown : s.vm.findClass RX8 = some m.cls := findClass_of_methodNamed B.named
  have hlocks := B.notSynchronized
  have hM : zM p s m c cX8_heatCores _ wsX8_heatCores RX8 D tc := ⟨hx, hb, hts, hown, hK⟩
  have hinX8 : ∀ w ∈ wsX80, w ∈ wsX8_heatCores := by decide +kernel
  have hl := lv_entry ([.ref (P 0)] : List Value) (n := 6) (Nat.le_of_ble_eq_true rfl)
  rw [lg_entry_eq]
  generalize (lg_sl ([.ref (P 0)] : List Value) ++ List.replicate (6 - (lg_sl ([.ref (P 0)] : List Value)).length) Slot.unset).toArray = ls at hl ⊢
  have hl : lv_has ls 6 [(0, .ref (P 0))] := hl
  have hinX1 : ∀ w ∈ wsX10, w ∈ wsX8_heatCores := by decide +kernel
  have hinX3 : ∀ w ∈ wsX30, w ∈ wsX8_heatCores := by decide +kernel
  have hinX0 : ∀ w ∈ wsX00, w ∈ wsX8_heatCores := by decide +kernel
  have hn6 := hS.n6
  have hpos : ∀ j, j < n → 0 ≤ zV g (q (5 + 2 * j)) := fun j hj => hS.af.nn (by omega)
  have h0pos : 0 ≤ zV g (q 0) := hS.af.nn (by omega)
  obtain ⟨⟨k0, k1, -⟩, ⟨l1, -, -, -, -, l6, l7⟩, -⟩ := id hS
  refine lv_aload_n hx hb dX8_heatCores_0 rfl (lv_at hl 0 rfl) ?_
  refine z_get (k := 10) (j := 6) hM hI k0 rfl rfl hinX8 rfl (by decide) (by decide +kernel) (fun _ h9 => h9) dX8_heatCores_1 (fun v9 hv9 => ?_)
  obtain ⟨hg9, r9, rfl, -⟩ := hv9
  obtain rfl : (a 3) = r9 := Value.ref.inj ((l6).symm.trans hg9.symm)
  clear hg9
  refine lv_iconst (v := 0) hx hb dX8_heatCores_4 (by decide) ?_
  obtain ⟨hkk1, hqk1, uk1, hnk1⟩ := hS.af.1 3 (by omega)
  refine z_cv hI (va_runV (As := [.int 0]) (rest := []) ⟨hx, hb, hml, hown, hts⟩ (a_X0_become l _ _ _ _ _ _ _ (a 3) (q 3) uk1 _ _ 0 (kx_ok 3) hkk1 hqk1 hnk1.toZN0 (by decide)) (cwV 1 hts gX8_heatCores_X0_become rfl rfl rfl (by decide +kernel) ⟨Nat.le_of_ble_eq_true rfl, Nat.le_of_ble_eq_true rfl⟩) (z_preV hK hE hI [] rfl rfl (z_recv hK hI hkk1 (kx_ok 3).1 rfl)) rfl rfl hl.1 rfl (lv_room (Nat.le_of_ble_eq_true rfl)) dX8_heatCores_5 ⟨Nat.le_of_ble_eq_true rfl, Nat.le_of_ble_eq_true rfl⟩) (fun u H locs hw hI => ?_)
  obtain ⟨g0, rfl, AFg0, hvg0, hog0, hQg0⟩ := hS.af.am (by omega) hw
  have hS0 := hS.q hQg0 AFg0
  rw [show (0 : Int32).toInt = 0 from rfl] at hvg0
  have hC0 : zHC κ g g0 a q n 0 := ⟨AFg0, hQg0, fun y hy => hog0 y (by omega) (by omega), fun j hj _ => ⟨hog0 _ (by omega) (by omega), hog0 _ (by omega) (by omega)⟩, fun j _ hj => absurd hj (Nat.not_lt_zero _), by rw [hvg0, Int.add_zero]; exact zSm_congr (fun j hj => hog0 _ (by omega) (by omega)), by rw [hvg0, show min 0 n = 0 by omega]; exact (by decide : (100000 * 0 : Int) ≤ 2944 * 0 + 41200000 * ((0 : Nat) : Int))⟩
  refine lv_aload_n hx hb dX8_heatCores_8 rfl (lv_at hl 0 rfl) ?_
  refine z_get (k := 10) (j := 1) hM hI k0 rfl rfl hinX8 rfl (by decide) (by decide +kernel) (fun _ h9 => h9) dX8_heatCores_9 (fun v9 hv9 => ?_)
  obtain ⟨hg9, r9, rfl, -⟩ := hv9
  obtain rfl : (P 1) = r9 := Value.ref.inj ((hS0.2.1.1).symm.trans hg9.symm)
  clear hg9
  refine lv_astore_n (lv' := [(1, .ref (P 1)), (0, .ref (P 0))]) hx hb dX8_heatCores_12 rfl hl (by decide) rfl (fun ls hl => ?_)
  refine lv_aload_n hx hb dX8_heatCores_13 rfl (lv_at hl 0 rfl) ?_
  refine z_alen (v := 6) hM hI k1 rfl rfl rfl (by decide) dX8_heatCores_14 ?_
  refine lv_istore_n (lv' := [(2, .int 6), (1, .ref (P 1)), (0, .ref (P 0))]) hx hb dX8_heatCores_15 rfl hl (by decide) rfl (fun ls hl => ?_)
  refine lv_iconst (v := 0) hx hb dX8_heatCores_16 (by decide) ?_
  refine lv_istore_n (lv' := [(3, .int 0), (2, .int 6), (1, .ref (P 1)), (0, .ref (P 0))]) hx hb dX8_heatCores_17 rfl hl (by decide) rfl (fun ls hl => ?_)
  have hL : ∀ (n9 : Nat) (H : Heap) (locs : List Loc) (gk : Nat → Nat → Value) (i : Nat) (hn : 6 - i < n9) (hi : i ≤ 6) (hSk : zShp κ gk P cf b a q n) (hC : zHC κ g gk a q n i) (hI : zI D tc (zA [] L s.heap.size) s.heap [] L κ gk H locs) (ls : Array Slot) (hl : lv_has ls 6 [(3, .int (nI i)), (2, .int 6), (1, .ref (P 1)), (0, .ref (P 0))]), W p l e9 (headSpec wsX8_heatCores ({ frames := 6, cells := 0, slots := 0, locals := 130 })).room s m ([.ref (P 0)] : List Value).toArray below meth c H locs 0 0 (MQ below (va_Qv (fun (u : zS) => ∃ g2 : Nat → Nat → Value, u = (L, κ, g2) ∧ zHC κ g g2 a q n 6) (fun (u : zS) (t : State) => zB D tc (zA [] L s.heap.size) [] u t) (zA [] L s.heap.size)) ([.ref (P 0)] : List Value).toArray s 0 0 (zA [] L s.heap.size)) (F0 m 18 ls []) := by
    intro n9
    induction n9 with
    | zero => intro H locs gk i hn; exact absurd hn (Nat.not_lt_zero _)
    | succ n9 ih =>
      intro H locs gk i hn hi hSk hC hI ls hl
      obtain ⟨⟨-, k1, -⟩, ⟨-, -, -, -, -, l6, l7⟩, -⟩ := id hSk
      have hAk := hSk.af
      refine lv_iload_n hx hb dX8_heatCores_18 rfl (lv_at hl 0 rfl) ?_
      refine lv_iload_n hx hb dX8_heatCores_19 rfl (lv_at hl 1 rfl) ?_
      refine lv_icmp_ge (tgt := 110) hx hb dX8_heatCores_20 (by decide) (fun c1 => ?_) (fun c1 => ?_)
      · have hi2 : i = 6 := Nat.le_antisymm hi (z_ge (a := i) (b := 6) (by omega) (by omega) c1)
        subst hi2
        exact W.vret hx hb hr (fun t ht hW => ⟨⟨(L, κ, gk), rfl, ⟨gk, rfl, hC⟩, z_end hK hI ht hW⟩, z_F hI ht⟩) (z_locs hI) dX8_heatCores_110
      · have hi2 : i < 6 := z_lt (b := 6) (by omega) c1
        refine lv_aload_n hx hb dX8_heatCores_23 rfl (lv_at hl 2 rfl) ?_
        refine lv_iload_n hx hb dX8_heatCores_24 rfl (lv_at hl 0 rfl) ?_
        refine z_aald hM hI k1 rfl rfl rfl (vp_in_nI (show i < 6 by omega) (by omega)) dX8_heatCores_25 (fun x hx9 => ?_)
        obtain ⟨hx9, -⟩ := hx9
        rw [nI_clamp (by omega)] at hx9
        by_cases hin : i < n
        · obtain ⟨kc, kb, h3, h15, hb1, hb2⟩ := hSk.co hin
          rw [hx9.trans h3]
          refine lv_astore (lv' := [(4, .ref (cf i)), (3, .int (nI i)), (2, .int 6), (1, .ref (P 1)), (0, .ref (P 0))]) hx hb dX8_heatCores_26 hl (by decide) rfl (fun ls hl => ?_)
          refine lv_aload hx hb dX8_heatCores_28 (lv_at hl 0 rfl) ?_
          refine lv_ifnull hx hb dX8_heatCores_30 ?_
          obtain ⟨c1, c2, c3, c4, c5, c6, c7⟩ := id hC
          obtain ⟨e5, e6⟩ := c4 i hin (Nat.le_refl i)
          have hdeg := (hH9.2 i hin).1
          have hle : zV g (q (5 + 2 * i)) ≤ zHs g q n := zSm_le (f := fun j => zV g (q (5 + 2 * j))) hpos hin
          have hpi := hpos i hin
          have hpart : zHs g q (min i n) ≤ zHs g q n := zSm_part hpos (by omega)
          have h3nn := hAk.nn (x := 3) (by omega)
          have hi5 : (i : Int) ≤ 5 := by omega
          refine lv_aload hx hb dX8_heatCores_33 (lv_at hl 0 rfl) ?_
          refine vp_callSi (W.runV (As := []) (rest := []) ⟨hx, hb, hml, hown, hts⟩ (c_X3_powerOfSpeed l _ _ _ _ _ _ _ (cf i) kc) (cwV 0 hts gX8_heatCores_X3_powerOfSpeed rfl rfl rfl (by decide +kernel) ⟨Nat.le_of_ble_eq_true rfl, Nat.le_of_ble_eq_true rfl⟩) (z_preV hK hE hI [] rfl rfl (z_recv hK hI kc rfl rfl)) rfl rfl hl.1 rfl (lv_room (Nat.le_of_ble_eq_true rfl)) dX8_heatCores_35 ⟨Nat.le_of_ble_eq_true rfl, Nat.le_of_ble_eq_true rfl⟩) (fun v8 hw => ?_)
          obtain ⟨hpl, hph⟩ := hw
          refine lv_istore (lv' := [(5, .int v8), (4, .ref (cf i)), (3, .int (nI i)), (2, .int 6), (1, .ref (P 1)), (0, .ref (P 0))]) hx hb dX8_heatCores_38 hl (by decide) rfl (fun ls hl => ?_)
          refine lv_aload hx hb dX8_heatCores_40 (lv_at hl 1 rfl) ?_
          refine lv_aload_n hx hb dX8_heatCores_42 rfl (lv_at hl 5 rfl) ?_
          refine z_get (k := 10) (j := 7) hM hI k0 rfl rfl hinX8 rfl (by decide) (by decide +kernel) (fun _ h9 => h9) dX8_heatCores_43 (fun v9 hv9 => ?_)
          obtain ⟨hg9, r9, rfl, -⟩ := hv9
          obtain rfl : (a 4) = r9 := Value.ref.inj ((l7).symm.trans hg9.symm)
          clear hg9
          refine z_cv hI (va_runV (As := [.ref (a 4)]) (rest := []) ⟨hx, hb, hml, hown, hts⟩ (a_X3_tellLeak l _ _ _ _ _ _ _ (cf i) kc a q (5 + 2 * n) hAk (6 + 2 * i) (by omega) (by omega) (by omega) (kx_d i) (b i) h15 hb2 (by omega)) (cwV 1 hts gX8_heatCores_X3_tellLeak rfl rfl rfl (by decide +kernel) ⟨Nat.le_of_ble_eq_true rfl, Nat.le_of_ble_eq_true rfl⟩) (z_preV hK hE hI [] rfl rfl (z_recv hK hI kc rfl rfl)) rfl rfl hl.1 rfl (lv_room (Nat.le_of_ble_eq_true rfl)) dX8_heatCores_46 ⟨Nat.le_of_ble_eq_true rfl, Nat.le_of_ble_eq_true rfl⟩) (fun u H locs hw hI => ?_)
          obtain ⟨lk, hlk0, hlk1, g1, rfl, AFg1, hvg1, hog1, hQg1⟩ := hw
          rw [e6, hdeg] at hlk1
          have hSg1 := hSk.q hQg1 AFg1
          obtain ⟨-, ⟨-, -, -, -, -, m6g1, m7g1⟩, -⟩ := id hSg1
          obtain ⟨-, -, -, h15g1, hb1g1, hb2g1⟩ := hSg1.co hin
          have w5 := hog1 (5 + 2 * i) (by omega) (by omega)
          have w3 := hog1 3 (by omega) (by omega)
          refine lv_aload hx hb dX8_heatCores_49 (lv_at hl 1 rfl) ?_
          refine z_get (k := 5) (j := 15) hM hI kc rfl rfl hinX3 rfl (by decide) (by decide +kernel) (fun _ h9 => h9) dX8_heatCores_51 (fun v9 hv9 => ?_)
          obtain ⟨hg9, r9, rfl, -⟩ := hv9
          obtain rfl : (b i) = r9 := Value.ref.inj ((h15g1).symm.trans hg9.symm)
          clear hg9
          refine lv_aload_n hx hb dX8_heatCores_54 rfl (lv_at hl 5 rfl) ?_
          refine z_get (k := 10) (j := 7) hM hI k0 rfl rfl hinX8 rfl (by decide) (by decide +kernel) (fun _ h9 => h9) dX8_heatCores_55 (fun v9 hv9 => ?_)
          obtain ⟨hg9, r9, rfl, -⟩ := hv9
          obtain rfl : (a 4) = r9 := Value.ref.inj ((m7g1).symm.trans hg9.symm)
          clear hg9
          obtain ⟨hkk2, hqk2, uk2, hnk2⟩ := AFg1.1 (5 + 2 * i) (by omega)
          obtain ⟨hkk3, hqk3, uk3, hnk3⟩ := AFg1.1 (6 + 2 * i) (by omega)
          obtain ⟨hkk4, hqk4, uk4, hnk4⟩ := AFg1.1 4 (by omega)
          refine z_cv hI (va_runV (As := [.ref (a 4)]) (rest := []) ⟨hx, hb, hml, hown, hts⟩ (a_X1_gain l _ _ _ _ _ _ _ (b i) 3 32 33 20 rfl (by decide) kb (a (5 + 2 * i)) (q (5 + 2 * i)) uk2 _ _ (a (6 + 2 * i)) (q (6 + 2 * i)) uk3 _ _ (a 4) (q 4) uk4 _ _ hb1g1 hb2g1 (kx_h _).symm (kx_d _).symm (kx_ok (5 + 2 * i)) hkk2 hqk2 hnk2 (kx_ok (6 + 2 * i)) hkk3 hqk3 hnk3 (kx_ok 4) hkk4 hqk4 hnk4 (AFg1.2 4 (5 + 2 * i) (by omega) (by omega) (by omega)).1 (AFg1.2 4 (5 + 2 * i) (by omega) (by omega) (by omega)).2 (AFg1.2 (6 + 2 * i) (5 + 2 * i) (by omega) (by omega) (by omega)).1 (AFg1.2 (6 + 2 * i) (5 + 2 * i) (by omega) (by omega) (by omega)).2 (by omega)) (cwV 1 hts gX8_heatCores_X1_gain rfl rfl rfl (by decide +kernel) ⟨Nat.le_of_ble_eq_true rfl, Nat.le_of_ble_eq_true rfl⟩) (z_preV hK hE hI [] rfl rfl (z_recv hK hI kb rfl rfl)) rfl rfl hl.1 rfl (lv_room (Nat.le_of_ble_eq_true rfl)) dX8_heatCores_58 ⟨Nat.le_of_ble_eq_true rfl, Nat.le_of_ble_eq_true rfl⟩) (fun u H locs hw hI => ?_)
          obtain ⟨g2, rfl, AFg2, hvg2, hdg2, hog2, hQg2⟩ := AFg1.bm (by omega) (by omega) (by omega) hw
          have hSg2 := hSg1.q hQg2 AFg2
          obtain ⟨-, ⟨-, -, -, -, -, m6g2, m7g2⟩, -⟩ := id hSg2
          obtain ⟨-, -, -, h15g2, hb1g2, hb2g2⟩ := hSg2.co hin
          have x3 := hog2 3 (by omega) (by omega) (by omega)
          have x4 := hog2 4 (by omega) (by omega) (by omega)
          refine lv_aload_n hx hb dX8_heatCores_61 rfl (lv_at hl 5 rfl) ?_
          refine z_get (k := 10) (j := 6) hM hI k0 rfl rfl hinX8 rfl (by decide) (by decide +kernel) (fun _ h9 => h9) dX8_heatCores_62 (fun v9 hv9 => ?_)
          obtain ⟨hg9, r9, rfl, -⟩ := hv9
          obtain rfl : (a 3) = r9 := Value.ref.inj ((m6g2).symm.trans hg9.symm)
          clear hg9
          refine lv_aload_n hx hb dX8_heatCores_65 rfl (lv_at hl 5 rfl) ?_
          refine z_get (k := 10) (j := 7) hM hI k0 rfl rfl hinX8 rfl (by decide) (by decide +kernel) (fun _ h9 => h9) dX8_heatCores_66 (fun v9 hv9 => ?_)
          obtain ⟨hg9, r9, rfl, -⟩ := hv9
          obtain rfl : (a 4) = r9 := Value.ref.inj ((m7g2).symm.trans hg9.symm)
          clear hg9
          obtain ⟨hkk5, hqk5, uk5, hnk5⟩ := AFg2.1 3 (by omega)
          obtain ⟨hkk6, hqk6, uk6, hnk6⟩ := AFg2.1 4 (by omega)
          refine z_cv hI (va_runV (As := [.ref (a 4)]) (rest := []) ⟨hx, hb, hml, hown, hts⟩ (a_X0_add l _ _ _ _ _ _ _ (a 3) (q 3) uk5 _ _ (a 4) (q 4) uk6 _ _  (kx_ok 3) hkk5 hqk5 hnk5.toZN0 (kx_ok 4) hkk6 hqk6 hnk6.toZN0 (AFg2.2 4 3 (by omega) (by omega) (by omega)).1 (AFg2.2 4 3 (by omega) (by omega) (by omega)).2 (by omega)) (cwV 1 hts gX8_heatCores_X0_add rfl rfl rfl (by decide +kernel) ⟨Nat.le_of_ble_eq_true rfl, Nat.le_of_ble_eq_true rfl⟩) (z_preV hK hE hI [] rfl rfl (z_recv hK hI hkk5 (kx_ok 3).1 rfl)) rfl rfl hl.1 rfl (lv_room (Nat.le_of_ble_eq_true rfl)) dX8_heatCores_69 ⟨Nat.le_of_ble_eq_true rfl, Nat.le_of_ble_eq_true rfl⟩) (fun u H locs hw hI => ?_)
          obtain ⟨g3, rfl, AFg3, hvg3, hog3, hQg3⟩ := AFg2.am (by omega) hw
          have hSg3 := hSg2.q hQg3 AFg3
          obtain ⟨-, ⟨-, -, -, -, -, m6g3, m7g3⟩, -⟩ := id hSg3
          obtain ⟨-, -, -, h15g3, hb1g3, hb2g3⟩ := hSg3.co hin
          have y5 := hog3 (5 + 2 * i) (by omega) (by omega)
          refine lv_aload_n hx hb dX8_heatCores_72 rfl (lv_at hl 5 rfl) ?_
          refine z_get (k := 10) (j := 7) hM hI k0 rfl rfl hinX8 rfl (by decide) (by decide +kernel) (fun _ h9 => h9) dX8_heatCores_73 (fun v9 hv9 => ?_)
          obtain ⟨hg9, r9, rfl, -⟩ := hv9
          obtain rfl : (a 4) = r9 := Value.ref.inj ((m7g3).symm.trans hg9.symm)
          clear hg9
          refine lv_iload hx hb dX8_heatCores_76 (lv_at hl 0 rfl) ?_
          obtain ⟨hkk7, hqk7, uk7, hnk7⟩ := AFg3.1 4 (by omega)
          refine z_cv hI (va_runV (As := [.int v8]) (rest := []) ⟨hx, hb, hml, hown, hts⟩ (a_X0_become l _ _ _ _ _ _ _ (a 4) (q 4) uk7 _ _ v8 (kx_ok 4) hkk7 hqk7 hnk7.toZN0 hpl) (cwV 1 hts gX8_heatCores_X0_become rfl rfl rfl (by decide +kernel) ⟨Nat.le_of_ble_eq_true rfl, Nat.le_of_ble_eq_true rfl⟩) (z_preV hK hE hI [] rfl rfl (z_recv hK hI hkk7 (kx_ok 4).1 rfl)) rfl rfl hl.1 rfl (lv_room (Nat.le_of_ble_eq_true rfl)) dX8_heatCores_78 ⟨Nat.le_of_ble_eq_true rfl, Nat.le_of_ble_eq_true rfl⟩) (fun u H locs hw hI => ?_)
          obtain ⟨g4, rfl, AFg4, hvg4, hog4, hQg4⟩ := AFg3.am (by omega) hw
          have hSg4 := hSg3.q hQg4 AFg4
          obtain ⟨-, ⟨-, -, -, -, -, m6g4, m7g4⟩, -⟩ := id hSg4
          obtain ⟨-, -, -, h15g4, hb1g4, hb2g4⟩ := hSg4.co hin
          have z5 := hog4 (5 + 2 * i) (by omega) (by omega)
          have z3 := hog4 3 (by omega) (by omega)
          refine lv_aload hx hb dX8_heatCores_81 (lv_at hl 1 rfl) ?_
          refine z_get (k := 5) (j := 15) hM hI kc rfl rfl hinX3 rfl (by decide) (by decide +kernel) (fun _ h9 => h9) dX8_heatCores_83 (fun v9 hv9 => ?_)
          obtain ⟨hg9, r9, rfl, -⟩ := hv9
          obtain rfl : (b i) = r9 := Value.ref.inj ((h15g4).symm.trans hg9.symm)
          clear hg9
          refine lv_aload_n hx hb dX8_heatCores_86 rfl (lv_at hl 5 rfl) ?_
          refine z_get (k := 10) (j := 7) hM hI k0 rfl rfl hinX8 rfl (by decide) (by decide +kernel) (fun _ h9 => h9) dX8_heatCores_87 (fun v9 hv9 => ?_)
          obtain ⟨hg9, r9, rfl, -⟩ := hv9
          obtain rfl : (a 4) = r9 := Value.ref.inj ((m7g4).symm.trans hg9.symm)
          clear hg9
          obtain ⟨hkk8, hqk8, uk8, hnk8⟩ := AFg4.1 (5 + 2 * i) (by omega)
          obtain ⟨hkk9, hqk9, uk9, hnk9⟩ := AFg4.1 (6 + 2 * i) (by omega)
          obtain ⟨hkk10, hqk10, uk10, hnk10⟩ := AFg4.1 4 (by omega)
          refine z_cv hI (va_runV (As := [.ref (a 4)]) (rest := []) ⟨hx, hb, hml, hown, hts⟩ (a_X1_gain l _ _ _ _ _ _ _ (b i) 3 32 33 20 rfl (by decide) kb (a (5 + 2 * i)) (q (5 + 2 * i)) uk8 _ _ (a (6 + 2 * i)) (q (6 + 2 * i)) uk9 _ _ (a 4) (q 4) uk10 _ _ hb1g4 hb2g4 (kx_h _).symm (kx_d _).symm (kx_ok (5 + 2 * i)) hkk8 hqk8 hnk8 (kx_ok (6 + 2 * i)) hkk9 hqk9 hnk9 (kx_ok 4) hkk10 hqk10 hnk10 (AFg4.2 4 (5 + 2 * i) (by omega) (by omega) (by omega)).1 (AFg4.2 4 (5 + 2 * i) (by omega) (by omega) (by omega)).2 (AFg4.2 (6 + 2 * i) (5 + 2 * i) (by omega) (by omega) (by omega)).1 (AFg4.2 (6 + 2 * i) (5 + 2 * i) (by omega) (by omega) (by omega)).2 (by omega)) (cwV 1 hts gX8_heatCores_X1_gain rfl rfl rfl (by decide +kernel) ⟨Nat.le_of_ble_eq_true rfl, Nat.le_of_ble_eq_true rfl⟩) (z_preV hK hE hI [] rfl rfl (z_recv hK hI kb rfl rfl)) rfl rfl hl.1 rfl (lv_room (Nat.le_of_ble_eq_true rfl)) dX8_heatCores_90 ⟨Nat.le_of_ble_eq_true rfl, Nat.le_of_ble_eq_true rfl⟩) (fun u H locs hw hI => ?_)
          obtain ⟨g5, rfl, AFg5, hvg5, hdg5, hog5, hQg5⟩ := AFg4.bm (by omega) (by omega) (by omega) hw
          have hSg5 := hSg4.q hQg5 AFg5
          obtain ⟨-, ⟨-, -, -, -, -, m6g5, m7g5⟩, -⟩ := id hSg5
          obtain ⟨-, -, -, h15g5, hb1g5, hb2g5⟩ := hSg5.co hin
          have t3 := hog5 3 (by omega) (by omega) (by omega)
          have t4 := hog5 4 (by omega) (by omega) (by omega)
          refine lv_aload_n hx hb dX8_heatCores_93 rfl (lv_at hl 5 rfl) ?_
          refine z_get (k := 10) (j := 6) hM hI k0 rfl rfl hinX8 rfl (by decide) (by decide +kernel) (fun _ h9 => h9) dX8_heatCores_94 (fun v9 hv9 => ?_)
          obtain ⟨hg9, r9, rfl, -⟩ := hv9
          obtain rfl : (a 3) = r9 := Value.ref.inj ((m6g5).symm.trans hg9.symm)
          clear hg9
          refine lv_aload_n hx hb dX8_heatCores_97 rfl (lv_at hl 5 rfl) ?_
          refine z_get (k := 10) (j := 7) hM hI k0 rfl rfl hinX8 rfl (by decide) (by decide +kernel) (fun _ h9 => h9) dX8_heatCores_98 (fun v9 hv9 => ?_)
          obtain ⟨hg9, r9, rfl, -⟩ := hv9
          obtain rfl : (a 4) = r9 := Value.ref.inj ((m7g5).symm.trans hg9.symm)
          clear hg9
          obtain ⟨hkk11, hqk11, uk11, hnk11⟩ := AFg5.1 3 (by omega)
          obtain ⟨hkk12, hqk12, uk12, hnk12⟩ := AFg5.1 4 (by omega)
          refine z_cv hI (va_runV (As := [.ref (a 4)]) (rest := []) ⟨hx, hb, hml, hown, hts⟩ (a_X0_add l _ _ _ _ _ _ _ (a 3) (q 3) uk11 _ _ (a 4) (q 4) uk12 _ _  (kx_ok 3) hkk11 hqk11 hnk11.toZN0 (kx_ok 4) hkk12 hqk12 hnk12.toZN0 (AFg5.2 4 3 (by omega) (by omega) (by omega)).1 (AFg5.2 4 3 (by omega) (by omega) (by omega)).2 (by omega)) (cwV 1 hts gX8_heatCores_X0_add rfl rfl rfl (by decide +kernel) ⟨Nat.le_of_ble_eq_true rfl, Nat.le_of_ble_eq_true rfl⟩) (z_preV hK hE hI [] rfl rfl (z_recv hK hI hkk11 (kx_ok 3).1 rfl)) rfl rfl hl.1 rfl (lv_room (Nat.le_of_ble_eq_true rfl)) dX8_heatCores_101 ⟨Nat.le_of_ble_eq_true rfl, Nat.le_of_ble_eq_true rfl⟩) (fun u H locs hw hI => ?_)
          obtain ⟨g6, rfl, AFg6, hvg6, hog6, hQg6⟩ := AFg5.am (by omega) hw
          have hSg6 := hSg5.q hQg6 AFg6
          have s5 := hog6 (5 + 2 * i) (by omega) (by omega)
          have s6 := hog6 (6 + 2 * i) (by omega) (by omega)
          have hC2 : zHC κ g g6 a q n (i + 1) := hC.step hin AFg6 (((((hQg1.tr hQg2).tr hQg3).tr hQg4).tr hQg5).tr hQg6) (fun y y0 y3 y4 y5 y6 => (hog6 y y0 y3).trans ((hog5 y y0 y5 y6).trans ((hog4 y y0 y4).trans ((hog3 y y0 y3).trans ((hog2 y y0 y5 y6).trans (hog1 y y0 y4)))))) (lk := lk) (pw := v8.toInt) hlk0 hpl (by omega) (by rw [s6, s5, hdg5, hvg5]; rfl) (by omega) (by omega)
          refine lv_iinc (v := nI (i + 1)) (lv' := [(3, .int (nI (i + 1))), (5, .int v8), (4, .ref (cf i)), (2, .int 6), (1, .ref (P 1)), (0, .ref (P 0))]) hx hb dX8_heatCores_104 hl (k := 2) rfl (z_inc i) (by decide) rfl (fun ls hl => ?_)
          refine lv_goto (tgt := 18) hx hb dX8_heatCores_107 (by decide) ?_
          exact ih _ _ g6 (i + 1) (by omega) (by omega) hSg6 hC2 hI _ (lv_sub hl [0, 3, 4, 5] rfl)
        · rw [hx9.trans (hSk.2.2.2.2.2.1 i (by omega) (by omega))]
          refine lv_astoreN (lv' := [(4, .null), (3, .int (nI i)), (2, .int 6), (1, .ref (P 1)), (0, .ref (P 0))]) hx hb dX8_heatCores_26 hl (by decide) rfl (fun ls hl => ?_)
          refine lv_aloadN hx hb dX8_heatCores_28 (lv_at hl 0 rfl) ?_
          refine lv_ifnullN (tgt := 104) hx hb dX8_heatCores_30 (by decide) ?_
          refine lv_iinc (v := nI (i + 1)) (lv' := [(3, .int (nI (i + 1))), (4, .null), (2, .int 6), (1, .ref (P 1)), (0, .ref (P 0))]) hx hb dX8_heatCores_104 hl (k := 1) rfl (z_inc i) (by decide) rfl (fun ls hl => ?_)
          refine lv_goto (tgt := 18) hx hb dX8_heatCores_107 (by decide) ?_
          exact ih _ _ gk (i + 1) (by omega) (by omega) hSk (hC.skip (by omega)) hI _ (lv_sub hl [0, 2, 3, 4] rfl)
  exact hL 7 _ _ g0 0 (by omega) (by omega) hS0 hC0 hI _ (lv_sub hl [0, 1, 2, 3] rfl)

set_option maxHeartbeats 4000000 in
set_option maxRecDepth 100000 in
theorem a_X8_flowToCase (l : Launch) (D : va_G) (tc : Nat → ClassId) (z0 : Nat) (L : List Nat) (κ : Nat → Nat) (g : Nat → Nat → Value) (sz : Nat) (P cf b a q : Nat → Nat) (n : Nat) (hS : zShp κ g P cf b a q n) (hB : zV g (q 0) + zHs g q n < 4294967296 ^ 15 * 4194304) (hH9 : zHt g q n) : Met l yX8_flowToCase wsX8_flowToCase ({ frames := 5, cells := 0, slots := 0, locals := 112 }) (zPc D tc z0 ([.ref (P 0)] : List Value) [] (L, κ, g) sz) (va_Qv (fun (u : zS) => ∃ g2 : Nat → Nat → Value, u = (L, κ, g2) ∧ zShp κ g2 P cf b a q n ∧ zQ κ g g2 ∧ zHt g2 q n ∧ zV g2 (q 0) + zHs g2 q n = zV g (q 0) + zHs g q n ∧ zV g2 (q 2) = zV g (q 2) ∧ zV g2 (q 3) = zV g (q 3)) (fun (u : zS) (t : State) => zB D tc (zA [] L sz) [] u t) (zA [] L sz)) 0 0 (zA [] L sz) := by
  refine Met.ofW (cc := cX8_flowToCase) (maxL := 8) (ret := none) (by decide) rfl ?_
  intro p e9 s m args below meth c s₁ B hml hv
  obtain ⟨rfl, rfl, hK, hE, hI⟩ := hv.opn
  have hx := B.exec
  have hb := B.bytes
  have hr := B.returns
  have hts := atoms_spec (ws := wsX8_flowToCase) B.pre
  have hown : s.vm.findClass RX8 = some m.cls := findClass_of_methodNamed B.named
  have hlocks := B.notSynchronized
  have hM : zM p s m c cX8_flowToCase _ wsX8_flowToCase RX8 D tc := ⟨hx, hb, hts, hown, hK⟩
  have hinX8 : ∀ w ∈ wsX80, w ∈ wsX8_flowToCase := by decide +kernel
  have hl := lv_entry ([.ref (P 0)] : List Value) (n := 8) (Nat.le_of_ble_eq_true rfl)
  rw [lg_entry_eq]
  generalize (lg_sl ([.ref (P 0)] : List Value) ++ List.replicate (8 - (lg_sl ([.ref (P 0)] : List Value)).length) Slot.unset).toArray = ls at hl ⊢
  have hl : lv_has ls 8 [(0, .ref (P 0))] := hl
  have hinX1 : ∀ w ∈ wsX10, w ∈ wsX8_flowToCase := by decide +kernel
  have hinX2 : ∀ w ∈ wsX20, w ∈ wsX8_flowToCase := by decide +kernel
  have hinX3 : ∀ w ∈ wsX30, w ∈ wsX8_flowToCase := by decide +kernel
  have hinX0 : ∀ w ∈ wsX00, w ∈ wsX8_flowToCase := by decide +kernel
  have hn6 := hS.n6
  obtain ⟨⟨k0, k1, -, k3, -, -, k6⟩, ⟨l1, -, l3, -⟩, -⟩ := id hS
  refine lv_aload_n hx hb dX8_flowToCase_0 rfl (lv_at hl 0 rfl) ?_
  refine z_get (k := 10) (j := 1) hM hI k0 rfl rfl hinX8 rfl (by decide) (by decide +kernel) (fun _ h9 => h9) dX8_flowToCase_1 (fun v9 hv9 => ?_)
  obtain ⟨hg9, r9, rfl, -⟩ := hv9
  obtain rfl : (P 1) = r9 := Value.ref.inj ((l1).symm.trans hg9.symm)
  clear hg9
  refine lv_astore_n (lv' := [(1, .ref (P 1)), (0, .ref (P 0))]) hx hb dX8_flowToCase_4 rfl hl (by decide) rfl (fun ls hl => ?_)
  refine lv_aload_n hx hb dX8_flowToCase_5 rfl (lv_at hl 0 rfl) ?_
  refine z_alen (v := 6) hM hI k1 rfl rfl rfl (by decide) dX8_flowToCase_6 ?_
  refine lv_istore_n (lv' := [(2, .int 6), (1, .ref (P 1)), (0, .ref (P 0))]) hx hb dX8_flowToCase_7 rfl hl (by decide) rfl (fun ls hl => ?_)
  refine lv_iconst (v := 0) hx hb dX8_flowToCase_8 (by decide) ?_
  refine lv_istore_n (lv' := [(3, .int 0), (2, .int 6), (1, .ref (P 1)), (0, .ref (P 0))]) hx hb dX8_flowToCase_9 rfl hl (by decide) rfl (fun ls hl => ?_)
  have hL : ∀ (n9 : Nat) (H : Heap) (locs : List Loc) (gk : Nat → Nat → Value) (i : Nat) (hn : 6 - i < n9) (hi : i ≤ 6) (hSk : zShp κ gk P cf b a q n) (hQk : zQ κ g gk) (hHk : zHt gk q n) (hT : zV gk (q 0) + zHs gk q n = zV g (q 0) + zHs g q n) (h2k : zV gk (q 2) = zV g (q 2)) (h3k : zV gk (q 3) = zV g (q 3)) (hI : zI D tc (zA [] L s.heap.size) s.heap [] L κ gk H locs) (ls : Array Slot) (hl : lv_has ls 8 [(3, .int (nI i)), (2, .int 6), (1, .ref (P 1)), (0, .ref (P 0))]), W p l e9 (headSpec wsX8_flowToCase ({ frames := 5, cells := 0, slots := 0, locals := 112 })).room s m ([.ref (P 0)] : List Value).toArray below meth c H locs 0 0 (MQ below (va_Qv (fun (u : zS) => ∃ g2 : Nat → Nat → Value, u = (L, κ, g2) ∧ zShp κ g2 P cf b a q n ∧ zQ κ g g2 ∧ zHt g2 q n ∧ zV g2 (q 0) + zHs g2 q n = zV g (q 0) + zHs g q n ∧ zV g2 (q 2) = zV g (q 2) ∧ zV g2 (q 3) = zV g (q 3)) (fun (u : zS) (t : State) => zB D tc (zA [] L s.heap.size) [] u t) (zA [] L s.heap.size)) ([.ref (P 0)] : List Value).toArray s 0 0 (zA [] L s.heap.size)) (F0 m 10 ls []) := by
    intro n9
    induction n9 with
    | zero => intro H locs gk i hn; exact absurd hn (Nat.not_lt_zero _)
    | succ n9 ih =>
      intro H locs gk i hn hi hSk hQk hHk hT h2k h3k hI ls hl
      have hAk := hSk.af
      refine lv_iload_n hx hb dX8_flowToCase_10 rfl (lv_at hl 0 rfl) ?_
      refine lv_iload_n hx hb dX8_flowToCase_11 rfl (lv_at hl 1 rfl) ?_
      refine lv_icmp_ge (tgt := 140) hx hb dX8_flowToCase_12 (by decide) (fun c1 => ?_) (fun c1 => ?_)
      · skip
        exact W.vret hx hb hr (fun t ht hW => ⟨⟨(L, κ, gk), rfl, ⟨gk, rfl, hSk, hQk, hHk, hT, h2k, h3k⟩, z_end hK hI ht hW⟩, z_F hI ht⟩) (z_locs hI) dX8_flowToCase_140
      · have hi2 : i < 6 := z_lt (b := 6) (by omega) c1
        refine lv_aload_n hx hb dX8_flowToCase_15 rfl (lv_at hl 2 rfl) ?_
        refine lv_iload_n hx hb dX8_flowToCase_16 rfl (lv_at hl 0 rfl) ?_
        refine z_aald hM hI k1 rfl rfl rfl (vp_in_nI (show i < 6 by omega) (by omega)) dX8_flowToCase_17 (fun x hx9 => ?_)
        obtain ⟨hx9, -⟩ := hx9
        rw [nI_clamp (by omega)] at hx9
        by_cases hin : i < n
        · obtain ⟨kc, kb, h3, h15, hb1, hb2⟩ := hSk.co hin
          rw [hx9.trans h3]
          refine lv_astore (lv' := [(4, .ref (cf i)), (3, .int (nI i)), (2, .int 6), (1, .ref (P 1)), (0, .ref (P 0))]) hx hb dX8_flowToCase_18 hl (by decide) rfl (fun ls hl => ?_)
          refine lv_aload hx hb dX8_flowToCase_20 (lv_at hl 0 rfl) ?_
          refine lv_ifnull hx hb dX8_flowToCase_22 ?_
          obtain ⟨-, ⟨-, -, m3, -, -, -, m7⟩, ⟨m0, -, mb1, mb2⟩, -⟩ := id hSk
          have hpos : ∀ j, j < n → 0 ≤ zV gk (q (5 + 2 * j)) := fun j hj => hAk.nn (by omega)
          have hle : zV gk (q (5 + 2 * i)) ≤ zHs gk q n := zSm_le (f := fun j => zV gk (q (5 + 2 * j))) hpos hin
          obtain ⟨⟨hd0, hlo0⟩, hds⟩ := id hHk
          obtain ⟨hdi, hloi⟩ := hds i hin
          refine lv_aload hx hb dX8_flowToCase_25 (lv_at hl 0 rfl) ?_
          refine z_get (k := 5) (j := 15) hM hI kc rfl rfl hinX3 rfl (by decide) (by decide +kernel) (fun _ h9 => h9) dX8_flowToCase_27 (fun v9 hv9 => ?_)
          obtain ⟨hg9, r9, rfl, -⟩ := hv9
          obtain rfl : (b i) = r9 := Value.ref.inj ((h15).symm.trans hg9.symm)
          clear hg9
          refine z_get (k := 3) (j := 2) hM hI kb rfl rfl hinX1 rfl (by decide) (by decide +kernel) (fun _ h9 => h9) dX8_flowToCase_30 (fun v9 hv9 => ?_)
          obtain ⟨hg9, r9, rfl, -⟩ := hv9
          obtain rfl : (a (6 + 2 * i)) = r9 := Value.ref.inj ((hb2).symm.trans hg9.symm)
          clear hg9
          refine lv_aload_n hx hb dX8_flowToCase_33 rfl (lv_at hl 4 rfl) ?_
          refine z_get (k := 10) (j := 3) hM hI k0 rfl rfl hinX8 rfl (by decide) (by decide +kernel) (fun _ h9 => h9) dX8_flowToCase_34 (fun v9 hv9 => ?_)
          obtain ⟨hg9, r9, rfl, -⟩ := hv9
          obtain rfl : (P 3) = r9 := Value.ref.inj ((m3).symm.trans hg9.symm)
          clear hg9
          refine z_get (k := 4) (j := 0) hM hI k3 rfl rfl hinX2 rfl (by decide) (by decide +kernel) (fun _ h9 => h9) dX8_flowToCase_37 (fun v9 hv9 => ?_)
          obtain ⟨hg9, r9, rfl, -⟩ := hv9
          obtain rfl : (P 6) = r9 := Value.ref.inj ((m0).symm.trans hg9.symm)
          clear hg9
          refine z_get (k := 31) (j := 2) hM hI k6 rfl rfl hinX1 rfl (by decide) (by decide +kernel) (fun _ h9 => h9) dX8_flowToCase_40 (fun v9 hv9 => ?_)
          obtain ⟨hg9, r9, rfl, -⟩ := hv9
          obtain rfl : (a 1) = r9 := Value.ref.inj ((mb2).symm.trans hg9.symm)
          clear hg9
          obtain ⟨hkk1, hqk1, uk1, hnk1⟩ := hAk.1 (6 + 2 * i) (by omega)
          obtain ⟨hkk2, hqk2, uk2, hnk2⟩ := hAk.1 1 (by omega)
          refine vp_callSi (W.runV (As := [.ref (a 1)]) (rest := []) ⟨hx, hb, hml, hown, hts⟩ (a_X0_isLess l _ _ _ _ _ _ _ (a (6 + 2 * i)) (q (6 + 2 * i)) uk1 _ _ (a 1) (q 1) uk2 _ _  (kx_ok (6 + 2 * i)) hkk1 hqk1 hnk1.toZN0 (kx_ok 1) hkk2 hqk2 hnk2.toZN0 ) (cwV 1 hts gX8_flowToCase_X0_isLess rfl rfl rfl (by decide +kernel) ⟨Nat.le_of_ble_eq_true rfl, Nat.le_of_ble_eq_true rfl⟩) (z_preV hK hE hI [] rfl rfl (z_recv hK hI hkk1 (kx_ok (6 + 2 * i)).1 rfl)) rfl rfl hl.1 rfl (lv_room (Nat.le_of_ble_eq_true rfl)) dX8_flowToCase_43 ⟨Nat.le_of_ble_eq_true rfl, Nat.le_of_ble_eq_true rfl⟩) (fun v8 hw => ?_)
          refine lv_istore (lv' := [(5, .int v8), (4, .ref (cf i)), (3, .int (nI i)), (2, .int 6), (1, .ref (P 1)), (0, .ref (P 0))]) hx hb dX8_flowToCase_46 hl (by decide) rfl (fun ls hl => ?_)
          rcases hw with ⟨rfl, hlt⟩ | ⟨rfl, hge⟩
          · skip
            refine lv_iload hx hb dX8_flowToCase_48 (lv_at hl 0 rfl) ?_
            refine lv_if_eq (tgt := 63) hx hb dX8_flowToCase_50 (by decide) (fun c9 => absurd c9 (by decide)) (fun _ => ?_)
            refine lv_aload_n hx hb dX8_flowToCase_53 rfl (lv_at hl 5 rfl) ?_
            refine z_get (k := 10) (j := 3) hM hI k0 rfl rfl hinX8 rfl (by decide) (by decide +kernel) (fun _ h9 => h9) dX8_flowToCase_54 (fun v9 hv9 => ?_)
            obtain ⟨hg9, r9, rfl, -⟩ := hv9
            obtain rfl : (P 3) = r9 := Value.ref.inj ((m3).symm.trans hg9.symm)
            clear hg9
            refine z_get (k := 4) (j := 0) hM hI k3 rfl rfl hinX2 rfl (by decide) (by decide +kernel) (fun _ h9 => h9) dX8_flowToCase_57 (fun v9 hv9 => ?_)
            obtain ⟨hg9, r9, rfl, -⟩ := hv9
            obtain rfl : (P 6) = r9 := Value.ref.inj ((m0).symm.trans hg9.symm)
            clear hg9
            refine lv_goto (tgt := 68) hx hb dX8_flowToCase_60 (by decide) ?_
            refine lv_astore (lv' := [(6, .ref (P 6)), (5, .int 1), (4, .ref (cf i)), (3, .int (nI i)), (2, .int 6), (1, .ref (P 1)), (0, .ref (P 0))]) hx hb dX8_flowToCase_68 hl (by decide) rfl (fun ls hl => ?_)
            refine lv_iload hx hb dX8_flowToCase_70 (lv_at hl 1 rfl) ?_
            refine lv_if_eq (tgt := 83) hx hb dX8_flowToCase_72 (by decide) (fun c9 => absurd c9 (by decide)) (fun _ => ?_)
            refine lv_aload hx hb dX8_flowToCase_75 (lv_at hl 2 rfl) ?_
            refine z_get (k := 5) (j := 15) hM hI kc rfl rfl hinX3 rfl (by decide) (by decide +kernel) (fun _ h9 => h9) dX8_flowToCase_77 (fun v9 hv9 => ?_)
            obtain ⟨hg9, r9, rfl, -⟩ := hv9
            obtain rfl : (b i) = r9 := Value.ref.inj ((h15).symm.trans hg9.symm)
            clear hg9
            refine lv_goto (tgt := 90) hx hb dX8_flowToCase_80 (by decide) ?_
            refine lv_astore (lv' := [(7, .ref (b i)), (6, .ref (P 6)), (5, .int 1), (4, .ref (cf i)), (3, .int (nI i)), (2, .int 6), (1, .ref (P 1)), (0, .ref (P 0))]) hx hb dX8_flowToCase_90 hl (by decide) rfl (fun ls hl => ?_)
            refine lv_aload_n hx hb dX8_flowToCase_92 rfl (lv_at hl 7 rfl) ?_
            refine z_get (k := 10) (j := 7) hM hI k0 rfl rfl hinX8 rfl (by decide) (by decide +kernel) (fun _ h9 => h9) dX8_flowToCase_93 (fun v9 hv9 => ?_)
            obtain ⟨hg9, r9, rfl, -⟩ := hv9
            obtain rfl : (a 4) = r9 := Value.ref.inj ((m7).symm.trans hg9.symm)
            clear hg9
            refine lv_aload hx hb dX8_flowToCase_96 (lv_at hl 1 rfl) ?_
            refine z_get (k := 31) (j := 2) hM hI k6 rfl rfl hinX1 rfl (by decide) (by decide +kernel) (fun _ h9 => h9) dX8_flowToCase_98 (fun v9 hv9 => ?_)
            obtain ⟨hg9, r9, rfl, -⟩ := hv9
            obtain rfl : (a 1) = r9 := Value.ref.inj ((mb2).symm.trans hg9.symm)
            clear hg9
            obtain ⟨hkk3, hqk3, uk3, hnk3⟩ := hAk.1 4 (by omega)
            obtain ⟨hkk4, hqk4, uk4, hnk4⟩ := hAk.1 1 (by omega)
            refine z_cv hI (va_runV (As := [.ref (a 1)]) (rest := []) ⟨hx, hb, hml, hown, hts⟩ (a_X0_becomeSame l _ _ _ _ _ _ _ (a 4) (q 4) uk3 _ _ (a 1) (q 1) uk4 _ _  (kx_ok 4) hkk3 hqk3 hnk3.toZN0 (kx_ok 1) hkk4 hqk4 hnk4.toZN0 (hAk.2 1 4 (by omega) (by omega) (by omega)).1 (hAk.2 1 4 (by omega) (by omega) (by omega)).2 ) (cwV 1 hts gX8_flowToCase_X0_becomeSame rfl rfl rfl (by decide +kernel) ⟨Nat.le_of_ble_eq_true rfl, Nat.le_of_ble_eq_true rfl⟩) (z_preV hK hE hI [] rfl rfl (z_recv hK hI hkk3 (kx_ok 4).1 rfl)) rfl rfl hl.1 rfl (lv_room (Nat.le_of_ble_eq_true rfl)) dX8_flowToCase_101 ⟨Nat.le_of_ble_eq_true rfl, Nat.le_of_ble_eq_true rfl⟩) (fun u H locs hw hI => ?_)
            obtain ⟨g1, rfl, AFg1, hvg1, hog1, hQg1⟩ := hAk.am (by omega) hw
            have hSg1 := hSk.q hQg1 AFg1
            obtain ⟨-, ⟨-, -, -, -, -, -, m7g1⟩, ⟨-, -, mb1g1, mb2g1⟩, -⟩ := id hSg1
            obtain ⟨-, -, -, -, hb1g1, hb2g1⟩ := hSg1.co hin
            have a0 := hog1 0 (by omega) (by omega)
            have a1 := hog1 1 (by omega) (by omega)
            have a5 := hog1 (5 + 2 * i) (by omega) (by omega)
            have a6 := hog1 (6 + 2 * i) (by omega) (by omega)
            refine lv_aload_n hx hb dX8_flowToCase_104 rfl (lv_at hl 7 rfl) ?_
            refine z_get (k := 10) (j := 7) hM hI k0 rfl rfl hinX8 rfl (by decide) (by decide +kernel) (fun _ h9 => h9) dX8_flowToCase_105 (fun v9 hv9 => ?_)
            obtain ⟨hg9, r9, rfl, -⟩ := hv9
            obtain rfl : (a 4) = r9 := Value.ref.inj ((m7g1).symm.trans hg9.symm)
            clear hg9
            refine lv_aload hx hb dX8_flowToCase_108 (lv_at hl 0 rfl) ?_
            refine z_get (k := 3) (j := 2) hM hI kb rfl rfl hinX1 rfl (by decide) (by decide +kernel) (fun _ h9 => h9) dX8_flowToCase_110 (fun v9 hv9 => ?_)
            obtain ⟨hg9, r9, rfl, -⟩ := hv9
            obtain rfl : (a (6 + 2 * i)) = r9 := Value.ref.inj ((hb2g1).symm.trans hg9.symm)
            clear hg9
            obtain ⟨hkk5, hqk5, uk5, hnk5⟩ := AFg1.1 4 (by omega)
            obtain ⟨hkk6, hqk6, uk6, hnk6⟩ := AFg1.1 (6 + 2 * i) (by omega)
            refine z_cv hI (va_runV (As := [.ref (a (6 + 2 * i))]) (rest := []) ⟨hx, hb, hml, hown, hts⟩ (a_X0_takeAway l _ _ _ _ _ _ _ (a 4) (q 4) uk5 _ _ (a (6 + 2 * i)) (q (6 + 2 * i)) uk6 _ _  (kx_ok 4) hkk5 hqk5 hnk5 (kx_ok (6 + 2 * i)) hkk6 hqk6 hnk6 (AFg1.2 (6 + 2 * i) 4 (by omega) (by omega) (by omega)).1 (AFg1.2 (6 + 2 * i) 4 (by omega) (by omega) (by omega)).2 (by omega)) (cwV 1 hts gX8_flowToCase_X0_takeAway rfl rfl rfl (by decide +kernel) ⟨Nat.le_of_ble_eq_true rfl, Nat.le_of_ble_eq_true rfl⟩) (z_preV hK hE hI [] rfl rfl (z_recv hK hI hkk5 (kx_ok 4).1 rfl)) rfl rfl hl.1 rfl (lv_room (Nat.le_of_ble_eq_true rfl)) dX8_flowToCase_113 ⟨Nat.le_of_ble_eq_true rfl, Nat.le_of_ble_eq_true rfl⟩) (fun u H locs hw hI => ?_)
            obtain ⟨g2, rfl, AFg2, hvg2, hog2, hQg2⟩ := AFg1.am (by omega) hw
            have hSg2 := hSg1.q hQg2 AFg2
            obtain ⟨-, ⟨-, -, -, -, -, -, m7g2⟩, ⟨-, -, mb1g2, mb2g2⟩, -⟩ := id hSg2
            obtain ⟨-, -, -, -, hb1g2, hb2g2⟩ := hSg2.co hin
            have b0 := hog2 0 (by omega) (by omega)
            have b5 := hog2 (5 + 2 * i) (by omega) (by omega)
            refine lv_aload hx hb dX8_flowToCase_116 (lv_at hl 1 rfl) ?_
            refine lv_aload_n hx hb dX8_flowToCase_118 rfl (lv_at hl 7 rfl) ?_
            refine z_get (k := 10) (j := 7) hM hI k0 rfl rfl hinX8 rfl (by decide) (by decide +kernel) (fun _ h9 => h9) dX8_flowToCase_119 (fun v9 hv9 => ?_)
            obtain ⟨hg9, r9, rfl, -⟩ := hv9
            obtain rfl : (a 4) = r9 := Value.ref.inj ((m7g2).symm.trans hg9.symm)
            clear hg9
            obtain ⟨hkk7, hqk7, uk7, hnk7⟩ := AFg2.1 0 (by omega)
            obtain ⟨hkk8, hqk8, uk8, hnk8⟩ := AFg2.1 1 (by omega)
            obtain ⟨hkk9, hqk9, uk9, hnk9⟩ := AFg2.1 4 (by omega)
            refine z_cv hI (va_runV (As := [.ref (a 4)]) (rest := []) ⟨hx, hb, hml, hown, hts⟩ (a_X1_giveAway l _ _ _ _ _ _ _ (P 6) 31 34 35 200 rfl (by decide) k6 (a 0) (q 0) uk7 _ _ (a 1) (q 1) uk8 _ _ (a 4) (q 4) uk9 _ _ mb1g2 mb2g2 rfl rfl (kx_ok 0) hkk7 hqk7 hnk7 (kx_ok 1) hkk8 hqk8 hnk8 (kx_ok 4) hkk9 hqk9 hnk9 (AFg2.2 4 0 (by omega) (by omega) (by omega)).1 (AFg2.2 4 0 (by omega) (by omega) (by omega)).2 (AFg2.2 1 0 (by omega) (by omega) (by omega)).1 (AFg2.2 1 0 (by omega) (by omega) (by omega)).2 (by omega)) (cwV 1 hts gX8_flowToCase_X1_giveAway rfl rfl rfl (by decide +kernel) ⟨Nat.le_of_ble_eq_true rfl, Nat.le_of_ble_eq_true rfl⟩) (z_preV hK hE hI [] rfl rfl (z_recv hK hI k6 rfl rfl)) rfl rfl hl.1 rfl (lv_room (Nat.le_of_ble_eq_true rfl)) dX8_flowToCase_122 ⟨Nat.le_of_ble_eq_true rfl, Nat.le_of_ble_eq_true rfl⟩) (fun u H locs hw hI => ?_)
            obtain ⟨g3, rfl, AFg3, hvg3, hdg3, hog3, hQg3⟩ := AFg2.bm (by omega) (by omega) (by omega) hw
            have hSg3 := hSg2.q hQg3 AFg3
            obtain ⟨-, ⟨-, -, -, -, -, -, m7g3⟩, ⟨-, -, mb1g3, mb2g3⟩, -⟩ := id hSg3
            obtain ⟨-, -, -, -, hb1g3, hb2g3⟩ := hSg3.co hin
            have d4 := hog3 4 (by omega) (by omega) (by omega)
            have d7 := hog3 (5 + 2 * i) (by omega) (by omega) (by omega)
            refine lv_aload hx hb dX8_flowToCase_125 (lv_at hl 0 rfl) ?_
            refine lv_aload_n hx hb dX8_flowToCase_127 rfl (lv_at hl 7 rfl) ?_
            refine z_get (k := 10) (j := 7) hM hI k0 rfl rfl hinX8 rfl (by decide) (by decide +kernel) (fun _ h9 => h9) dX8_flowToCase_128 (fun v9 hv9 => ?_)
            obtain ⟨hg9, r9, rfl, -⟩ := hv9
            obtain rfl : (a 4) = r9 := Value.ref.inj ((m7g3).symm.trans hg9.symm)
            clear hg9
            obtain ⟨hkk10, hqk10, uk10, hnk10⟩ := AFg3.1 (5 + 2 * i) (by omega)
            obtain ⟨hkk11, hqk11, uk11, hnk11⟩ := AFg3.1 (6 + 2 * i) (by omega)
            obtain ⟨hkk12, hqk12, uk12, hnk12⟩ := AFg3.1 4 (by omega)
            refine z_cv hI (va_runV (As := [.ref (a 4)]) (rest := []) ⟨hx, hb, hml, hown, hts⟩ (a_X1_gain l _ _ _ _ _ _ _ (b i) 3 32 33 20 rfl (by decide) kb (a (5 + 2 * i)) (q (5 + 2 * i)) uk10 _ _ (a (6 + 2 * i)) (q (6 + 2 * i)) uk11 _ _ (a 4) (q 4) uk12 _ _ hb1g3 hb2g3 (kx_h _).symm (kx_d _).symm (kx_ok (5 + 2 * i)) hkk10 hqk10 hnk10 (kx_ok (6 + 2 * i)) hkk11 hqk11 hnk11 (kx_ok 4) hkk12 hqk12 hnk12 (AFg3.2 4 (5 + 2 * i) (by omega) (by omega) (by omega)).1 (AFg3.2 4 (5 + 2 * i) (by omega) (by omega) (by omega)).2 (AFg3.2 (6 + 2 * i) (5 + 2 * i) (by omega) (by omega) (by omega)).1 (AFg3.2 (6 + 2 * i) (5 + 2 * i) (by omega) (by omega) (by omega)).2 (by omega)) (cwV 1 hts gX8_flowToCase_X1_gain rfl rfl rfl (by decide +kernel) ⟨Nat.le_of_ble_eq_true rfl, Nat.le_of_ble_eq_true rfl⟩) (z_preV hK hE hI [] rfl rfl (z_recv hK hI kb rfl rfl)) rfl rfl hl.1 rfl (lv_room (Nat.le_of_ble_eq_true rfl)) dX8_flowToCase_131 ⟨Nat.le_of_ble_eq_true rfl, Nat.le_of_ble_eq_true rfl⟩) (fun u H locs hw hI => ?_)
            obtain ⟨g4, rfl, AFg4, hvg4, hdg4, hog4, hQg4⟩ := AFg3.bm (by omega) (by omega) (by omega) hw
            have hSg4 := hSg3.q hQg4 AFg4
            have f7 := hog4 0 (by omega) (by omega) (by omega)
            have f8 := hog4 1 (by omega) (by omega) (by omega)
            obtain ⟨hH4, hT4⟩ := hHk.flow hin (g2 := g4) (fun y y0 y4 y1 y2 y5 y6 => (hog4 y y0 y5 y6).trans ((hog3 y y0 y1 y2).trans ((hog2 y y0 y4).trans (hog1 y y0 y4)))) (f := zV gk (q 1) - zV gk (q (6 + 2 * i))) rfl (by omega) (by rw [f8, f7, hdg3, hvg3]; rfl) (by omega) (by rw [hdg4, hvg4]; rfl)
            have h24 : zV g4 (q 2) = zV gk (q 2) := by
              have e1 := hog4 2 (by omega) (by omega) (by omega)
              have e2 := hog3 2 (by omega) (by omega) (by omega)
              have e3 := hog2 2 (by omega) (by omega)
              have e4 := hog1 2 (by omega) (by omega)
              omega
            have h34 : zV g4 (q 3) = zV gk (q 3) := by
              have e1 := hog4 3 (by omega) (by omega) (by omega)
              have e2 := hog3 3 (by omega) (by omega) (by omega)
              have e3 := hog2 3 (by omega) (by omega)
              have e4 := hog1 3 (by omega) (by omega)
              omega
            refine lv_iinc (v := nI (i + 1)) (lv' := [(3, .int (nI (i + 1))), (7, .ref (b i)), (6, .ref (P 6)), (5, .int 1), (4, .ref (cf i)), (2, .int 6), (1, .ref (P 1)), (0, .ref (P 0))]) hx hb dX8_flowToCase_134 hl (k := 4) rfl (z_inc i) (by decide) rfl (fun ls hl => ?_)
            refine lv_goto (tgt := 10) hx hb dX8_flowToCase_137 (by decide) ?_
            exact ih _ _ g4 (i + 1) (by omega) (by omega) hSg4 (hQk.tr (((hQg1.tr hQg2).tr hQg3).tr hQg4)) hH4 (hT4.trans hT) (h24.trans h2k) (h34.trans h3k) hI _ (lv_sub hl [0, 5, 6, 7] rfl)
          · skip
            refine lv_iload hx hb dX8_flowToCase_48 (lv_at hl 0 rfl) ?_
            refine lv_if_eq (tgt := 63) hx hb dX8_flowToCase_50 (by decide) (fun _ => ?_) (fun c9 => absurd rfl c9)
            refine lv_aload hx hb dX8_flowToCase_63 (lv_at hl 1 rfl) ?_
            refine z_get (k := 5) (j := 15) hM hI kc rfl rfl hinX3 rfl (by decide) (by decide +kernel) (fun _ h9 => h9) dX8_flowToCase_65 (fun v9 hv9 => ?_)
            obtain ⟨hg9, r9, rfl, -⟩ := hv9
            obtain rfl : (b i) = r9 := Value.ref.inj ((h15).symm.trans hg9.symm)
            clear hg9
            refine lv_astore (lv' := [(6, .ref (b i)), (5, .int 0), (4, .ref (cf i)), (3, .int (nI i)), (2, .int 6), (1, .ref (P 1)), (0, .ref (P 0))]) hx hb dX8_flowToCase_68 hl (by decide) rfl (fun ls hl => ?_)
            refine lv_iload hx hb dX8_flowToCase_70 (lv_at hl 1 rfl) ?_
            refine lv_if_eq (tgt := 83) hx hb dX8_flowToCase_72 (by decide) (fun _ => ?_) (fun c9 => absurd rfl c9)
            refine lv_aload_n hx hb dX8_flowToCase_83 rfl (lv_at hl 6 rfl) ?_
            refine z_get (k := 10) (j := 3) hM hI k0 rfl rfl hinX8 rfl (by decide) (by decide +kernel) (fun _ h9 => h9) dX8_flowToCase_84 (fun v9 hv9 => ?_)
            obtain ⟨hg9, r9, rfl, -⟩ := hv9
            obtain rfl : (P 3) = r9 := Value.ref.inj ((m3).symm.trans hg9.symm)
            clear hg9
            refine z_get (k := 4) (j := 0) hM hI k3 rfl rfl hinX2 rfl (by decide) (by decide +kernel) (fun _ h9 => h9) dX8_flowToCase_87 (fun v9 hv9 => ?_)
            obtain ⟨hg9, r9, rfl, -⟩ := hv9
            obtain rfl : (P 6) = r9 := Value.ref.inj ((m0).symm.trans hg9.symm)
            clear hg9
            refine lv_astore (lv' := [(7, .ref (P 6)), (6, .ref (b i)), (5, .int 0), (4, .ref (cf i)), (3, .int (nI i)), (2, .int 6), (1, .ref (P 1)), (0, .ref (P 0))]) hx hb dX8_flowToCase_90 hl (by decide) rfl (fun ls hl => ?_)
            refine lv_aload_n hx hb dX8_flowToCase_92 rfl (lv_at hl 7 rfl) ?_
            refine z_get (k := 10) (j := 7) hM hI k0 rfl rfl hinX8 rfl (by decide) (by decide +kernel) (fun _ h9 => h9) dX8_flowToCase_93 (fun v9 hv9 => ?_)
            obtain ⟨hg9, r9, rfl, -⟩ := hv9
            obtain rfl : (a 4) = r9 := Value.ref.inj ((m7).symm.trans hg9.symm)
            clear hg9
            refine lv_aload hx hb dX8_flowToCase_96 (lv_at hl 1 rfl) ?_
            refine z_get (k := 3) (j := 2) hM hI kb rfl rfl hinX1 rfl (by decide) (by decide +kernel) (fun _ h9 => h9) dX8_flowToCase_98 (fun v9 hv9 => ?_)
            obtain ⟨hg9, r9, rfl, -⟩ := hv9
            obtain rfl : (a (6 + 2 * i)) = r9 := Value.ref.inj ((hb2).symm.trans hg9.symm)
            clear hg9
            obtain ⟨hkk13, hqk13, uk13, hnk13⟩ := hAk.1 4 (by omega)
            obtain ⟨hkk14, hqk14, uk14, hnk14⟩ := hAk.1 (6 + 2 * i) (by omega)
            refine z_cv hI (va_runV (As := [.ref (a (6 + 2 * i))]) (rest := []) ⟨hx, hb, hml, hown, hts⟩ (a_X0_becomeSame l _ _ _ _ _ _ _ (a 4) (q 4) uk13 _ _ (a (6 + 2 * i)) (q (6 + 2 * i)) uk14 _ _  (kx_ok 4) hkk13 hqk13 hnk13.toZN0 (kx_ok (6 + 2 * i)) hkk14 hqk14 hnk14.toZN0 (hAk.2 (6 + 2 * i) 4 (by omega) (by omega) (by omega)).1 (hAk.2 (6 + 2 * i) 4 (by omega) (by omega) (by omega)).2 ) (cwV 1 hts gX8_flowToCase_X0_becomeSame rfl rfl rfl (by decide +kernel) ⟨Nat.le_of_ble_eq_true rfl, Nat.le_of_ble_eq_true rfl⟩) (z_preV hK hE hI [] rfl rfl (z_recv hK hI hkk13 (kx_ok 4).1 rfl)) rfl rfl hl.1 rfl (lv_room (Nat.le_of_ble_eq_true rfl)) dX8_flowToCase_101 ⟨Nat.le_of_ble_eq_true rfl, Nat.le_of_ble_eq_true rfl⟩) (fun u H locs hw hI => ?_)
            obtain ⟨g1, rfl, AFg1, hvg1, hog1, hQg1⟩ := hAk.am (by omega) hw
            have hSg1 := hSk.q hQg1 AFg1
            obtain ⟨-, ⟨-, -, -, -, -, -, m7g1⟩, ⟨-, -, mb1g1, mb2g1⟩, -⟩ := id hSg1
            obtain ⟨-, -, -, -, hb1g1, hb2g1⟩ := hSg1.co hin
            have a0 := hog1 0 (by omega) (by omega)
            have a1 := hog1 1 (by omega) (by omega)
            have a5 := hog1 (5 + 2 * i) (by omega) (by omega)
            have a6 := hog1 (6 + 2 * i) (by omega) (by omega)
            refine lv_aload_n hx hb dX8_flowToCase_104 rfl (lv_at hl 7 rfl) ?_
            refine z_get (k := 10) (j := 7) hM hI k0 rfl rfl hinX8 rfl (by decide) (by decide +kernel) (fun _ h9 => h9) dX8_flowToCase_105 (fun v9 hv9 => ?_)
            obtain ⟨hg9, r9, rfl, -⟩ := hv9
            obtain rfl : (a 4) = r9 := Value.ref.inj ((m7g1).symm.trans hg9.symm)
            clear hg9
            refine lv_aload hx hb dX8_flowToCase_108 (lv_at hl 0 rfl) ?_
            refine z_get (k := 31) (j := 2) hM hI k6 rfl rfl hinX1 rfl (by decide) (by decide +kernel) (fun _ h9 => h9) dX8_flowToCase_110 (fun v9 hv9 => ?_)
            obtain ⟨hg9, r9, rfl, -⟩ := hv9
            obtain rfl : (a 1) = r9 := Value.ref.inj ((mb2g1).symm.trans hg9.symm)
            clear hg9
            obtain ⟨hkk15, hqk15, uk15, hnk15⟩ := AFg1.1 4 (by omega)
            obtain ⟨hkk16, hqk16, uk16, hnk16⟩ := AFg1.1 1 (by omega)
            refine z_cv hI (va_runV (As := [.ref (a 1)]) (rest := []) ⟨hx, hb, hml, hown, hts⟩ (a_X0_takeAway l _ _ _ _ _ _ _ (a 4) (q 4) uk15 _ _ (a 1) (q 1) uk16 _ _  (kx_ok 4) hkk15 hqk15 hnk15 (kx_ok 1) hkk16 hqk16 hnk16 (AFg1.2 1 4 (by omega) (by omega) (by omega)).1 (AFg1.2 1 4 (by omega) (by omega) (by omega)).2 (by omega)) (cwV 1 hts gX8_flowToCase_X0_takeAway rfl rfl rfl (by decide +kernel) ⟨Nat.le_of_ble_eq_true rfl, Nat.le_of_ble_eq_true rfl⟩) (z_preV hK hE hI [] rfl rfl (z_recv hK hI hkk15 (kx_ok 4).1 rfl)) rfl rfl hl.1 rfl (lv_room (Nat.le_of_ble_eq_true rfl)) dX8_flowToCase_113 ⟨Nat.le_of_ble_eq_true rfl, Nat.le_of_ble_eq_true rfl⟩) (fun u H locs hw hI => ?_)
            obtain ⟨g2, rfl, AFg2, hvg2, hog2, hQg2⟩ := AFg1.am (by omega) hw
            have hSg2 := hSg1.q hQg2 AFg2
            obtain ⟨-, ⟨-, -, -, -, -, -, m7g2⟩, ⟨-, -, mb1g2, mb2g2⟩, -⟩ := id hSg2
            obtain ⟨-, -, -, -, hb1g2, hb2g2⟩ := hSg2.co hin
            have b0 := hog2 0 (by omega) (by omega)
            have b5 := hog2 (5 + 2 * i) (by omega) (by omega)
            refine lv_aload hx hb dX8_flowToCase_116 (lv_at hl 1 rfl) ?_
            refine lv_aload_n hx hb dX8_flowToCase_118 rfl (lv_at hl 7 rfl) ?_
            refine z_get (k := 10) (j := 7) hM hI k0 rfl rfl hinX8 rfl (by decide) (by decide +kernel) (fun _ h9 => h9) dX8_flowToCase_119 (fun v9 hv9 => ?_)
            obtain ⟨hg9, r9, rfl, -⟩ := hv9
            obtain rfl : (a 4) = r9 := Value.ref.inj ((m7g2).symm.trans hg9.symm)
            clear hg9
            obtain ⟨hkk17, hqk17, uk17, hnk17⟩ := AFg2.1 (5 + 2 * i) (by omega)
            obtain ⟨hkk18, hqk18, uk18, hnk18⟩ := AFg2.1 (6 + 2 * i) (by omega)
            obtain ⟨hkk19, hqk19, uk19, hnk19⟩ := AFg2.1 4 (by omega)
            refine z_cv hI (va_runV (As := [.ref (a 4)]) (rest := []) ⟨hx, hb, hml, hown, hts⟩ (a_X1_giveAway l _ _ _ _ _ _ _ (b i) 3 32 33 20 rfl (by decide) kb (a (5 + 2 * i)) (q (5 + 2 * i)) uk17 _ _ (a (6 + 2 * i)) (q (6 + 2 * i)) uk18 _ _ (a 4) (q 4) uk19 _ _ hb1g2 hb2g2 (kx_h _).symm (kx_d _).symm (kx_ok (5 + 2 * i)) hkk17 hqk17 hnk17 (kx_ok (6 + 2 * i)) hkk18 hqk18 hnk18 (kx_ok 4) hkk19 hqk19 hnk19 (AFg2.2 4 (5 + 2 * i) (by omega) (by omega) (by omega)).1 (AFg2.2 4 (5 + 2 * i) (by omega) (by omega) (by omega)).2 (AFg2.2 (6 + 2 * i) (5 + 2 * i) (by omega) (by omega) (by omega)).1 (AFg2.2 (6 + 2 * i) (5 + 2 * i) (by omega) (by omega) (by omega)).2 (by omega)) (cwV 1 hts gX8_flowToCase_X1_giveAway rfl rfl rfl (by decide +kernel) ⟨Nat.le_of_ble_eq_true rfl, Nat.le_of_ble_eq_true rfl⟩) (z_preV hK hE hI [] rfl rfl (z_recv hK hI kb rfl rfl)) rfl rfl hl.1 rfl (lv_room (Nat.le_of_ble_eq_true rfl)) dX8_flowToCase_122 ⟨Nat.le_of_ble_eq_true rfl, Nat.le_of_ble_eq_true rfl⟩) (fun u H locs hw hI => ?_)
            obtain ⟨g3, rfl, AFg3, hvg3, hdg3, hog3, hQg3⟩ := AFg2.bm (by omega) (by omega) (by omega) hw
            have hSg3 := hSg2.q hQg3 AFg3
            obtain ⟨-, ⟨-, -, -, -, -, -, m7g3⟩, ⟨-, -, mb1g3, mb2g3⟩, -⟩ := id hSg3
            obtain ⟨-, -, -, -, hb1g3, hb2g3⟩ := hSg3.co hin
            have d4 := hog3 4 (by omega) (by omega) (by omega)
            have d7 := hog3 0 (by omega) (by omega) (by omega)
            refine lv_aload hx hb dX8_flowToCase_125 (lv_at hl 0 rfl) ?_
            refine lv_aload_n hx hb dX8_flowToCase_127 rfl (lv_at hl 7 rfl) ?_
            refine z_get (k := 10) (j := 7) hM hI k0 rfl rfl hinX8 rfl (by decide) (by decide +kernel) (fun _ h9 => h9) dX8_flowToCase_128 (fun v9 hv9 => ?_)
            obtain ⟨hg9, r9, rfl, -⟩ := hv9
            obtain rfl : (a 4) = r9 := Value.ref.inj ((m7g3).symm.trans hg9.symm)
            clear hg9
            obtain ⟨hkk20, hqk20, uk20, hnk20⟩ := AFg3.1 0 (by omega)
            obtain ⟨hkk21, hqk21, uk21, hnk21⟩ := AFg3.1 1 (by omega)
            obtain ⟨hkk22, hqk22, uk22, hnk22⟩ := AFg3.1 4 (by omega)
            refine z_cv hI (va_runV (As := [.ref (a 4)]) (rest := []) ⟨hx, hb, hml, hown, hts⟩ (a_X1_gain l _ _ _ _ _ _ _ (P 6) 31 34 35 200 rfl (by decide) k6 (a 0) (q 0) uk20 _ _ (a 1) (q 1) uk21 _ _ (a 4) (q 4) uk22 _ _ mb1g3 mb2g3 rfl rfl (kx_ok 0) hkk20 hqk20 hnk20 (kx_ok 1) hkk21 hqk21 hnk21 (kx_ok 4) hkk22 hqk22 hnk22 (AFg3.2 4 0 (by omega) (by omega) (by omega)).1 (AFg3.2 4 0 (by omega) (by omega) (by omega)).2 (AFg3.2 1 0 (by omega) (by omega) (by omega)).1 (AFg3.2 1 0 (by omega) (by omega) (by omega)).2 (by omega)) (cwV 1 hts gX8_flowToCase_X1_gain rfl rfl rfl (by decide +kernel) ⟨Nat.le_of_ble_eq_true rfl, Nat.le_of_ble_eq_true rfl⟩) (z_preV hK hE hI [] rfl rfl (z_recv hK hI k6 rfl rfl)) rfl rfl hl.1 rfl (lv_room (Nat.le_of_ble_eq_true rfl)) dX8_flowToCase_131 ⟨Nat.le_of_ble_eq_true rfl, Nat.le_of_ble_eq_true rfl⟩) (fun u H locs hw hI => ?_)
            obtain ⟨g4, rfl, AFg4, hvg4, hdg4, hog4, hQg4⟩ := AFg3.bm (by omega) (by omega) (by omega) hw
            have hSg4 := hSg3.q hQg4 AFg4
            have f7 := hog4 (5 + 2 * i) (by omega) (by omega) (by omega)
            have f8 := hog4 (6 + 2 * i) (by omega) (by omega) (by omega)
            obtain ⟨hH4, hT4⟩ := hHk.flow hin (g2 := g4) (fun y y0 y4 y1 y2 y5 y6 => (hog4 y y0 y1 y2).trans ((hog3 y y0 y5 y6).trans ((hog2 y y0 y4).trans (hog1 y y0 y4)))) (f := zV gk (q 1) - zV gk (q (6 + 2 * i))) rfl (by omega) (by rw [hdg4, hvg4]; rfl) (by omega) (by rw [f8, f7, hdg3, hvg3]; rfl)
            have h24 : zV g4 (q 2) = zV gk (q 2) := by
              have e1 := hog4 2 (by omega) (by omega) (by omega)
              have e2 := hog3 2 (by omega) (by omega) (by omega)
              have e3 := hog2 2 (by omega) (by omega)
              have e4 := hog1 2 (by omega) (by omega)
              omega
            have h34 : zV g4 (q 3) = zV gk (q 3) := by
              have e1 := hog4 3 (by omega) (by omega) (by omega)
              have e2 := hog3 3 (by omega) (by omega) (by omega)
              have e3 := hog2 3 (by omega) (by omega)
              have e4 := hog1 3 (by omega) (by omega)
              omega
            refine lv_iinc (v := nI (i + 1)) (lv' := [(3, .int (nI (i + 1))), (7, .ref (P 6)), (6, .ref (b i)), (5, .int 0), (4, .ref (cf i)), (2, .int 6), (1, .ref (P 1)), (0, .ref (P 0))]) hx hb dX8_flowToCase_134 hl (k := 4) rfl (z_inc i) (by decide) rfl (fun ls hl => ?_)
            refine lv_goto (tgt := 10) hx hb dX8_flowToCase_137 (by decide) ?_
            exact ih _ _ g4 (i + 1) (by omega) (by omega) hSg4 (hQk.tr (((hQg1.tr hQg2).tr hQg3).tr hQg4)) hH4 (hT4.trans hT) (h24.trans h2k) (h34.trans h3k) hI _ (lv_sub hl [0, 5, 6, 7] rfl)
        · rw [hx9.trans (hSk.2.2.2.2.2.1 i (by omega) (by omega))]
          refine lv_astoreN (lv' := [(4, .null), (3, .int (nI i)), (2, .int 6), (1, .ref (P 1)), (0, .ref (P 0))]) hx hb dX8_flowToCase_18 hl (by decide) rfl (fun ls hl => ?_)
          refine lv_aloadN hx hb dX8_flowToCase_20 (lv_at hl 0 rfl) ?_
          refine lv_ifnullN (tgt := 134) hx hb dX8_flowToCase_22 (by decide) ?_
          refine lv_iinc (v := nI (i + 1)) (lv' := [(3, .int (nI (i + 1))), (4, .null), (2, .int 6), (1, .ref (P 1)), (0, .ref (P 0))]) hx hb dX8_flowToCase_134 hl (k := 1) rfl (z_inc i) (by decide) rfl (fun ls hl => ?_)
          refine lv_goto (tgt := 10) hx hb dX8_flowToCase_137 (by decide) ?_
          exact ih _ _ gk (i + 1) (by omega) (by omega) hSk hQk hHk hT h2k h3k hI _ (lv_sub hl [0, 2, 3, 4] rfl)
  exact hL 7 _ _ g 0 (by omega) (by omega) hS zQ.rf hH9 rfl rfl rfl hI _ (lv_sub hl [0, 1, 2, 3] rfl)
