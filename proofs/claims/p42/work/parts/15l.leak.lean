set_option maxHeartbeats 4000000 in
set_option maxRecDepth 100000 in
theorem a_X3_tellLeak (l : Launch) (D : va_G) (tc : Nat → ClassId) (z0 : Nat) (L : List Nat) (κ : Nat → Nat) (g : Nat → Nat → Value) (sz : Nat) (p0 : Nat) (hk0 : κ p0 = 5) (a q : Nat → Nat) (N : Nat) (hAF : zAF κ g a q N) (x : Nat) (hxN : x < N) (h4N : 4 < N) (hx4 : x ≠ 4) (hkx : kx x = 33) (b0 : Nat) (hb15 : g p0 15 = .ref b0) (hbd : g b0 2 = .ref (a x)) (hV9 : zV g (q x) < 4294967296 ^ 15 * 1048576) : Met l yX3_tellLeak wsX3_tellLeak ({ frames := 4, cells := 0, slots := 0, locals := 100 }) (zPc D tc z0 ([.ref p0, .ref (a 4)] : List Value) [] (L, κ, g) sz) (va_Qv (fun (u : zS) => ∃ v : Int, 0 ≤ v ∧ v * 5000 ≤ zV g (q x) * 2944 ∧ ∃ g2, u = (L, κ, g2) ∧ zAF κ g2 a q N ∧ zV g2 (q 4) = v ∧ (∀ y, y < N → y ≠ 4 → zV g2 (q y) = zV g (q y)) ∧ zQ κ g g2) (fun (u : zS) (t : State) => zB D tc (zA [] L sz) [] u t) (zA [] L sz)) 0 0 (zA [] L sz) := by
  refine Met.ofW (cc := cX3_tellLeak) (maxL := 2) (ret := none) (by decide) rfl ?_
  intro p e9 s m args below meth c s₁ B hml hv
  obtain ⟨rfl, rfl, hK, hE, hI⟩ := hv.opn
  have hx := B.exec
  have hb := B.bytes
  have hr := B.returns
  have hts := atoms_spec (ws := wsX3_tellLeak) B.pre
  have hown : s.vm.findClass RX3 = some m.cls := findClass_of_methodNamed B.named
  have hlocks := B.notSynchronized
  have hM : zM p s m c cX3_tellLeak _ wsX3_tellLeak RX3 D tc := ⟨hx, hb, hts, hown, hK⟩
  have hinX3 : ∀ w ∈ wsX30, w ∈ wsX3_tellLeak := by decide +kernel
  have hl := lv_entry ([.ref p0, .ref (a 4)] : List Value) (n := 2) (Nat.le_of_ble_eq_true rfl)
  rw [lg_entry_eq]
  generalize (lg_sl ([.ref p0, .ref (a 4)] : List Value) ++ List.replicate (2 - (lg_sl ([.ref p0, .ref (a 4)] : List Value)).length) Slot.unset).toArray = ls at hl ⊢
  have hl : lv_has ls 2 [(0, .ref p0), (1, .ref (a 4))] := hl
  have hinX1 : ∀ w ∈ wsX10, w ∈ wsX3_tellLeak := by decide +kernel
  have hinX4 : ∀ w ∈ wsX40, w ∈ wsX3_tellLeak := by decide +kernel
  have hinX0 : ∀ w ∈ wsX00, w ∈ wsX3_tellLeak := by decide +kernel
  have hnn := hAF.nn hxN
  refine lv_aload_n hx hb dX3_tellLeak_0 rfl (lv_at hl 0 rfl) ?_
  refine z_get (k := 5) (j := 9) hM hI hk0 rfl rfl hinX3 rfl (by decide) (by decide +kernel) (fun _ h9 => h9) dX3_tellLeak_1 (fun v9 hv9 => ?_)
  obtain ⟨y9, rfl, -⟩ := hv9
  refine lv_bipush (v := 100) hx hb dX3_tellLeak_4 (by decide) ?_
  refine lv_icmp_ne (tgt := 15) hx hb dX3_tellLeak_6 (by decide) (fun c1 => ?_) (fun c1 => ?_)
  · skip
    refine lv_aload_n hx hb dX3_tellLeak_15 rfl (lv_at hl 1 rfl) ?_
    refine lv_aload_n hx hb dX3_tellLeak_16 rfl (lv_at hl 0 rfl) ?_
    refine z_get (k := 5) (j := 15) hM hI hk0 rfl rfl hinX3 rfl (by decide) (by decide +kernel) (fun _ h9 => h9) dX3_tellLeak_17 (fun v9 hv9 => ?_)
    obtain ⟨hg9, r9, rfl, hr9⟩ := hv9
    obtain rfl : b0 = r9 := Value.ref.inj (hb15.symm.trans hg9.symm)
    refine z_get (k := 3) (j := 2) hM hI hr9 rfl rfl hinX1 rfl (by decide) (by decide +kernel) (fun _ h9 => h9) dX3_tellLeak_20 (fun v9 hv9 => ?_)
    obtain ⟨hg9, r9, rfl, -⟩ := hv9
    obtain rfl : (a x) = r9 := Value.ref.inj ((hbd).symm.trans hg9.symm)
    clear hg9
    refine lv_aload_n hx hb dX3_tellLeak_23 rfl (lv_at hl 0 rfl) ?_
    refine z_get (k := 5) (j := 1) hM hI hk0 rfl rfl hinX3 rfl (by decide) (by decide +kernel) (fun _ h9 => h9) dX3_tellLeak_24 (fun v9 hv9 => ?_)
    obtain ⟨r4, rfl, hr4⟩ := hv9
    refine z_get (k := 6) (j := 0) hM hI hr4 rfl rfl hinX4 rfl (by decide) (by decide +kernel) (fun _ h9 => h9) dX3_tellLeak_27 (fun v9 hv9 => ?_)
    obtain ⟨mv, rfl, hmvl, hmvh⟩ := hv9
    have hmvh : mv.toInt < 2945 := hmvh
    have hp1 : zV g (q x) * mv.toInt ≤ zV g (q x) * 2944 := Int.mul_le_mul_of_nonneg_left (by omega) hnn
    have hp0 : 0 ≤ zV g (q x) * mv.toInt := Int.mul_nonneg hnn hmvl
    obtain ⟨hkk1, hqk1, uk1, hnk1⟩ := hAF.1 4 h4N
    obtain ⟨hkk2, hqk2, uk2, hnk2⟩ := hAF.1 x hxN
    refine z_cv hI (va_runV (As := [.ref (a x), .int mv]) (rest := []) ⟨hx, hb, hml, hown, hts⟩ (a_X0_becomeProduct l _ _ _ _ _ _ _ (a 4) (q 4) uk1 _ _ (a x) (q x) uk2 _ _ mv (kx_ok 4) hkk1 hqk1 hnk1.toZN0 (kx_ok x) hkk2 hqk2 hnk2.toZN0 hmvl (by omega)) (cwV 2 hts gX3_tellLeak_X0_becomeProduct rfl rfl rfl (by decide +kernel) ⟨Nat.le_of_ble_eq_true rfl, Nat.le_of_ble_eq_true rfl⟩) (z_preV hK hE hI [] rfl rfl (z_recv hK hI hkk1 (kx_ok 4).1 rfl)) rfl rfl hl.1 rfl (lv_room (Nat.le_of_ble_eq_true rfl)) dX3_tellLeak_30 ⟨Nat.le_of_ble_eq_true rfl, Nat.le_of_ble_eq_true rfl⟩) (fun u H locs hw hI => ?_)
    obtain ⟨g1, rfl, AFg1, hvg1, hog1, hQg1⟩ := hAF.am h4N hw
    refine lv_aload_n hx hb dX3_tellLeak_33 rfl (lv_at hl 1 rfl) ?_
    refine lv_aload_n hx hb dX3_tellLeak_34 rfl (lv_at hl 1 rfl) ?_
    refine lv_sipush (v := 5000) hx hb dX3_tellLeak_35 (by decide) ?_
    obtain ⟨hkk3, hqk3, uk3, hnk3⟩ := AFg1.1 4 h4N
    obtain ⟨hkk4, hqk4, uk4, hnk4⟩ := AFg1.1 4 h4N
    refine z_cv hI (va_runV (As := [.ref (a 4), .int 5000]) (rest := []) ⟨hx, hb, hml, hown, hts⟩ (a_X0_becomeQuotient l _ _ _ _ _ _ _ (a 4) (q 4) uk3 _ _ (a 4) (q 4) uk4 _ _ 5000 (kx_ok 4) hkk3 hqk3 hnk3.toZN0 (kx_ok 4) hkk4 hqk4 hnk4.toZN0 (by decide)) (cwV 2 hts gX3_tellLeak_X0_becomeQuotient rfl rfl rfl (by decide +kernel) ⟨Nat.le_of_ble_eq_true rfl, Nat.le_of_ble_eq_true rfl⟩) (z_preV hK hE hI [] rfl rfl (z_recv hK hI hkk3 (kx_ok 4).1 rfl)) rfl rfl hl.1 rfl (lv_room (Nat.le_of_ble_eq_true rfl)) dX3_tellLeak_38 ⟨Nat.le_of_ble_eq_true rfl, Nat.le_of_ble_eq_true rfl⟩) (fun u H locs hw hI => ?_)
    obtain ⟨g2, rfl, AFg2, hvg2, hog2, hQg2⟩ := AFg1.am h4N hw
    rw [hvg1, show (5000 : Int32).toInt = 5000 from rfl] at hvg2
    have ho2 : ∀ y, y < N → y ≠ 4 → zV g2 (q y) = zV g (q y) := fun y h1 h2 => (hog2 y h1 h2).trans (hog1 y h1 h2)
    refine lv_aload_n hx hb dX3_tellLeak_41 rfl (lv_at hl 0 rfl) ?_
    refine z_get (k := 5) (j := 9) hM hI hk0 rfl rfl hinX3 rfl (by decide) (by decide +kernel) (fun _ h9 => h9) dX3_tellLeak_42 (fun v9 hv9 => ?_)
    obtain ⟨y9, rfl, -⟩ := hv9
    refine lv_bipush (v := 108) hx hb dX3_tellLeak_45 (by decide) ?_
    refine lv_icmp_ne (tgt := 56) hx hb dX3_tellLeak_47 (by decide) (fun _ => ?_) (fun _ => ?_)
    · skip
      exact W.vret hx hb hr (fun t ht hW => ⟨⟨(L, κ, g2), rfl, ⟨_, by omega, by omega, g2, rfl, AFg2, hvg2, ho2, hQg1.tr hQg2⟩, z_end hK hI ht hW⟩, z_F hI ht⟩) (z_locs hI) dX3_tellLeak_56
    · skip
      refine lv_aload_n hx hb dX3_tellLeak_50 rfl (lv_at hl 1 rfl) ?_
      refine lv_aload_n hx hb dX3_tellLeak_51 rfl (lv_at hl 1 rfl) ?_
      refine lv_iconst (v := 2) hx hb dX3_tellLeak_52 (by decide) ?_
      obtain ⟨hkk5, hqk5, uk5, hnk5⟩ := AFg2.1 4 h4N
      obtain ⟨hkk6, hqk6, uk6, hnk6⟩ := AFg2.1 4 h4N
      refine z_cv hI (va_runV (As := [.ref (a 4), .int 2]) (rest := []) ⟨hx, hb, hml, hown, hts⟩ (a_X0_becomeQuotient l _ _ _ _ _ _ _ (a 4) (q 4) uk5 _ _ (a 4) (q 4) uk6 _ _ 2 (kx_ok 4) hkk5 hqk5 hnk5.toZN0 (kx_ok 4) hkk6 hqk6 hnk6.toZN0 (by decide)) (cwV 2 hts gX3_tellLeak_X0_becomeQuotient rfl rfl rfl (by decide +kernel) ⟨Nat.le_of_ble_eq_true rfl, Nat.le_of_ble_eq_true rfl⟩) (z_preV hK hE hI [] rfl rfl (z_recv hK hI hkk5 (kx_ok 4).1 rfl)) rfl rfl hl.1 rfl (lv_room (Nat.le_of_ble_eq_true rfl)) dX3_tellLeak_53 ⟨Nat.le_of_ble_eq_true rfl, Nat.le_of_ble_eq_true rfl⟩) (fun u H locs hw hI => ?_)
      obtain ⟨g3, rfl, AFg3, hvg3, hog3, hQg3⟩ := AFg2.am h4N hw
      rw [hvg2, show (2 : Int32).toInt = 2 from rfl] at hvg3
      exact W.vret hx hb hr (fun t ht hW => ⟨⟨(L, κ, g3), rfl, ⟨_, by omega, by omega, g3, rfl, AFg3, hvg3, fun y h1 h2 => (hog3 y h1 h2).trans (ho2 y h1 h2), (hQg1.tr hQg2).tr hQg3⟩, z_end hK hI ht hW⟩, z_F hI ht⟩) (z_locs hI) dX3_tellLeak_56
  · skip
    refine lv_aload_n hx hb dX3_tellLeak_9 rfl (lv_at hl 1 rfl) ?_
    refine lv_iconst (v := 0) hx hb dX3_tellLeak_10 (by decide) ?_
    obtain ⟨hkk7, hqk7, uk7, hnk7⟩ := hAF.1 4 h4N
    refine z_cv hI (va_runV (As := [.int 0]) (rest := []) ⟨hx, hb, hml, hown, hts⟩ (a_X0_become l _ _ _ _ _ _ _ (a 4) (q 4) uk7 _ _ 0 (kx_ok 4) hkk7 hqk7 hnk7.toZN0 (by decide)) (cwV 1 hts gX3_tellLeak_X0_become rfl rfl rfl (by decide +kernel) ⟨Nat.le_of_ble_eq_true rfl, Nat.le_of_ble_eq_true rfl⟩) (z_preV hK hE hI [] rfl rfl (z_recv hK hI hkk7 (kx_ok 4).1 rfl)) rfl rfl hl.1 rfl (lv_room (Nat.le_of_ble_eq_true rfl)) dX3_tellLeak_11 ⟨Nat.le_of_ble_eq_true rfl, Nat.le_of_ble_eq_true rfl⟩) (fun u H locs hw hI => ?_)
    obtain ⟨g1, rfl, AFg1, hvg1, hog1, hQg1⟩ := hAF.am h4N hw
    exact W.vret hx hb hr (fun t ht hW => ⟨⟨(L, κ, g1), rfl, ⟨0, by omega, by omega, g1, rfl, AFg1, hvg1, hog1, hQg1⟩, z_end hK hI ht hW⟩, z_F hI ht⟩) (z_locs hI) dX3_tellLeak_14
