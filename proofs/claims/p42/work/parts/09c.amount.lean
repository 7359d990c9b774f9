set_option maxHeartbeats 4000000 in
set_option maxRecDepth 100000 in
theorem a_X0_dropZeros (l : Launch) (D : va_G) (tc : Nat → ClassId) (z0 : Nat) (L : List Nat) (κ : Nat → Nat) (g : Nat → Nat → Value) (sz : Nat) (p0 q0 u0 K0 A0 : Nat) (hK0 : zAK K0 A0) (hk0 : κ p0 = K0) (hq0 : κ q0 = A0) (hN0 : zN0 g p0 q0 u0) : Met l yX0_dropZeros wsX0_dropZeros ({ frames := 0, cells := 0, slots := 0, locals := 0 }) (zPc D tc z0 ([.ref p0] : List Value) [] (L, κ, g) sz) (va_Qv (fun (u : zS) => zAm L κ g p0 q0 (zV g q0) u) (fun (u : zS) (t : State) => zB D tc (zA [] L sz) [] u t) (zA [] L sz)) 0 0 (zA [] L sz) := by
  refine Met.ofW (cc := cX0_dropZeros) (maxL := 1) (ret := none) (by decide) rfl ?_
  intro p e9 s m args below meth c s₁ B hml hv
  obtain ⟨rfl, rfl, hK, hE, hI⟩ := hv.opn
  have hx := B.exec
  have hb := B.bytes
  have hr := B.returns
  have hts := atoms_spec (ws := wsX0_dropZeros) B.pre
  have hown : s.vm.findClass RX0 = some m.cls := findClass_of_methodNamed B.named
  have hlocks := B.notSynchronized
  have hM : zM p s m c cX0_dropZeros _ wsX0_dropZeros RX0 D tc := ⟨hx, hb, hts, hown, hK⟩
  have hinX0 : ∀ w ∈ wsX00, w ∈ wsX0_dropZeros := by decide +kernel
  have hl := lv_entry ([.ref p0] : List Value) (n := 1) (Nat.le_of_ble_eq_true rfl)
  rw [lg_entry_eq]
  generalize (lg_sl ([.ref p0] : List Value) ++ List.replicate (1 - (lg_sl ([.ref p0] : List Value)).length) Slot.unset).toArray = ls at hl ⊢
  have hl : lv_has ls 1 [(0, .ref p0)] := hl
  have hpq : p0 ≠ q0 := hK0.ne hk0 hq0
  have hL : ∀ (n : Nat) (H : Heap) (locs : List Loc) (gk : Nat → Nat → Value) (i : Nat) (hn : i < n) (hn0 : zN0 gk p0 q0 i) (hv : zV gk q0 = zV g q0) (hf : zFr p0 q0 g gk) (hI : zI D tc (zA [] L s.heap.size) s.heap [] L κ gk H locs) (ls : Array Slot) (hl : lv_has ls 1 [(0, .ref p0)]), W p l e9 (headSpec wsX0_dropZeros ({ frames := 0, cells := 0, slots := 0, locals := 0 })).room s m ([.ref p0] : List Value).toArray below meth c H locs 0 0 (MQ below (va_Qv (fun (u : zS) => zAm L κ g p0 q0 (zV g q0) u) (fun (u : zS) (t : State) => zB D tc (zA [] L s.heap.size) [] u t) (zA [] L s.heap.size)) ([.ref p0] : List Value).toArray s 0 0 (zA [] L s.heap.size)) (F0 m 0 ls []) := by
    intro n
    induction n with
    | zero => intro H locs gk i hn; exact absurd hn (Nat.not_lt_zero _)
    | succ n ih =>
      intro H locs gk i hn hn0 hv hf hI ls hl
      have hi16 := hn0.le
      refine lv_aload_n hx hb dX0_dropZeros_0 rfl (lv_at hl 0 rfl) ?_
      refine z_get (k := K0) (j := 1) hM hI hk0 hK0.1 rfl hinX0 rfl (by decide) (by decide +kernel) (fun _ h9 => h9) dX0_dropZeros_1 (fun v9 hv9 => ?_)
      obtain ⟨hg9, i9, rfl⟩ := hv9
      obtain rfl : nI i = i9 := Value.int.inj ((hn0.us).symm.trans hg9.symm)
      clear hg9
      refine lv_if_le (tgt := 36) hx hb dX0_dropZeros_4 (by decide) (fun c1 => ?_) (fun c1 => ?_)
      · have h0 : i = 0 := by
          rcases Nat.eq_zero_or_pos i with h | h
          · exact h
          · exact absurd c1 (nI_nle h (by omega))
        subst h0
        exact W.vret hx hb hr (fun t ht hW => ⟨⟨(L, κ, gk), rfl, ⟨gk, 0, rfl, ⟨hn0, Or.inl rfl⟩, hv, hf⟩, z_end hK hI ht hW⟩, z_F hI ht⟩) (z_locs hI) dX0_dropZeros_36
      · rcases i with _ | k
        · exact absurd (by decide) c1
        refine lv_aload_n hx hb dX0_dropZeros_7 rfl (lv_at hl 0 rfl) ?_
        refine z_get (k := K0) (j := 0) hM hI hk0 hK0.1 rfl hinX0 rfl (by decide) (by decide +kernel) (fun _ h9 => h9) dX0_dropZeros_8 (fun v9 hv9 => ?_)
        obtain ⟨hg9, r9, rfl, -⟩ := hv9
        obtain rfl : q0 = r9 := Value.ref.inj ((hn0.r).symm.trans hg9.symm)
        clear hg9
        refine lv_aload_n hx hb dX0_dropZeros_11 rfl (lv_at hl 0 rfl) ?_
        refine z_get (k := K0) (j := 1) hM hI hk0 hK0.1 rfl hinX0 rfl (by decide) (by decide +kernel) (fun _ h9 => h9) dX0_dropZeros_12 (fun v9 hv9 => ?_)
        obtain ⟨hg9, i9, rfl⟩ := hv9
        obtain rfl : nI (k + 1) = i9 := Value.int.inj ((hn0.us).symm.trans hg9.symm)
        clear hg9
        refine lv_iconst (v := 1) hx hb dX0_dropZeros_15 (by decide) ?_
        refine lv_isub hx hb dX0_dropZeros_16 ?_
        rw [nI_pred]
        refine z_lald hM hI hq0 hK0.2.1 hK0.2.2 (vp_in_nI (by omega) (by omega)) dX0_dropZeros_17 (fun x hvx => ?_)
        obtain ⟨hvx, -⟩ := hvx
        rw [nI_clamp (by omega)] at hvx
        have hxd : dg gk q0 k = x.toInt := dg_at hvx.symm
        refine lv_lconst (v := 0) hx hb dX0_dropZeros_18 (by decide) ?_
        refine W.lcmp hx hb dX0_dropZeros_19 ?_
        refine lv_if_ne (tgt := 36) hx hb dX0_dropZeros_20 (by decide) (fun c2 => ?_) (fun c2 => ?_)
        · have hx0 : x.toInt ≠ 0 := fun h => c2 ((lg_cmp_eq x 0).mpr (Int64.toInt_inj.mp h))
          exact W.vret hx hb hr (fun t ht hW => ⟨⟨(L, κ, gk), rfl, ⟨gk, k + 1, rfl, ⟨hn0, Or.inr (by rw [show k + 1 - 1 = k from rfl, hxd]; exact hx0)⟩, hv, hf⟩, z_end hK hI ht hW⟩, z_F hI ht⟩) (z_locs hI) dX0_dropZeros_36
        · have hx0 : x = 0 := (lg_cmp_eq x 0).mp c2
          have hx1 : dg gk q0 k = 0 := by rw [hxd, hx0]; rfl
          refine lv_aload_n hx hb dX0_dropZeros_23 rfl (lv_at hl 0 rfl) ?_
          refine lv_dup hx hb dX0_dropZeros_24 rfl ?_
          refine z_get (k := K0) (j := 1) hM hI hk0 hK0.1 rfl hinX0 rfl (by decide) (by decide +kernel) (fun _ h9 => h9) dX0_dropZeros_25 (fun v9 hv9 => ?_)
          obtain ⟨hg9, i9, rfl⟩ := hv9
          obtain rfl : nI (k + 1) = i9 := Value.int.inj ((hn0.us).symm.trans hg9.symm)
          clear hg9
          refine lv_iconst (v := 1) hx hb dX0_dropZeros_28 (by decide) ?_
          refine lv_isub hx hb dX0_dropZeros_29 ?_
          rw [nI_pred]
          obtain ⟨g2, hG9⟩ : ∃ g9, g9 = zup gk p0 1 (.int (nI k)) := ⟨_, rfl⟩
          have hsg2 : g2 p0 1 = .int (nI k) := by rw [hG9]; exact zup_self _ _ _ _
          have hog2 : ∀ b j, (b ≠ p0 ∨ j ≠ 1) → g2 b j = gk b j := fun b j h => by rw [hG9]; exact zup_ne h
          clear hG9
          refine z_put (g' := g2) (k := K0) (j := 1) hM hI hk0 hK0.1 rfl hinX0 tyX0 tyX0_ok nmX0 rfl (by decide) (by decide +kernel) (fun _ h9 => h9) rfl rfl rfl rfl ⟨hsg2.symm, _, rfl⟩ hog2 dX0_dropZeros_30 (fun H locs hI => ?_)
          refine lv_goto (tgt := 0) hx hb dX0_dropZeros_33 (by decide) ?_
          have e2 : ∀ j, dg g2 q0 j = dg gk q0 j := fun j => dg_eq (hog2 q0 j (Or.inl (Ne.symm hpq)))
          refine ih _ _ g2 k (by omega) ⟨(hog2 p0 0 (Or.inr (by decide))).trans hn0.r, hsg2, by omega, fun j hj => by rw [e2 j]; exact hn0.bd j hj, fun j h1 h2 => ?_⟩ ((vS_congr (fun j _ => e2 j)).trans hv) (hf.tr (fun b i _ h2 => hog2 b i h2)) hI _ hl
          rw [e2 j]
          by_cases hjk : j = k
          · rw [hjk]; exact hx1
          · exact hn0.hi j (by omega) h2
  exact hL (u0 + 1) _ _ g u0 (by omega) hN0 rfl zFr.rf hI _ hl

set_option maxHeartbeats 4000000 in
set_option maxRecDepth 100000 in
theorem a_X0_putOnTop (l : Launch) (D : va_G) (tc : Nat → ClassId) (z0 : Nat) (L : List Nat) (κ : Nat → Nat) (g : Nat → Nat → Value) (sz : Nat) (p0 q0 u0 K0 A0 : Nat) (pt : Int64) (hK0 : zAK K0 A0) (hk0 : κ p0 = K0) (hq0 : κ q0 = A0) (hN0 : zN0 g p0 q0 u0) (h0 : 0 ≤ pt.toInt) (h1 : pt.toInt < 4294967296) (h2 : u0 < 16 ∨ pt.toInt = 0) : Met l yX0_putOnTop wsX0_putOnTop ({ frames := 1, cells := 0, slots := 0, locals := 20 }) (zPc D tc z0 ([.ref p0, .long pt] : List Value) [] (L, κ, g) sz) (va_Qv (fun (u : zS) => zAm L κ g p0 q0 (zV g q0 + pt.toInt * 4294967296 ^ u0) u) (fun (u : zS) (t : State) => zB D tc (zA [] L sz) [] u t) (zA [] L sz)) 0 0 (zA [] L sz) := by
  refine Met.ofW (cc := cX0_putOnTop) (maxL := 3) (ret := none) (by decide) rfl ?_
  intro p e9 s m args below meth c s₁ B hml hv
  obtain ⟨rfl, rfl, hK, hE, hI⟩ := hv.opn
  have hx := B.exec
  have hb := B.bytes
  have hr := B.returns
  have hts := atoms_spec (ws := wsX0_putOnTop) B.pre
  have hown : s.vm.findClass RX0 = some m.cls := findClass_of_methodNamed B.named
  have hlocks := B.notSynchronized
  have hM : zM p s m c cX0_putOnTop _ wsX0_putOnTop RX0 D tc := ⟨hx, hb, hts, hown, hK⟩
  have hinX0 : ∀ w ∈ wsX00, w ∈ wsX0_putOnTop := by decide +kernel
  have hl := lv_entry ([.ref p0, .long pt] : List Value) (n := 3) (Nat.le_of_ble_eq_true rfl)
  rw [lg_entry_eq]
  generalize (lg_sl ([.ref p0, .long pt] : List Value) ++ List.replicate (3 - (lg_sl ([.ref p0, .long pt] : List Value)).length) Slot.unset).toArray = ls at hl ⊢
  have hl : lv_has ls 3 [(0, .ref p0), (1, .long pt)] := hl
  have hpq : p0 ≠ q0 := hK0.ne hk0 hq0
  have hu16 := hN0.le
  have hL : ∀ (H : Heap) (locs : List Loc) (gk : Nat → Nat → Value) (w : Nat) (hn0 : zN0 gk p0 q0 w) (hv : zV gk q0 = zV g q0 + pt.toInt * 4294967296 ^ u0) (hf : zFr p0 q0 g gk) (hI : zI D tc (zA [] L s.heap.size) s.heap [] L κ gk H locs), W p l e9 (headSpec wsX0_putOnTop ({ frames := 1, cells := 0, slots := 0, locals := 20 })).room s m ([.ref p0, .long pt] : List Value).toArray below meth c H locs 0 0 (MQ below (va_Qv (fun (u : zS) => zAm L κ g p0 q0 (zV g q0 + pt.toInt * 4294967296 ^ u0) u) (fun (u : zS) (t : State) => zB D tc (zA [] L s.heap.size) [] u t) (zA [] L s.heap.size)) ([.ref p0, .long pt] : List Value).toArray s 0 0 (zA [] L s.heap.size)) (F0 m 38 ls []) := by
    intro H locs gk w hn0 hv hf hI
    refine lv_aload_n hx hb dX0_putOnTop_38 rfl (lv_at hl 0 rfl) ?_
    refine z_cv hI (va_runV (As := []) (rest := []) ⟨hx, hb, hml, hown, hts⟩ (a_X0_dropZeros l _ _ _ _ _ _ _ p0 q0 w K0 A0 hK0 hk0 hq0 hn0) (cwV 0 hts gX0_putOnTop_X0_dropZeros rfl rfl rfl (by decide +kernel) ⟨Nat.le_of_ble_eq_true rfl, Nat.le_of_ble_eq_true rfl⟩) (z_preV hK hE hI [] rfl rfl (z_recv hK hI hk0 hK0.1 rfl)) rfl rfl hl.1 rfl (lv_room (Nat.le_of_ble_eq_true rfl)) dX0_putOnTop_39 ⟨Nat.le_of_ble_eq_true rfl, Nat.le_of_ble_eq_true rfl⟩) (fun u H locs hw hI => ?_)
    obtain ⟨g3, w3, rfl, hn3, hv3, hf3⟩ := hw
    exact W.vret hx hb hr (fun t ht hW => ⟨⟨(L, κ, g3), rfl, ⟨g3, w3, rfl, hn3, hv3.trans hv, hf.tr hf3⟩, z_end hK hI ht hW⟩, z_F hI ht⟩) (z_locs hI) dX0_putOnTop_42
  refine lv_lload_n hx hb dX0_putOnTop_0 rfl (lv_at hl 1 rfl) ?_
  refine lv_lconst (v := 0) hx hb dX0_putOnTop_1 (by decide) ?_
  refine W.lcmp hx hb dX0_putOnTop_2 ?_
  refine lv_if_le (tgt := 38) hx hb dX0_putOnTop_3 (by decide) (fun c1 => ?_) (fun c1 => ?_)
  · have h3 : pt.toInt = 0 := by
      have h4 := Int64.le_iff_toInt_le.mp ((lg_cmp_le pt 0).mp c1)
      have h5 : (0 : Int64).toInt = 0 := rfl
      omega
    exact hL _ _ g u0 hN0 (by rw [h3, Int.zero_mul, Int.add_zero]) zFr.rf hI
  · have h3 : u0 < 16 := by
      rcases h2 with h | h
      · exact h
      · exact absurd ((lg_cmp_le pt 0).mpr (Int64.le_iff_toInt_le.mpr (by rw [h]; decide))) c1
    refine lv_aload_n hx hb dX0_putOnTop_6 rfl (lv_at hl 0 rfl) ?_
    refine z_get (k := K0) (j := 1) hM hI hk0 hK0.1 rfl hinX0 rfl (by decide) (by decide +kernel) (fun _ h9 => h9) dX0_putOnTop_7 (fun v9 hv9 => ?_)
    obtain ⟨hg9, i9, rfl⟩ := hv9
    obtain rfl : nI u0 = i9 := Value.int.inj ((hN0.us).symm.trans hg9.symm)
    clear hg9
    refine lv_aload_n hx hb dX0_putOnTop_10 rfl (lv_at hl 0 rfl) ?_
    refine z_get (k := K0) (j := 0) hM hI hk0 hK0.1 rfl hinX0 rfl (by decide) (by decide +kernel) (fun _ h9 => h9) dX0_putOnTop_11 (fun v9 hv9 => ?_)
    obtain ⟨hg9, r9, rfl, -⟩ := hv9
    obtain rfl : q0 = r9 := Value.ref.inj ((hN0.r).symm.trans hg9.symm)
    clear hg9
    refine z_alen (v := 16) hM hI hq0 hK0.2.1 hK0.2.2 rfl (by decide) dX0_putOnTop_14 ?_
    refine lv_icmp_ge (tgt := 38) hx hb dX0_putOnTop_15 (by decide) (fun c2 => absurd (z_ge (a := u0) (b := 16) (by omega) (by omega) c2) (by omega)) (fun c2 => ?_)
    refine lv_aload_n hx hb dX0_putOnTop_18 rfl (lv_at hl 0 rfl) ?_
    refine z_get (k := K0) (j := 0) hM hI hk0 hK0.1 rfl hinX0 rfl (by decide) (by decide +kernel) (fun _ h9 => h9) dX0_putOnTop_19 (fun v9 hv9 => ?_)
    obtain ⟨hg9, r9, rfl, -⟩ := hv9
    obtain rfl : q0 = r9 := Value.ref.inj ((hN0.r).symm.trans hg9.symm)
    clear hg9
    refine lv_aload_n hx hb dX0_putOnTop_22 rfl (lv_at hl 0 rfl) ?_
    refine z_get (k := K0) (j := 1) hM hI hk0 hK0.1 rfl hinX0 rfl (by decide) (by decide +kernel) (fun _ h9 => h9) dX0_putOnTop_23 (fun v9 hv9 => ?_)
    obtain ⟨hg9, i9, rfl⟩ := hv9
    obtain rfl : nI u0 = i9 := Value.int.inj ((hN0.us).symm.trans hg9.symm)
    clear hg9
    refine lv_lload_n hx hb dX0_putOnTop_26 rfl (lv_at hl 1 rfl) ?_
    obtain ⟨g2, hG9⟩ : ∃ g9, g9 = zup g q0 u0 (.long pt) := ⟨_, rfl⟩
    have hsg2 : g2 q0 u0 = .long pt := by rw [hG9]; exact zup_self _ _ _ _
    have hog2 : ∀ b j, (b ≠ q0 ∨ j ≠ u0) → g2 b j = g b j := fun b j h => by rw [hG9]; exact zup_ne h
    clear hG9
    refine z_last (g' := g2) hM hI hq0 hK0.2.1 hK0.2.2 (vp_in_nI (by omega) (by omega)) ⟨by rw [nI_clamp (show u0 < 2 ^ 31 by omega)]; exact hsg2.symm, _, rfl⟩ (fun b j h => hog2 b j (by rw [nI_clamp (show u0 < 2 ^ 31 by omega)] at h; exact h)) dX0_putOnTop_27 (fun H locs hI => ?_)
    have hus2 : g2 p0 1 = .int (nI u0) := (hog2 p0 1 (Or.inl hpq)).trans hN0.us
    refine lv_aload_n hx hb dX0_putOnTop_28 rfl (lv_at hl 0 rfl) ?_
    refine lv_dup hx hb dX0_putOnTop_29 rfl ?_
    refine z_get (k := K0) (j := 1) hM hI hk0 hK0.1 rfl hinX0 rfl (by decide) (by decide +kernel) (fun _ h9 => h9) dX0_putOnTop_30 (fun v9 hv9 => ?_)
    obtain ⟨hg9, i9, rfl⟩ := hv9
    obtain rfl : nI u0 = i9 := Value.int.inj ((hus2).symm.trans hg9.symm)
    clear hg9
    refine lv_iconst (v := 1) hx hb dX0_putOnTop_33 (by decide) ?_
    refine lv_iadd hx hb dX0_putOnTop_34 ?_
    rw [nI_1]
    obtain ⟨g3, hG9⟩ : ∃ g9, g9 = zup g2 p0 1 (.int (nI (u0 + 1))) := ⟨_, rfl⟩
    have hsg3 : g3 p0 1 = .int (nI (u0 + 1)) := by rw [hG9]; exact zup_self _ _ _ _
    have hog3 : ∀ b j, (b ≠ p0 ∨ j ≠ 1) → g3 b j = g2 b j := fun b j h => by rw [hG9]; exact zup_ne h
    clear hG9
    refine z_put (g' := g3) (k := K0) (j := 1) hM hI hk0 hK0.1 rfl hinX0 tyX0 tyX0_ok nmX0 rfl (by decide) (by decide +kernel) (fun _ h9 => h9) rfl rfl rfl rfl ⟨hsg3.symm, _, rfl⟩ hog3 dX0_putOnTop_35 (fun H locs hI => ?_)
    have e3 : ∀ j, dg g3 q0 j = dg g2 q0 j := fun j => dg_eq (hog3 q0 j (Or.inl (Ne.symm hpq)))
    have e2 : ∀ j, j ≠ u0 → dg g2 q0 j = dg g q0 j := fun j hj => dg_eq (hog2 q0 j (Or.inr hj))
    have e1 : dg g2 q0 u0 = pt.toInt := dg_at hsg2
    refine hL _ _ g3 (u0 + 1) ⟨(hog3 p0 0 (Or.inr (by decide))).trans ((hog2 p0 0 (Or.inl hpq)).trans hN0.r), hsg3, by omega, fun j hj => ?_, fun j h4 h5 => ?_⟩ ?_ (fun b i h4 h5 => (hog3 b i h5).trans (hog2 b i (Or.inl h4))) hI
    · rw [e3 j]
      by_cases hj2 : j = u0
      · rw [hj2, e1]; exact ⟨h0, h1⟩
      · rw [e2 j hj2]; exact hN0.bd j hj
    · rw [e3 j, e2 j (by omega)]; exact hN0.hi j (by omega) h5
    · rw [zV, vS_congr (fun j _ => e3 j), vS_up e2 16, if_pos h3, e1, hN0.hi u0 (Nat.le_refl _) h3, Int.sub_zero]

set_option maxHeartbeats 4000000 in
set_option maxRecDepth 100000 in
theorem a_X0_reach (l : Launch) (D : va_G) (tc : Nat → ClassId) (z0 : Nat) (L : List Nat) (κ : Nat → Nat) (g : Nat → Nat → Value) (sz : Nat) (p0 q0 u0 K0 A0 : Nat) (p1 q1 u1 K1 A1 : Nat) (hK0 : zAK K0 A0) (hk0 : κ p0 = K0) (hq0 : κ q0 = A0) (hN0 : zN0 g p0 q0 u0) (hK1 : zAK K1 A1) (hk1 : κ p1 = K1) (hq1 : κ q1 = A1) (hN1 : zN0 g p1 q1 u1) : Met l yX0_reach wsX0_reach ({ frames := 1, cells := 0, slots := 0, locals := 22 }) (zPc D tc z0 ([.ref p0, .ref p1] : List Value) [] (L, κ, g) sz) (vp_Si (fun r : Int32 => r = nI (max u0 u1))) 0 0 (fun _ => False) := by
  refine Met.ofW (cc := cX0_reach) (maxL := 2) (ret := (some .int)) (by decide) rfl ?_
  intro p e9 s m args below meth c s₁ B hml hv
  obtain ⟨rfl, rfl, hK, hE, hI⟩ := hv.opn
  have hx := B.exec
  have hb := B.bytes
  have hr := B.returns
  have hts := atoms_spec (ws := wsX0_reach) B.pre
  have hown : s.vm.findClass RX0 = some m.cls := findClass_of_methodNamed B.named
  have hlocks := B.notSynchronized
  have hM : zM p s m c cX0_reach _ wsX0_reach RX0 D tc := ⟨hx, hb, hts, hown, hK⟩
  have hinX0 : ∀ w ∈ wsX00, w ∈ wsX0_reach := by decide +kernel
  have hl := lv_entry ([.ref p0, .ref p1] : List Value) (n := 2) (Nat.le_of_ble_eq_true rfl)
  rw [lg_entry_eq]
  generalize (lg_sl ([.ref p0, .ref p1] : List Value) ++ List.replicate (2 - (lg_sl ([.ref p0, .ref p1] : List Value)).length) Slot.unset).toArray = ls at hl ⊢
  have hl : lv_has ls 2 [(0, .ref p0), (1, .ref p1)] := hl
  have hu0 := hN0.le
  have hu1 := hN1.le
  refine lv_aload_n hx hb dX0_reach_0 rfl (lv_at hl 0 rfl) ?_
  refine z_get (k := K0) (j := 0) hM hI hk0 hK0.1 rfl hinX0 rfl (by decide) (by decide +kernel) (fun _ h9 => h9) dX0_reach_1 (fun v9 hv9 => ?_)
  obtain ⟨hg9, r9, rfl, -⟩ := hv9
  obtain rfl : q0 = r9 := Value.ref.inj ((hN0.r).symm.trans hg9.symm)
  clear hg9
  refine z_alen (v := 16) hM hI hq0 hK0.2.1 hK0.2.2 rfl (by decide) dX0_reach_4 ?_
  refine lv_aload_n hx hb dX0_reach_5 rfl (lv_at hl 0 rfl) ?_
  refine z_get (k := K0) (j := 1) hM hI hk0 hK0.1 rfl hinX0 rfl (by decide) (by decide +kernel) (fun _ h9 => h9) dX0_reach_6 (fun v9 hv9 => ?_)
  obtain ⟨hg9, i9, rfl⟩ := hv9
  obtain rfl : nI u0 = i9 := Value.int.inj ((hN0.us).symm.trans hg9.symm)
  clear hg9
  refine lv_aload_n hx hb dX0_reach_9 rfl (lv_at hl 1 rfl) ?_
  refine z_get (k := K1) (j := 1) hM hI hk1 hK1.1 rfl hinX0 rfl (by decide) (by decide +kernel) (fun _ h9 => h9) dX0_reach_10 (fun v9 hv9 => ?_)
  obtain ⟨hg9, i9, rfl⟩ := hv9
  obtain rfl : nI u1 = i9 := Value.int.inj ((hN1.us).symm.trans hg9.symm)
  clear hg9
  refine va_mmax hx hb (hml.trans hl.1.symm) hown (hts (.methodLink RX0 38 Lib.Math.max.name) (by decide +kernel)) (hts (.static Lib.Math.max.name) (by decide +kernel)) (hts (.initialized "java/lang/Math") (by decide +kernel)) (hts (.code Lib.Math.max.name Lib.Math.max.code 2 (some .int)) (by decide +kernel)) (Nat.le_of_ble_eq_true rfl) (Nat.le_of_ble_eq_true rfl) (Nat.le_of_ble_eq_true rfl) (Nat.le_of_ble_eq_true rfl) dX0_reach_13 ?_
  refine lv_topi (fun v e => ?_)
  obtain rfl : v = nI (max u0 u1) := e.trans (w_max hu0 hu1)
  refine va_mmin hx hb (hml.trans hl.1.symm) hown (hts (.methodLink RX0 44 Lib.Math.min.name) (by decide +kernel)) (hts (.static Lib.Math.min.name) (by decide +kernel)) (hts (.initialized "java/lang/Math") (by decide +kernel)) (hts (.code Lib.Math.min.name Lib.Math.min.code 2 (some .int)) (by decide +kernel)) (Nat.le_of_ble_eq_true rfl) (Nat.le_of_ble_eq_true rfl) (Nat.le_of_ble_eq_true rfl) (Nat.le_of_ble_eq_true rfl) dX0_reach_16 ?_
  refine lv_topi (fun v e => ?_)
  obtain rfl : v = nI (max u0 u1) := e.trans (w_min (by omega))
  exact W.iret (v := nI (max u0 u1)) hx hb hr (fun t ht hW => ⟨_, rfl, rfl, ht⟩) (fun q h => by cases h) dX0_reach_19

set_option maxHeartbeats 4000000 in
set_option maxRecDepth 100000 in
theorem a_X0_become (l : Launch) (D : va_G) (tc : Nat → ClassId) (z0 : Nat) (L : List Nat) (κ : Nat → Nat) (g : Nat → Nat → Value) (sz : Nat) (p0 q0 u0 K0 A0 : Nat) (p1 : Int32) (hK0 : zAK K0 A0) (hk0 : κ p0 = K0) (hq0 : κ q0 = A0) (hN0 : zN0 g p0 q0 u0) (h1 : 0 ≤ p1.toInt) : Met l yX0_become wsX0_become ({ frames := 2, cells := 0, slots := 0, locals := 43 }) (zPc D tc z0 ([.ref p0, .int p1] : List Value) [] (L, κ, g) sz) (va_Qv (fun (u : zS) => zAm L κ g p0 q0 (p1.toInt) u) (fun (u : zS) (t : State) => zB D tc (zA [] L sz) [] u t) (zA [] L sz)) 0 0 (zA [] L sz) := by
  refine Met.ofW (cc := cX0_become) (maxL := 4) (ret := none) (by decide) rfl ?_
  intro p e9 s m args below meth c s₁ B hml hv
  obtain ⟨rfl, rfl, hK, hE, hI⟩ := hv.opn
  have hx := B.exec
  have hb := B.bytes
  have hr := B.returns
  have hts := atoms_spec (ws := wsX0_become) B.pre
  have hown : s.vm.findClass RX0 = some m.cls := findClass_of_methodNamed B.named
  have hlocks := B.notSynchronized
  have hM : zM p s m c cX0_become _ wsX0_become RX0 D tc := ⟨hx, hb, hts, hown, hK⟩
  have hinX0 : ∀ w ∈ wsX00, w ∈ wsX0_become := by decide +kernel
  have hl := lv_entry ([.ref p0, .int p1] : List Value) (n := 4) (Nat.le_of_ble_eq_true rfl)
  rw [lg_entry_eq]
  generalize (lg_sl ([.ref p0, .int p1] : List Value) ++ List.replicate (4 - (lg_sl ([.ref p0, .int p1] : List Value)).length) Slot.unset).toArray = ls at hl ⊢
  have hl : lv_has ls 4 [(0, .ref p0), (1, .int p1)] := hl
  have hpq : p0 ≠ q0 := hK0.ne hk0 hq0
  have hu16 := hN0.le
  refine lv_aload_n hx hb dX0_become_0 rfl (lv_at hl 0 rfl) ?_
  refine lv_aload_n hx hb dX0_become_1 rfl (lv_at hl 0 rfl) ?_
  refine vp_callSi (W.runV (As := [.ref p0]) (rest := []) ⟨hx, hb, hml, hown, hts⟩ (a_X0_reach l _ _ _ _ _ _ _ p0 q0 u0 K0 A0 p0 q0 u0 K0 A0 hK0 hk0 hq0 hN0 hK0 hk0 hq0 hN0) (cwV 1 hts gX0_become_X0_reach rfl rfl rfl (by decide +kernel) ⟨Nat.le_of_ble_eq_true rfl, Nat.le_of_ble_eq_true rfl⟩) (z_preV hK hE hI [] rfl rfl (z_recv hK hI hk0 hK0.1 rfl)) rfl rfl hl.1 rfl (lv_room (Nat.le_of_ble_eq_true rfl)) dX0_become_2 ⟨Nat.le_of_ble_eq_true rfl, Nat.le_of_ble_eq_true rfl⟩) (fun v9 hw => ?_)
  obtain rfl := hw
  rw [Nat.max_self]
  refine lv_istore_n (lv' := [(2, .int (nI u0)), (0, .ref p0), (1, .int p1)]) hx hb dX0_become_5 rfl hl (by decide) rfl (fun ls hl => ?_)
  refine lv_iconst (v := 0) hx hb dX0_become_6 (by decide) ?_
  refine lv_istore_n (lv' := [(3, .int 0), (2, .int (nI u0)), (0, .ref p0), (1, .int p1)]) hx hb dX0_become_7 rfl hl (by decide) rfl (fun ls hl => ?_)
  have hL : ∀ (n : Nat) (H : Heap) (locs : List Loc) (gk : Nat → Nat → Value) (i : Nat) (hn : u0 - i < n) (hi : i ≤ u0) (hW0 : zW g gk q0 (fun j => j < i)) (hz : ∀ j, j < i → dg gk q0 j = 0) (hI : zI D tc (zA [] L s.heap.size) s.heap [] L κ gk H locs) (ls : Array Slot) (hl : lv_has ls 4 [(3, .int (nI i)), (2, .int (nI u0)), (0, .ref p0), (1, .int p1)]), W p l e9 (headSpec wsX0_become ({ frames := 2, cells := 0, slots := 0, locals := 43 })).room s m ([.ref p0, .int p1] : List Value).toArray below meth c H locs 0 0 (MQ below (va_Qv (fun (u : zS) => zAm L κ g p0 q0 (p1.toInt) u) (fun (u : zS) (t : State) => zB D tc (zA [] L s.heap.size) [] u t) (zA [] L s.heap.size)) ([.ref p0, .int p1] : List Value).toArray s 0 0 (zA [] L s.heap.size)) (F0 m 8 ls []) := by
    intro n
    induction n with
    | zero => intro H locs gk i hn; exact absurd hn (Nat.not_lt_zero _)
    | succ n ih =>
      intro H locs gk i hn hi hW0 hz hI ls hl
      have hr9 : gk p0 0 = .ref q0 := (hW0.f p0 0 hpq).trans hN0.r
      refine lv_iload_n hx hb dX0_become_8 rfl (lv_at hl 0 rfl) ?_
      refine lv_iload_n hx hb dX0_become_9 rfl (lv_at hl 1 rfl) ?_
      refine lv_icmp_ge (tgt := 26) hx hb dX0_become_10 (by decide) (fun c1 => ?_) (fun c1 => ?_)
      · have hi2 : u0 ≤ i := z_ge (by omega) (by omega) c1
        refine lv_aload_n hx hb dX0_become_26 rfl (lv_at hl 2 rfl) ?_
        refine z_get (k := K0) (j := 0) hM hI hk0 hK0.1 rfl hinX0 rfl (by decide) (by decide +kernel) (fun _ h9 => h9) dX0_become_27 (fun v9 hv9 => ?_)
        obtain ⟨hg9, r9, rfl, -⟩ := hv9
        obtain rfl : q0 = r9 := Value.ref.inj ((hr9).symm.trans hg9.symm)
        clear hg9
        refine lv_iconst (v := 0) hx hb dX0_become_30 (by decide) ?_
        refine lv_iload_n hx hb dX0_become_31 rfl (lv_at hl 3 rfl) ?_
        refine lv_i2l hx hb dX0_become_32 rfl ?_
        refine lv_topl (fun x ex => ?_)
        have hxi : x.toInt = p1.toInt := by rw [ex]; exact Jvm.Kit.i64_of_i32 p1
        obtain ⟨g2, hG9⟩ : ∃ g9, g9 = zup gk q0 0 (.long x) := ⟨_, rfl⟩
        have hsg2 : g2 q0 0 = .long x := by rw [hG9]; exact zup_self _ _ _ _
        have hog2 : ∀ b j, (b ≠ q0 ∨ j ≠ 0) → g2 b j = gk b j := fun b j h => by rw [hG9]; exact zup_ne h
        clear hG9
        refine z_last (g' := g2) hM hI hq0 hK0.2.1 hK0.2.2 (vp_in_c 0 16 (by decide)) ⟨by rw [show ((0 : Int32)).toNatClampNeg = 0 from by decide]; exact hsg2.symm, _, rfl⟩ (fun b j h => hog2 b j (by rw [show ((0 : Int32)).toNatClampNeg = 0 from by decide] at h; exact h)) dX0_become_33 (fun H locs hI => ?_)
        refine lv_aload_n hx hb dX0_become_34 rfl (lv_at hl 2 rfl) ?_
        refine lv_iconst (v := 1) hx hb dX0_become_35 (by decide) ?_
        obtain ⟨g3, hG9⟩ : ∃ g9, g9 = zup g2 p0 1 (.int (nI 1)) := ⟨_, rfl⟩
        have hsg3 : g3 p0 1 = .int (nI 1) := by rw [hG9]; exact zup_self _ _ _ _
        have hog3 : ∀ b j, (b ≠ p0 ∨ j ≠ 1) → g3 b j = g2 b j := fun b j h => by rw [hG9]; exact zup_ne h
        clear hG9
        refine z_put (g' := g3) (k := K0) (j := 1) hM hI hk0 hK0.1 rfl hinX0 tyX0 tyX0_ok nmX0 rfl (by decide) (by decide +kernel) (fun _ h9 => h9) rfl rfl rfl rfl ⟨hsg3.symm, _, rfl⟩ hog3 dX0_become_36 (fun H locs hI => ?_)
        have e3 : ∀ j, dg g3 q0 j = dg g2 q0 j := fun j => dg_eq (hog3 q0 j (Or.inl (Ne.symm hpq)))
        have e2 : ∀ j, j ≠ 0 → j < 16 → dg g2 q0 j = 0 := fun j h4 h5 => by
          rw [dg_eq (hog2 q0 j (Or.inr h4))]
          by_cases h6 : j < i
          · exact hz j h6
          · rw [dg_eq (hW0.h j h6)]; exact hN0.hi j (by omega) h5
        have e1 : dg g2 q0 0 = p1.toInt := (dg_at hsg2).trans hxi
        have hlt := Int32.toInt_lt p1
        have hn3 : zN0 g3 p0 q0 1 := by
          refine ⟨(hog3 p0 0 (Or.inr (by decide))).trans ((hog2 p0 0 (Or.inl hpq)).trans hr9), hsg3, by omega, fun j hj => ?_, fun j h4 h5 => by rw [e3 j]; exact e2 j (by omega) h5⟩
          rw [e3 j]
          by_cases h4 : j = 0
          · rw [h4, e1]; omega
          · rw [e2 j h4 hj]; omega
        have hv3 : zV g3 q0 = p1.toInt := by
          rw [hn3.v (Nat.le_refl 1) (by omega)]
          show 0 + dg g3 q0 0 * 4294967296 ^ 0 = _
          rw [e3 0, e1]; omega
        refine lv_aload_n hx hb dX0_become_39 rfl (lv_at hl 2 rfl) ?_
        refine z_cv hI (va_runV (As := []) (rest := []) ⟨hx, hb, hml, hown, hts⟩ (a_X0_dropZeros l _ _ _ _ _ _ _ p0 q0 1 K0 A0 hK0 hk0 hq0 hn3) (cwV 0 hts gX0_become_X0_dropZeros rfl rfl rfl (by decide +kernel) ⟨Nat.le_of_ble_eq_true rfl, Nat.le_of_ble_eq_true rfl⟩) (z_preV hK hE hI [] rfl rfl (z_recv hK hI hk0 hK0.1 rfl)) rfl rfl hl.1 rfl (lv_room (Nat.le_of_ble_eq_true rfl)) dX0_become_40 ⟨Nat.le_of_ble_eq_true rfl, Nat.le_of_ble_eq_true rfl⟩) (fun u H locs hw hI => ?_)
        obtain ⟨g4, w4, rfl, hn4, hv4, hf4⟩ := hw
        exact W.vret hx hb hr (fun t ht hW => ⟨⟨(L, κ, g4), rfl, ⟨g4, w4, rfl, hn4, hv4.trans hv3, (show zFr p0 q0 g g3 from fun b i h4 h5 => (hog3 b i h5).trans ((hog2 b i (Or.inl h4)).trans (hW0.f b i h4))).tr hf4⟩, z_end hK hI ht hW⟩, z_F hI ht⟩) (z_locs hI) dX0_become_43
      · have hi2 : i < u0 := z_lt (by omega) c1
        refine lv_aload_n hx hb dX0_become_13 rfl (lv_at hl 2 rfl) ?_
        refine z_get (k := K0) (j := 0) hM hI hk0 hK0.1 rfl hinX0 rfl (by decide) (by decide +kernel) (fun _ h9 => h9) dX0_become_14 (fun v9 hv9 => ?_)
        obtain ⟨hg9, r9, rfl, -⟩ := hv9
        obtain rfl : q0 = r9 := Value.ref.inj ((hr9).symm.trans hg9.symm)
        clear hg9
        refine lv_iload_n hx hb dX0_become_17 rfl (lv_at hl 0 rfl) ?_
        refine lv_lconst (v := 0) hx hb dX0_become_18 (by decide) ?_
        obtain ⟨g2, hG9⟩ : ∃ g9, g9 = zup gk q0 i (.long 0) := ⟨_, rfl⟩
        have hsg2 : g2 q0 i = .long 0 := by rw [hG9]; exact zup_self _ _ _ _
        have hog2 : ∀ b j, (b ≠ q0 ∨ j ≠ i) → g2 b j = gk b j := fun b j h => by rw [hG9]; exact zup_ne h
        clear hG9
        refine z_last (g' := g2) hM hI hq0 hK0.2.1 hK0.2.2 (vp_in_nI (by omega) (by omega)) ⟨by rw [nI_clamp (show i < 2 ^ 31 by omega)]; exact hsg2.symm, _, rfl⟩ (fun b j h => hog2 b j (by rw [nI_clamp (show i < 2 ^ 31 by omega)] at h; exact h)) dX0_become_19 (fun H locs hI => ?_)
        refine lv_iinc (v := nI (i + 1)) (lv' := [(3, .int (nI (i + 1))), (2, .int (nI u0)), (0, .ref p0), (1, .int p1)]) hx hb dX0_become_20 hl (k := 0) rfl (z_inc i) (by decide) rfl (fun ls hl => ?_)
        refine lv_goto (tgt := 8) hx hb dX0_become_23 (by decide) ?_
        refine ih _ _ g2 (i + 1) (by omega) (by omega) (hW0.step hsg2 hog2 (by decide) (fun j h => by omega)) (fun j hj => ?_) hI _ (lv_sub hl [0, 1, 2, 3] rfl)
        by_cases h4 : j = i
        · rw [h4, dg_at hsg2]; rfl
        · rw [dg_eq (hog2 q0 j (Or.inr h4))]; exact hz j (by omega)
  exact hL (u0 + 1) _ _ g 0 (by omega) (by omega) ⟨fun _ _ _ => rfl, fun _ _ => rfl, hN0.bd⟩ (fun j hj => absurd hj (Nat.not_lt_zero _)) hI _ (lv_sub hl [0, 1, 2, 3] rfl)

set_option maxHeartbeats 4000000 in
set_option maxRecDepth 100000 in
theorem a_X0_becomeSame (l : Launch) (D : va_G) (tc : Nat → ClassId) (z0 : Nat) (L : List Nat) (κ : Nat → Nat) (g : Nat → Nat → Value) (sz : Nat) (p0 q0 u0 K0 A0 : Nat) (p1 q1 u1 K1 A1 : Nat) (hK0 : zAK K0 A0) (hk0 : κ p0 = K0) (hq0 : κ q0 = A0) (hN0 : zN0 g p0 q0 u0) (hK1 : zAK K1 A1) (hk1 : κ p1 = K1) (hq1 : κ q1 = A1) (hN1 : zN0 g p1 q1 u1) (hp : p1 ≠ p0) (hq : q1 ≠ q0) : Met l yX0_becomeSame wsX0_becomeSame ({ frames := 2, cells := 0, slots := 0, locals := 43 }) (zPc D tc z0 ([.ref p0, .ref p1] : List Value) [] (L, κ, g) sz) (va_Qv (fun (u : zS) => zAm L κ g p0 q0 (zV g q1) u) (fun (u : zS) (t : State) => zB D tc (zA [] L sz) [] u t) (zA [] L sz)) 0 0 (zA [] L sz) := by
  refine Met.ofW (cc := cX0_becomeSame) (maxL := 4) (ret := none) (by decide) rfl ?_
  intro p e9 s m args below meth c s₁ B hml hv
  obtain ⟨rfl, rfl, hK, hE, hI⟩ := hv.opn
  have hx := B.exec
  have hb := B.bytes
  have hr := B.returns
  have hts := atoms_spec (ws := wsX0_becomeSame) B.pre
  have hown : s.vm.findClass RX0 = some m.cls := findClass_of_methodNamed B.named
  have hlocks := B.notSynchronized
  have hM : zM p s m c cX0_becomeSame _ wsX0_becomeSame RX0 D tc := ⟨hx, hb, hts, hown, hK⟩
  have hinX0 : ∀ w ∈ wsX00, w ∈ wsX0_becomeSame := by decide +kernel
  have hl := lv_entry ([.ref p0, .ref p1] : List Value) (n := 4) (Nat.le_of_ble_eq_true rfl)
  rw [lg_entry_eq]
  generalize (lg_sl ([.ref p0, .ref p1] : List Value) ++ List.replicate (4 - (lg_sl ([.ref p0, .ref p1] : List Value)).length) Slot.unset).toArray = ls at hl ⊢
  have hl : lv_has ls 4 [(0, .ref p0), (1, .ref p1)] := hl
  have hpq : p0 ≠ q0 := hK0.ne hk0 hq0
  have hu16 := hN0.le
  have hu17 := hN1.le
  have hp1q : p1 ≠ q0 := hK1.ne2 hK0 hk1 hq0
  refine lv_aload_n hx hb dX0_becomeSame_0 rfl (lv_at hl 0 rfl) ?_
  refine lv_aload_n hx hb dX0_becomeSame_1 rfl (lv_at hl 1 rfl) ?_
  refine vp_callSi (W.runV (As := [.ref p1]) (rest := []) ⟨hx, hb, hml, hown, hts⟩ (a_X0_reach l _ _ _ _ _ _ _ p0 q0 u0 K0 A0 p1 q1 u1 K1 A1 hK0 hk0 hq0 hN0 hK1 hk1 hq1 hN1) (cwV 1 hts gX0_becomeSame_X0_reach rfl rfl rfl (by decide +kernel) ⟨Nat.le_of_ble_eq_true rfl, Nat.le_of_ble_eq_true rfl⟩) (z_preV hK hE hI [] rfl rfl (z_recv hK hI hk0 hK0.1 rfl)) rfl rfl hl.1 rfl (lv_room (Nat.le_of_ble_eq_true rfl)) dX0_becomeSame_2 ⟨Nat.le_of_ble_eq_true rfl, Nat.le_of_ble_eq_true rfl⟩) (fun v9 hw => ?_)
  obtain rfl := hw
  generalize hM9 : max u0 u1 = M
  have hM0 : u0 ≤ M := by omega
  have hM1 : u1 ≤ M := by omega
  have hM2 : M ≤ 16 := by omega
  refine lv_istore_n (lv' := [(2, .int (nI M)), (0, .ref p0), (1, .ref p1)]) hx hb dX0_becomeSame_5 rfl hl (by decide) rfl (fun ls hl => ?_)
  refine lv_iconst (v := 0) hx hb dX0_becomeSame_6 (by decide) ?_
  refine lv_istore_n (lv' := [(3, .int 0), (2, .int (nI M)), (0, .ref p0), (1, .ref p1)]) hx hb dX0_becomeSame_7 rfl hl (by decide) rfl (fun ls hl => ?_)
  have hL : ∀ (n : Nat) (H : Heap) (locs : List Loc) (gk : Nat → Nat → Value) (i : Nat) (hn : M - i < n) (hi : i ≤ M) (hW0 : zW g gk q0 (fun j => j < i)) (hz : ∀ j, j < i → dg gk q0 j = dg g q1 j) (hI : zI D tc (zA [] L s.heap.size) s.heap [] L κ gk H locs) (ls : Array Slot) (hl : lv_has ls 4 [(3, .int (nI i)), (2, .int (nI M)), (0, .ref p0), (1, .ref p1)]), W p l e9 (headSpec wsX0_becomeSame ({ frames := 2, cells := 0, slots := 0, locals := 43 })).room s m ([.ref p0, .ref p1] : List Value).toArray below meth c H locs 0 0 (MQ below (va_Qv (fun (u : zS) => zAm L κ g p0 q0 (zV g q1) u) (fun (u : zS) (t : State) => zB D tc (zA [] L s.heap.size) [] u t) (zA [] L s.heap.size)) ([.ref p0, .ref p1] : List Value).toArray s 0 0 (zA [] L s.heap.size)) (F0 m 8 ls []) := by
    intro n
    induction n with
    | zero => intro H locs gk i hn; exact absurd hn (Nat.not_lt_zero _)
    | succ n ih =>
      intro H locs gk i hn hi hW0 hz hI ls hl
      have hr9 : gk p0 0 = .ref q0 := (hW0.f p0 0 hpq).trans hN0.r
      have hr8 : gk p1 0 = .ref q1 := (hW0.f p1 0 hp1q).trans hN1.r
      refine lv_iload_n hx hb dX0_becomeSame_8 rfl (lv_at hl 0 rfl) ?_
      refine lv_iload_n hx hb dX0_becomeSame_9 rfl (lv_at hl 1 rfl) ?_
      refine lv_icmp_ge (tgt := 31) hx hb dX0_becomeSame_10 (by decide) (fun c1 => ?_) (fun c1 => ?_)
      · have hi2 : M ≤ i := z_ge (by omega) (by omega) c1
        refine lv_aload_n hx hb dX0_becomeSame_31 rfl (lv_at hl 2 rfl) ?_
        refine lv_iload_n hx hb dX0_becomeSame_32 rfl (lv_at hl 1 rfl) ?_
        obtain ⟨g3, hG9⟩ : ∃ g9, g9 = zup gk p0 1 (.int (nI M)) := ⟨_, rfl⟩
        have hsg3 : g3 p0 1 = .int (nI M) := by rw [hG9]; exact zup_self _ _ _ _
        have hog3 : ∀ b j, (b ≠ p0 ∨ j ≠ 1) → g3 b j = gk b j := fun b j h => by rw [hG9]; exact zup_ne h
        clear hG9
        refine z_put (g' := g3) (k := K0) (j := 1) hM hI hk0 hK0.1 rfl hinX0 tyX0 tyX0_ok nmX0 rfl (by decide) (by decide +kernel) (fun _ h9 => h9) rfl rfl rfl rfl ⟨hsg3.symm, _, rfl⟩ hog3 dX0_becomeSame_33 (fun H locs hI => ?_)
        obtain ⟨hn3, e3, hf3⟩ := hW0.n0 hN0 hpq hM0 hM2 (fun j h => by omega) hsg3 hog3
        have hv3 : zV g3 q0 = zV g q1 := vS_congr (fun j hj => by
            rw [e3 j]
            by_cases h4 : j < i
            · exact hz j h4
            · rw [dg_eq (hW0.h j h4), hN0.hi j (by omega) hj, hN1.hi j (by omega) hj])
        refine lv_aload_n hx hb dX0_becomeSame_36 rfl (lv_at hl 2 rfl) ?_
        refine z_cv hI (va_runV (As := []) (rest := []) ⟨hx, hb, hml, hown, hts⟩ (a_X0_dropZeros l _ _ _ _ _ _ _ p0 q0 M K0 A0 hK0 hk0 hq0 hn3) (cwV 0 hts gX0_becomeSame_X0_dropZeros rfl rfl rfl (by decide +kernel) ⟨Nat.le_of_ble_eq_true rfl, Nat.le_of_ble_eq_true rfl⟩) (z_preV hK hE hI [] rfl rfl (z_recv hK hI hk0 hK0.1 rfl)) rfl rfl hl.1 rfl (lv_room (Nat.le_of_ble_eq_true rfl)) dX0_becomeSame_37 ⟨Nat.le_of_ble_eq_true rfl, Nat.le_of_ble_eq_true rfl⟩) (fun u H locs hw hI => ?_)
        obtain ⟨g4, w4, rfl, hn4, hv4, hf4⟩ := hw
        exact W.vret hx hb hr (fun t ht hW => ⟨⟨(L, κ, g4), rfl, ⟨g4, w4, rfl, hn4, hv4.trans hv3, hf3.tr hf4⟩, z_end hK hI ht hW⟩, z_F hI ht⟩) (z_locs hI) dX0_becomeSame_40
      · have hi2 : i < M := z_lt (by omega) c1
        refine lv_aload_n hx hb dX0_becomeSame_13 rfl (lv_at hl 2 rfl) ?_
        refine z_get (k := K0) (j := 0) hM hI hk0 hK0.1 rfl hinX0 rfl (by decide) (by decide +kernel) (fun _ h9 => h9) dX0_becomeSame_14 (fun v9 hv9 => ?_)
        obtain ⟨hg9, r9, rfl, -⟩ := hv9
        obtain rfl : q0 = r9 := Value.ref.inj ((hr9).symm.trans hg9.symm)
        clear hg9
        refine lv_iload_n hx hb dX0_becomeSame_17 rfl (lv_at hl 0 rfl) ?_
        refine lv_aload_n hx hb dX0_becomeSame_18 rfl (lv_at hl 3 rfl) ?_
        refine z_get (k := K1) (j := 0) hM hI hk1 hK1.1 rfl hinX0 rfl (by decide) (by decide +kernel) (fun _ h9 => h9) dX0_becomeSame_19 (fun v9 hv9 => ?_)
        obtain ⟨hg9, r9, rfl, -⟩ := hv9
        obtain rfl : q1 = r9 := Value.ref.inj ((hr8).symm.trans hg9.symm)
        clear hg9
        refine lv_iload_n hx hb dX0_becomeSame_22 rfl (lv_at hl 0 rfl) ?_
        refine z_lald hM hI hq1 hK1.2.1 hK1.2.2 (vp_in_nI (by omega) (by omega)) dX0_becomeSame_23 (fun y hvy => ?_)
        obtain ⟨hvy, -⟩ := hvy
        rw [nI_clamp (by omega)] at hvy
        have hyd : dg g q1 i = y.toInt := (dg_eq (hW0.rd (by omega)).symm).trans (dg_at hvy.symm)
        obtain ⟨g2, hG9⟩ : ∃ g9, g9 = zup gk q0 i (.long y) := ⟨_, rfl⟩
        have hsg2 : g2 q0 i = .long y := by rw [hG9]; exact zup_self _ _ _ _
        have hog2 : ∀ b j, (b ≠ q0 ∨ j ≠ i) → g2 b j = gk b j := fun b j h => by rw [hG9]; exact zup_ne h
        clear hG9
        refine z_last (g' := g2) hM hI hq0 hK0.2.1 hK0.2.2 (vp_in_nI (by omega) (by omega)) ⟨by rw [nI_clamp (show i < 2 ^ 31 by omega)]; exact hsg2.symm, _, rfl⟩ (fun b j h => hog2 b j (by rw [nI_clamp (show i < 2 ^ 31 by omega)] at h; exact h)) dX0_becomeSame_24 (fun H locs hI => ?_)
        refine lv_iinc (v := nI (i + 1)) (lv' := [(3, .int (nI (i + 1))), (2, .int (nI M)), (0, .ref p0), (1, .ref p1)]) hx hb dX0_becomeSame_25 hl (k := 0) rfl (z_inc i) (by decide) rfl (fun ls hl => ?_)
        refine lv_goto (tgt := 8) hx hb dX0_becomeSame_28 (by decide) ?_
        refine ih _ _ g2 (i + 1) (by omega) (by omega) (hW0.step hsg2 hog2 (by rw [← hyd]; exact hN1.bd i (by omega)) (fun j h => by omega)) (fun j hj => ?_) hI _ (lv_sub hl [0, 1, 2, 3] rfl)
        by_cases h4 : j = i
        · rw [h4, dg_at hsg2, hyd]
        · rw [dg_eq (hog2 q0 j (Or.inr h4))]; exact hz j (by omega)
  exact hL (M + 1) _ _ g 0 (by omega) (by omega) ⟨fun _ _ _ => rfl, fun _ _ => rfl, hN0.bd⟩ (fun j hj => absurd hj (Nat.not_lt_zero _)) hI _ (lv_sub hl [0, 1, 2, 3] rfl)

set_option maxHeartbeats 4000000 in
set_option maxRecDepth 100000 in
theorem a_X0_add (l : Launch) (D : va_G) (tc : Nat → ClassId) (z0 : Nat) (L : List Nat) (κ : Nat → Nat) (g : Nat → Nat → Value) (sz : Nat) (p0 q0 u0 K0 A0 : Nat) (p1 q1 u1 K1 A1 : Nat) (hK0 : zAK K0 A0) (hk0 : κ p0 = K0) (hq0 : κ q0 = A0) (hN0 : zN0 g p0 q0 u0) (hK1 : zAK K1 A1) (hk1 : κ p1 = K1) (hq1 : κ q1 = A1) (hN1 : zN0 g p1 q1 u1) (hp : p1 ≠ p0) (hq : q1 ≠ q0) (hV9 : zV g q0 + zV g q1 < 4294967296 ^ 16) : Met l yX0_add wsX0_add ({ frames := 3, cells := 0, slots := 0, locals := 65 }) (zPc D tc z0 ([.ref p0, .ref p1] : List Value) [] (L, κ, g) sz) (va_Qv (fun (u : zS) => zAm L κ g p0 q0 (zV g q0 + zV g q1) u) (fun (u : zS) (t : State) => zB D tc (zA [] L sz) [] u t) (zA [] L sz)) 0 0 (zA [] L sz) := by
  refine Met.ofW (cc := cX0_add) (maxL := 6) (ret := none) (by decide) rfl ?_
  intro p e9 s m args below meth c s₁ B hml hv
  obtain ⟨rfl, rfl, hK, hE, hI⟩ := hv.opn
  have hx := B.exec
  have hb := B.bytes
  have hr := B.returns
  have hts := atoms_spec (ws := wsX0_add) B.pre
  have hown : s.vm.findClass RX0 = some m.cls := findClass_of_methodNamed B.named
  have hlocks := B.notSynchronized
  have hM : zM p s m c cX0_add _ wsX0_add RX0 D tc := ⟨hx, hb, hts, hown, hK⟩
  have hinX0 : ∀ w ∈ wsX00, w ∈ wsX0_add := by decide +kernel
  have hl := lv_entry ([.ref p0, .ref p1] : List Value) (n := 6) (Nat.le_of_ble_eq_true rfl)
  rw [lg_entry_eq]
  generalize (lg_sl ([.ref p0, .ref p1] : List Value) ++ List.replicate (6 - (lg_sl ([.ref p0, .ref p1] : List Value)).length) Slot.unset).toArray = ls at hl ⊢
  have hl : lv_has ls 6 [(0, .ref p0), (1, .ref p1)] := hl
  have hpq : p0 ≠ q0 := hK0.ne hk0 hq0
  have hu16 := hN0.le
  have hu17 := hN1.le
  have hp1q : p1 ≠ q0 := hK1.ne2 hK0 hk1 hq0
  refine lv_aload_n hx hb dX0_add_0 rfl (lv_at hl 0 rfl) ?_
  refine lv_aload_n hx hb dX0_add_1 rfl (lv_at hl 1 rfl) ?_
  refine vp_callSi (W.runV (As := [.ref p1]) (rest := []) ⟨hx, hb, hml, hown, hts⟩ (a_X0_reach l _ _ _ _ _ _ _ p0 q0 u0 K0 A0 p1 q1 u1 K1 A1 hK0 hk0 hq0 hN0 hK1 hk1 hq1 hN1) (cwV 1 hts gX0_add_X0_reach rfl rfl rfl (by decide +kernel) ⟨Nat.le_of_ble_eq_true rfl, Nat.le_of_ble_eq_true rfl⟩) (z_preV hK hE hI [] rfl rfl (z_recv hK hI hk0 hK0.1 rfl)) rfl rfl hl.1 rfl (lv_room (Nat.le_of_ble_eq_true rfl)) dX0_add_2 ⟨Nat.le_of_ble_eq_true rfl, Nat.le_of_ble_eq_true rfl⟩) (fun v9 hw => ?_)
  obtain rfl := hw
  generalize hM9 : max u0 u1 = M
  have hM0 : u0 ≤ M := by omega
  have hM1 : u1 ≤ M := by omega
  have hM2 : M ≤ 16 := by omega
  refine lv_istore_n (lv' := [(2, .int (nI M)), (0, .ref p0), (1, .ref p1)]) hx hb dX0_add_5 rfl hl (by decide) rfl (fun ls hl => ?_)
  refine lv_lconst (v := 0) hx hb dX0_add_6 (by decide) ?_
  refine lv_lstore_n (lv' := [(3, .long 0), (2, .int (nI M)), (0, .ref p0), (1, .ref p1)]) hx hb dX0_add_7 rfl hl (by decide) rfl (fun ls hl => ?_)
  refine lv_iconst (v := 0) hx hb dX0_add_8 (by decide) ?_
  refine lv_istore (lv' := [(5, .int 0), (3, .long 0), (2, .int (nI M)), (0, .ref p0), (1, .ref p1)]) hx hb dX0_add_9 hl (by decide) rfl (fun ls hl => ?_)
  have hL : ∀ (n : Nat) (H : Heap) (locs : List Loc) (gk : Nat → Nat → Value) (ca : Int64) (i : Nat) (hn : M - i < n) (hi : i ≤ M) (hW0 : zW g gk q0 (fun j => j < i)) (hc : 0 ≤ ca.toInt ∧ ca.toInt ≤ 1) (hz : vS (dg gk q0) i + ca.toInt * 4294967296 ^ i = vS (dg g q0) i + vS (dg g q1) i) (hI : zI D tc (zA [] L s.heap.size) s.heap [] L κ gk H locs) (ls : Array Slot) (hl : lv_has ls 6 [(5, .int (nI i)), (3, .long ca), (2, .int (nI M)), (0, .ref p0), (1, .ref p1)]), W p l e9 (headSpec wsX0_add ({ frames := 3, cells := 0, slots := 0, locals := 65 })).room s m ([.ref p0, .ref p1] : List Value).toArray below meth c H locs 0 0 (MQ below (va_Qv (fun (u : zS) => zAm L κ g p0 q0 (zV g q0 + zV g q1) u) (fun (u : zS) (t : State) => zB D tc (zA [] L s.heap.size) [] u t) (zA [] L s.heap.size)) ([.ref p0, .ref p1] : List Value).toArray s 0 0 (zA [] L s.heap.size)) (F0 m 11 ls []) := by
    intro n
    induction n with
    | zero => intro H locs gk ca i hn; exact absurd hn (Nat.not_lt_zero _)
    | succ n ih =>
      intro H locs gk ca i hn hi hW0 hc hz hI ls hl
      have hr9 : gk p0 0 = .ref q0 := (hW0.f p0 0 hpq).trans hN0.r
      have hr8 : gk p1 0 = .ref q1 := (hW0.f p1 0 hp1q).trans hN1.r
      refine lv_iload hx hb dX0_add_11 (lv_at hl 0 rfl) ?_
      refine lv_iload_n hx hb dX0_add_13 rfl (lv_at hl 2 rfl) ?_
      refine lv_icmp_ge (tgt := 58) hx hb dX0_add_14 (by decide) (fun c1 => ?_) (fun c1 => ?_)
      · have hi2 : i = M := Nat.le_antisymm hi (z_ge (by omega) (by omega) c1)
        subst hi2
        refine lv_aload_n hx hb dX0_add_58 rfl (lv_at hl 3 rfl) ?_
        refine lv_iload_n hx hb dX0_add_59 rfl (lv_at hl 2 rfl) ?_
        obtain ⟨g3, hG9⟩ : ∃ g9, g9 = zup gk p0 1 (.int (nI i)) := ⟨_, rfl⟩
        have hsg3 : g3 p0 1 = .int (nI i) := by rw [hG9]; exact zup_self _ _ _ _
        have hog3 : ∀ b j, (b ≠ p0 ∨ j ≠ 1) → g3 b j = gk b j := fun b j h => by rw [hG9]; exact zup_ne h
        clear hG9
        refine z_put (g' := g3) (k := K0) (j := 1) hM hI hk0 hK0.1 rfl hinX0 tyX0 tyX0_ok nmX0 rfl (by decide) (by decide +kernel) (fun _ h9 => h9) rfl rfl rfl rfl ⟨hsg3.symm, _, rfl⟩ hog3 dX0_add_60 (fun H locs hI => ?_)
        obtain ⟨hn3, e3, hf3⟩ := hW0.n0 hN0 hpq hM0 hM2 (fun j h => h) hsg3 hog3
        have hv3 : zV g3 q0 + ca.toInt * 4294967296 ^ i = zV g q0 + zV g q1 := by
          rw [hn3.v (Nat.le_refl i) hM2, hN0.v hM0 hM2, hN1.v hM1 hM2, vS_congr (fun j _ => e3 j)]; exact hz
        have h16 : i < 16 ∨ ca.toInt = 0 := by
          rcases Nat.lt_or_ge i 16 with h | h
          · exact Or.inl h
          · obtain rfl : i = 16 := by omega
            exact Or.inr (vS_carry hn3.nn hc.1 hv3 hV9)
        refine lv_aload_n hx hb dX0_add_63 rfl (lv_at hl 3 rfl) ?_
        refine lv_lload_n hx hb dX0_add_64 rfl (lv_at hl 1 rfl) ?_
        refine z_cv hI (va_runV (As := [.long ca]) (rest := []) ⟨hx, hb, hml, hown, hts⟩ (a_X0_putOnTop l _ _ _ _ _ _ _ p0 q0 i K0 A0 ca hK0 hk0 hq0 hn3 hc.1 (by omega) h16) (cwV 1 hts gX0_add_X0_putOnTop rfl rfl rfl (by decide +kernel) ⟨Nat.le_of_ble_eq_true rfl, Nat.le_of_ble_eq_true rfl⟩) (z_preV hK hE hI [] rfl rfl (z_recv hK hI hk0 hK0.1 rfl)) rfl rfl hl.1 rfl (lv_room (Nat.le_of_ble_eq_true rfl)) dX0_add_65 ⟨Nat.le_of_ble_eq_true rfl, Nat.le_of_ble_eq_true rfl⟩) (fun u H locs hw hI => ?_)
        obtain ⟨g4, w4, rfl, hn4, hv4, hf4⟩ := hw
        exact W.vret hx hb hr (fun t ht hW => ⟨⟨(L, κ, g4), rfl, ⟨g4, w4, rfl, hn4, hv4.trans hv3, hf3.tr hf4⟩, z_end hK hI ht hW⟩, z_F hI ht⟩) (z_locs hI) dX0_add_68
      · have hi2 : i < M := z_lt (by omega) c1
        refine lv_lload_n hx hb dX0_add_17 rfl (lv_at hl 1 rfl) ?_
        refine lv_aload_n hx hb dX0_add_18 rfl (lv_at hl 3 rfl) ?_
        refine z_get (k := K0) (j := 0) hM hI hk0 hK0.1 rfl hinX0 rfl (by decide) (by decide +kernel) (fun _ h9 => h9) dX0_add_19 (fun v9 hv9 => ?_)
        obtain ⟨hg9, r9, rfl, -⟩ := hv9
        obtain rfl : q0 = r9 := Value.ref.inj ((hr9).symm.trans hg9.symm)
        clear hg9
        refine lv_iload hx hb dX0_add_22 (lv_at hl 0 rfl) ?_
        refine z_lald hM hI hq0 hK0.2.1 hK0.2.2 (vp_in_nI (by omega) (by omega)) dX0_add_24 (fun x hvx => ?_)
        obtain ⟨hvx, -⟩ := hvx
        rw [nI_clamp (by omega)] at hvx
        refine lv_aload_n hx hb dX0_add_25 rfl (lv_at hl 4 rfl) ?_
        refine z_get (k := K1) (j := 0) hM hI hk1 hK1.1 rfl hinX0 rfl (by decide) (by decide +kernel) (fun _ h9 => h9) dX0_add_26 (fun v9 hv9 => ?_)
        obtain ⟨hg9, r9, rfl, -⟩ := hv9
        obtain rfl : q1 = r9 := Value.ref.inj ((hr8).symm.trans hg9.symm)
        clear hg9
        refine lv_iload hx hb dX0_add_29 (lv_at hl 0 rfl) ?_
        refine z_lald hM hI hq1 hK1.2.1 hK1.2.2 (vp_in_nI (by omega) (by omega)) dX0_add_31 (fun y hvy => ?_)
        obtain ⟨hvy, -⟩ := hvy
        rw [nI_clamp (by omega)] at hvy
        have hxd : dg g q0 i = x.toInt := (dg_eq (hW0.rd (by omega)).symm).trans (dg_at hvx.symm)
        have hyd : dg g q1 i = y.toInt := (dg_eq (hW0.rd (by omega)).symm).trans (dg_at hvy.symm)
        have hxb := hN0.bd i (by omega)
        have hyb := hN1.bd i (by omega)
        rw [hxd] at hxb
        rw [hyd] at hyb
        refine lv_ladd hx hb dX0_add_32 ?_
        refine lv_topl (fun v ev => ?_)
        have hv1 : v.toInt = x.toInt + y.toInt := by rw [ev]; exact w_add (by omega) (by omega)
        refine lv_ladd hx hb dX0_add_33 ?_
        refine lv_topl (fun w ew => ?_)
        have hw1 : w.toInt = ca.toInt + v.toInt := by rw [ew]; exact w_add (by omega) (by omega)
        refine lv_lstore_n (lv' := [(3, .long w), (5, .int (nI i)), (2, .int (nI M)), (0, .ref p0), (1, .ref p1)]) hx hb dX0_add_34 rfl hl (by decide) rfl (fun ls hl => ?_)
        refine lv_aload_n hx hb dX0_add_35 rfl (lv_at hl 3 rfl) ?_
        refine z_get (k := K0) (j := 0) hM hI hk0 hK0.1 rfl hinX0 rfl (by decide) (by decide +kernel) (fun _ h9 => h9) dX0_add_36 (fun v9 hv9 => ?_)
        obtain ⟨hg9, r9, rfl, -⟩ := hv9
        obtain rfl : q0 = r9 := Value.ref.inj ((hr9).symm.trans hg9.symm)
        clear hg9
        refine lv_iload hx hb dX0_add_39 (lv_at hl 1 rfl) ?_
        refine lv_lload_n hx hb dX0_add_41 rfl (lv_at hl 0 rfl) ?_
        refine lv_ldc2 (v := 4294967295) hx hb hown (hts (.constantLong RX0 26 (4294967295)) (by decide +kernel)) dX0_add_42 ?_
        refine lv_land hx hb dX0_add_45 ?_
        refine lv_topl (fun r er => ?_)
        have hr1 : r.toInt = w.toInt % 4294967296 := by rw [er]; exact w_mask
        obtain ⟨g2, hG9⟩ : ∃ g9, g9 = zup gk q0 i (.long r) := ⟨_, rfl⟩
        have hsg2 : g2 q0 i = .long r := by rw [hG9]; exact zup_self _ _ _ _
        have hog2 : ∀ b j, (b ≠ q0 ∨ j ≠ i) → g2 b j = gk b j := fun b j h => by rw [hG9]; exact zup_ne h
        clear hG9
        refine z_last (g' := g2) hM hI hq0 hK0.2.1 hK0.2.2 (vp_in_nI (by omega) (by omega)) ⟨by rw [nI_clamp (show i < 2 ^ 31 by omega)]; exact hsg2.symm, _, rfl⟩ (fun b j h => hog2 b j (by rw [nI_clamp (show i < 2 ^ 31 by omega)] at h; exact h)) dX0_add_46 (fun H locs hI => ?_)
        refine lv_lload_n hx hb dX0_add_47 rfl (lv_at hl 0 rfl) ?_
        refine lv_bipush (v := 32) hx hb dX0_add_48 (by decide) ?_
        refine lv_lushr hx hb dX0_add_50 rfl ?_
        refine lv_topl (fun c2 ec => ?_)
        have hc2 : c2.toInt = w.toInt / 4294967296 := by rw [ec]; exact w_sh (by omega)
        refine lv_lstore_n (lv' := [(3, .long c2), (5, .int (nI i)), (2, .int (nI M)), (0, .ref p0), (1, .ref p1)]) hx hb dX0_add_51 rfl hl (by decide) rfl (fun ls hl => ?_)
        refine lv_iinc (v := nI (i + 1)) (lv' := [(5, .int (nI (i + 1))), (3, .long c2), (2, .int (nI M)), (0, .ref p0), (1, .ref p1)]) hx hb dX0_add_52 hl (k := 1) rfl (z_inc i) (by decide) rfl (fun ls hl => ?_)
        refine lv_goto (tgt := 11) hx hb dX0_add_55 (by decide) ?_
        have e2 : vS (dg g2 q0) i = vS (dg gk q0) i := vS_congr (fun j hj => dg_eq (hog2 q0 j (Or.inr (by omega))))
        refine ih _ _ g2 c2 (i + 1) (by omega) (by omega) (hW0.step hsg2 hog2 (by omega) (fun j h => by omega)) (by omega) (vS_add_step (by rw [e2]; exact hz) (by rw [dg_at hsg2, hxd, hyd]; omega)) hI _ (lv_sub hl [0, 1, 2, 3, 4] rfl)
  exact hL (M + 1) _ _ g 0 0 (by omega) (by omega) ⟨fun _ _ _ => rfl, fun _ _ => rfl, hN0.bd⟩ (by decide) (by simp [vS]) hI _ (lv_sub hl [0, 1, 2, 3, 4] rfl)

set_option maxHeartbeats 4000000 in
set_option maxRecDepth 100000 in
theorem a_X0_takeAway (l : Launch) (D : va_G) (tc : Nat → ClassId) (z0 : Nat) (L : List Nat) (κ : Nat → Nat) (g : Nat → Nat → Value) (sz : Nat) (p0 q0 u0 K0 A0 : Nat) (p1 q1 u1 K1 A1 : Nat) (hK0 : zAK K0 A0) (hk0 : κ p0 = K0) (hq0 : κ q0 = A0) (hN0 : zN g p0 q0 u0) (hK1 : zAK K1 A1) (hk1 : κ p1 = K1) (hq1 : κ q1 = A1) (hN1 : zN g p1 q1 u1) (hp : p1 ≠ p0) (hq : q1 ≠ q0) (hV9 : zV g q1 ≤ zV g q0) : Met l yX0_takeAway wsX0_takeAway ({ frames := 2, cells := 0, slots := 0, locals := 45 }) (zPc D tc z0 ([.ref p0, .ref p1] : List Value) [] (L, κ, g) sz) (va_Qv (fun (u : zS) => zAm L κ g p0 q0 (zV g q0 - zV g q1) u) (fun (u : zS) (t : State) => zB D tc (zA [] L sz) [] u t) (zA [] L sz)) 0 0 (zA [] L sz) := by
  refine Met.ofW (cc := cX0_takeAway) (maxL := 6) (ret := none) (by decide) rfl ?_
  intro p e9 s m args below meth c s₁ B hml hv
  obtain ⟨rfl, rfl, hK, hE, hI⟩ := hv.opn
  have hx := B.exec
  have hb := B.bytes
  have hr := B.returns
  have hts := atoms_spec (ws := wsX0_takeAway) B.pre
  have hown : s.vm.findClass RX0 = some m.cls := findClass_of_methodNamed B.named
  have hlocks := B.notSynchronized
  have hM : zM p s m c cX0_takeAway _ wsX0_takeAway RX0 D tc := ⟨hx, hb, hts, hown, hK⟩
  have hinX0 : ∀ w ∈ wsX00, w ∈ wsX0_takeAway := by decide +kernel
  have hl := lv_entry ([.ref p0, .ref p1] : List Value) (n := 6) (Nat.le_of_ble_eq_true rfl)
  rw [lg_entry_eq]
  generalize (lg_sl ([.ref p0, .ref p1] : List Value) ++ List.replicate (6 - (lg_sl ([.ref p0, .ref p1] : List Value)).length) Slot.unset).toArray = ls at hl ⊢
  have hl : lv_has ls 6 [(0, .ref p0), (1, .ref p1)] := hl
  have hpq : p0 ≠ q0 := hK0.ne hk0 hq0
  have hu16 := hN0.le
  have hu17 := hN1.le
  have hp1q : p1 ≠ q0 := hK1.ne2 hK0 hk1 hq0
  have hu10 := hN1.used hN0.toZN0 hV9
  refine lv_aload_n hx hb dX0_takeAway_0 rfl (lv_at hl 0 rfl) ?_
  refine lv_aload_n hx hb dX0_takeAway_1 rfl (lv_at hl 1 rfl) ?_
  refine vp_callSi (W.runV (As := [.ref p1]) (rest := []) ⟨hx, hb, hml, hown, hts⟩ (a_X0_reach l _ _ _ _ _ _ _ p0 q0 u0 K0 A0 p1 q1 u1 K1 A1 hK0 hk0 hq0 hN0.toZN0 hK1 hk1 hq1 hN1.toZN0) (cwV 1 hts gX0_takeAway_X0_reach rfl rfl rfl (by decide +kernel) ⟨Nat.le_of_ble_eq_true rfl, Nat.le_of_ble_eq_true rfl⟩) (z_preV hK hE hI [] rfl rfl (z_recv hK hI hk0 hK0.1 rfl)) rfl rfl hl.1 rfl (lv_room (Nat.le_of_ble_eq_true rfl)) dX0_takeAway_2 ⟨Nat.le_of_ble_eq_true rfl, Nat.le_of_ble_eq_true rfl⟩) (fun v9 hw => ?_)
  obtain rfl := hw
  generalize hM9 : max u0 u1 = M
  have hM0 : u0 ≤ M := by omega
  have hM1 : u1 ≤ M := by omega
  have hM2 : M ≤ 16 := by omega
  have hMu : M = u0 := by omega
  subst hMu
  refine lv_istore_n (lv' := [(2, .int (nI M)), (0, .ref p0), (1, .ref p1)]) hx hb dX0_takeAway_5 rfl hl (by decide) rfl (fun ls hl => ?_)
  refine lv_lconst (v := 0) hx hb dX0_takeAway_6 (by decide) ?_
  refine lv_lstore_n (lv' := [(3, .long 0), (2, .int (nI M)), (0, .ref p0), (1, .ref p1)]) hx hb dX0_takeAway_7 rfl hl (by decide) rfl (fun ls hl => ?_)
  refine lv_iconst (v := 0) hx hb dX0_takeAway_8 (by decide) ?_
  refine lv_istore (lv' := [(5, .int 0), (3, .long 0), (2, .int (nI M)), (0, .ref p0), (1, .ref p1)]) hx hb dX0_takeAway_9 hl (by decide) rfl (fun ls hl => ?_)
  have hL : ∀ (n : Nat) (H : Heap) (locs : List Loc) (gk : Nat → Nat → Value) (ca : Int64) (i : Nat) (hn : M - i < n) (hi : i ≤ M) (hW0 : zW g gk q0 (fun j => j < i)) (hc : -1 ≤ ca.toInt ∧ ca.toInt ≤ 0) (hz : vS (dg gk q0) i + ca.toInt * 4294967296 ^ i = vS (dg g q0) i - vS (dg g q1) i) (hI : zI D tc (zA [] L s.heap.size) s.heap [] L κ gk H locs) (ls : Array Slot) (hl : lv_has ls 6 [(5, .int (nI i)), (3, .long ca), (2, .int (nI M)), (0, .ref p0), (1, .ref p1)]), W p l e9 (headSpec wsX0_takeAway ({ frames := 2, cells := 0, slots := 0, locals := 45 })).room s m ([.ref p0, .ref p1] : List Value).toArray below meth c H locs 0 0 (MQ below (va_Qv (fun (u : zS) => zAm L κ g p0 q0 (zV g q0 - zV g q1) u) (fun (u : zS) (t : State) => zB D tc (zA [] L s.heap.size) [] u t) (zA [] L s.heap.size)) ([.ref p0, .ref p1] : List Value).toArray s 0 0 (zA [] L s.heap.size)) (F0 m 11 ls []) := by
    intro n
    induction n with
    | zero => intro H locs gk ca i hn; exact absurd hn (Nat.not_lt_zero _)
    | succ n ih =>
      intro H locs gk ca i hn hi hW0 hc hz hI ls hl
      have hr9 : gk p0 0 = .ref q0 := (hW0.f p0 0 hpq).trans hN0.r
      have hr8 : gk p1 0 = .ref q1 := (hW0.f p1 0 hp1q).trans hN1.r
      refine lv_iload hx hb dX0_takeAway_11 (lv_at hl 0 rfl) ?_
      refine lv_iload_n hx hb dX0_takeAway_13 rfl (lv_at hl 2 rfl) ?_
      refine lv_icmp_ge (tgt := 58) hx hb dX0_takeAway_14 (by decide) (fun c1 => ?_) (fun c1 => ?_)
      · have hi2 : i = M := Nat.le_antisymm hi (z_ge (by omega) (by omega) c1)
        subst hi2
        have hn3 : zN0 gk p0 q0 i := ⟨hr9, (hW0.f p0 1 hpq).trans hN0.us, hM2, hW0.b, fun j h4 h5 => by rw [dg_eq (hW0.h j (by omega))]; exact hN0.hi j h4 h5⟩
        have hv3 : zV gk q0 + ca.toInt * 4294967296 ^ i = zV g q0 - zV g q1 := by
          rw [hn3.v (Nat.le_refl i) hM2, hN0.v hM0 hM2, hN1.v hM1 hM2]; exact hz
        have hc0 : ca.toInt = 0 := by
          rcases Int.lt_or_le ca.toInt 0 with h | h
          · exfalso
            have h2 : ca.toInt = -1 := by omega
            rw [h2] at hv3
            have h3 := hn3.lt
            omega
          · omega
        have hv4 : zV gk q0 = zV g q0 - zV g q1 := by rw [← hv3, hc0]; omega
        refine lv_aload_n hx hb dX0_takeAway_58 rfl (lv_at hl 3 rfl) ?_
        refine z_cv hI (va_runV (As := []) (rest := []) ⟨hx, hb, hml, hown, hts⟩ (a_X0_dropZeros l _ _ _ _ _ _ _ p0 q0 i K0 A0 hK0 hk0 hq0 hn3) (cwV 0 hts gX0_takeAway_X0_dropZeros rfl rfl rfl (by decide +kernel) ⟨Nat.le_of_ble_eq_true rfl, Nat.le_of_ble_eq_true rfl⟩) (z_preV hK hE hI [] rfl rfl (z_recv hK hI hk0 hK0.1 rfl)) rfl rfl hl.1 rfl (lv_room (Nat.le_of_ble_eq_true rfl)) dX0_takeAway_59 ⟨Nat.le_of_ble_eq_true rfl, Nat.le_of_ble_eq_true rfl⟩) (fun u H locs hw hI => ?_)
        obtain ⟨g4, w4, rfl, hn4, hv5, hf4⟩ := hw
        exact W.vret hx hb hr (fun t ht hW => ⟨⟨(L, κ, g4), rfl, ⟨g4, w4, rfl, hn4, hv5.trans hv4, (show zFr p0 q0 g gk from hW0.fr).tr hf4⟩, z_end hK hI ht hW⟩, z_F hI ht⟩) (z_locs hI) dX0_takeAway_62
      · have hi2 : i < M := z_lt (by omega) c1
        refine lv_lload_n hx hb dX0_takeAway_17 rfl (lv_at hl 1 rfl) ?_
        refine lv_aload_n hx hb dX0_takeAway_18 rfl (lv_at hl 3 rfl) ?_
        refine z_get (k := K0) (j := 0) hM hI hk0 hK0.1 rfl hinX0 rfl (by decide) (by decide +kernel) (fun _ h9 => h9) dX0_takeAway_19 (fun v9 hv9 => ?_)
        obtain ⟨hg9, r9, rfl, -⟩ := hv9
        obtain rfl : q0 = r9 := Value.ref.inj ((hr9).symm.trans hg9.symm)
        clear hg9
        refine lv_iload hx hb dX0_takeAway_22 (lv_at hl 0 rfl) ?_
        refine z_lald hM hI hq0 hK0.2.1 hK0.2.2 (vp_in_nI (by omega) (by omega)) dX0_takeAway_24 (fun x hvx => ?_)
        obtain ⟨hvx, -⟩ := hvx
        rw [nI_clamp (by omega)] at hvx
        refine lv_aload_n hx hb dX0_takeAway_25 rfl (lv_at hl 4 rfl) ?_
        refine z_get (k := K1) (j := 0) hM hI hk1 hK1.1 rfl hinX0 rfl (by decide) (by decide +kernel) (fun _ h9 => h9) dX0_takeAway_26 (fun v9 hv9 => ?_)
        obtain ⟨hg9, r9, rfl, -⟩ := hv9
        obtain rfl : q1 = r9 := Value.ref.inj ((hr8).symm.trans hg9.symm)
        clear hg9
        refine lv_iload hx hb dX0_takeAway_29 (lv_at hl 0 rfl) ?_
        refine z_lald hM hI hq1 hK1.2.1 hK1.2.2 (vp_in_nI (by omega) (by omega)) dX0_takeAway_31 (fun y hvy => ?_)
        obtain ⟨hvy, -⟩ := hvy
        rw [nI_clamp (by omega)] at hvy
        have hxd : dg g q0 i = x.toInt := (dg_eq (hW0.rd (by omega)).symm).trans (dg_at hvx.symm)
        have hyd : dg g q1 i = y.toInt := (dg_eq (hW0.rd (by omega)).symm).trans (dg_at hvy.symm)
        have hxb := hN0.bd i (by omega)
        have hyb := hN1.bd i (by omega)
        rw [hxd] at hxb
        rw [hyd] at hyb
        refine lv_lsub hx hb dX0_takeAway_32 ?_
        refine lv_topl (fun v ev => ?_)
        have hv1 : v.toInt = x.toInt - y.toInt := by rw [ev]; exact w_sub (by omega) (by omega)
        refine lv_ladd hx hb dX0_takeAway_33 ?_
        refine lv_topl (fun w ew => ?_)
        have hw1 : w.toInt = ca.toInt + v.toInt := by rw [ew]; exact w_add (by omega) (by omega)
        refine lv_lstore_n (lv' := [(3, .long w), (5, .int (nI i)), (2, .int (nI M)), (0, .ref p0), (1, .ref p1)]) hx hb dX0_takeAway_34 rfl hl (by decide) rfl (fun ls hl => ?_)
        refine lv_aload_n hx hb dX0_takeAway_35 rfl (lv_at hl 3 rfl) ?_
        refine z_get (k := K0) (j := 0) hM hI hk0 hK0.1 rfl hinX0 rfl (by decide) (by decide +kernel) (fun _ h9 => h9) dX0_takeAway_36 (fun v9 hv9 => ?_)
        obtain ⟨hg9, r9, rfl, -⟩ := hv9
        obtain rfl : q0 = r9 := Value.ref.inj ((hr9).symm.trans hg9.symm)
        clear hg9
        refine lv_iload hx hb dX0_takeAway_39 (lv_at hl 1 rfl) ?_
        refine lv_lload_n hx hb dX0_takeAway_41 rfl (lv_at hl 0 rfl) ?_
        refine lv_ldc2 (v := 4294967295) hx hb hown (hts (.constantLong RX0 26 (4294967295)) (by decide +kernel)) dX0_takeAway_42 ?_
        refine lv_land hx hb dX0_takeAway_45 ?_
        refine lv_topl (fun r er => ?_)
        have hr1 : r.toInt = w.toInt % 4294967296 := by rw [er]; exact w_mask
        obtain ⟨g2, hG9⟩ : ∃ g9, g9 = zup gk q0 i (.long r) := ⟨_, rfl⟩
        have hsg2 : g2 q0 i = .long r := by rw [hG9]; exact zup_self _ _ _ _
        have hog2 : ∀ b j, (b ≠ q0 ∨ j ≠ i) → g2 b j = gk b j := fun b j h => by rw [hG9]; exact zup_ne h
        clear hG9
        refine z_last (g' := g2) hM hI hq0 hK0.2.1 hK0.2.2 (vp_in_nI (by omega) (by omega)) ⟨by rw [nI_clamp (show i < 2 ^ 31 by omega)]; exact hsg2.symm, _, rfl⟩ (fun b j h => hog2 b j (by rw [nI_clamp (show i < 2 ^ 31 by omega)] at h; exact h)) dX0_takeAway_46 (fun H locs hI => ?_)
        refine lv_lload_n hx hb dX0_takeAway_47 rfl (lv_at hl 0 rfl) ?_
        refine lv_bipush (v := 32) hx hb dX0_takeAway_48 (by decide) ?_
        refine lv_lshr hx hb dX0_takeAway_50 rfl ?_
        refine lv_topl (fun c2 ec => ?_)
        have hc2 : c2.toInt = w.toInt / 4294967296 := by rw [ec]; exact w_shr
        refine lv_lstore_n (lv' := [(3, .long c2), (5, .int (nI i)), (2, .int (nI M)), (0, .ref p0), (1, .ref p1)]) hx hb dX0_takeAway_51 rfl hl (by decide) rfl (fun ls hl => ?_)
        refine lv_iinc (v := nI (i + 1)) (lv' := [(5, .int (nI (i + 1))), (3, .long c2), (2, .int (nI M)), (0, .ref p0), (1, .ref p1)]) hx hb dX0_takeAway_52 hl (k := 1) rfl (z_inc i) (by decide) rfl (fun ls hl => ?_)
        refine lv_goto (tgt := 11) hx hb dX0_takeAway_55 (by decide) ?_
        have e2 : vS (dg g2 q0) i = vS (dg gk q0) i := vS_congr (fun j hj => dg_eq (hog2 q0 j (Or.inr (by omega))))
        refine ih _ _ g2 c2 (i + 1) (by omega) (by omega) (hW0.step hsg2 hog2 (by omega) (fun j h => by omega)) (by omega) (vS_sub_step (by rw [e2]; exact hz) (by rw [dg_at hsg2, hxd, hyd]; omega)) hI _ (lv_sub hl [0, 1, 2, 3, 4] rfl)
  exact hL (M + 1) _ _ g 0 0 (by omega) (by omega) ⟨fun _ _ _ => rfl, fun _ _ => rfl, hN0.bd⟩ (by decide) (by simp [vS]) hI _ (lv_sub hl [0, 1, 2, 3, 4] rfl)

set_option maxHeartbeats 4000000 in
set_option maxRecDepth 100000 in
theorem a_X0_becomeProduct (l : Launch) (D : va_G) (tc : Nat → ClassId) (z0 : Nat) (L : List Nat) (κ : Nat → Nat) (g : Nat → Nat → Value) (sz : Nat) (p0 q0 u0 K0 A0 : Nat) (p1 q1 u1 K1 A1 : Nat) (f : Int32) (hK0 : zAK K0 A0) (hk0 : κ p0 = K0) (hq0 : κ q0 = A0) (hN0 : zN0 g p0 q0 u0) (hK1 : zAK K1 A1) (hk1 : κ p1 = K1) (hq1 : κ q1 = A1) (hN1 : zN0 g p1 q1 u1) (hf0 : 0 ≤ f.toInt) (hV9 : zV g q1 * f.toInt < 4294967296 ^ 16) : Met l yX0_becomeProduct wsX0_becomeProduct ({ frames := 3, cells := 0, slots := 0, locals := 68 }) (zPc D tc z0 ([.ref p0, .ref p1, .int f] : List Value) [] (L, κ, g) sz) (va_Qv (fun (u : zS) => zAm L κ g p0 q0 (zV g q1 * f.toInt) u) (fun (u : zS) (t : State) => zB D tc (zA [] L sz) [] u t) (zA [] L sz)) 0 0 (zA [] L sz) := by
  refine Met.ofW (cc := cX0_becomeProduct) (maxL := 7) (ret := none) (by decide) rfl ?_
  intro p e9 s m args below meth c s₁ B hml hv
  obtain ⟨rfl, rfl, hK, hE, hI⟩ := hv.opn
  have hx := B.exec
  have hb := B.bytes
  have hr := B.returns
  have hts := atoms_spec (ws := wsX0_becomeProduct) B.pre
  have hown : s.vm.findClass RX0 = some m.cls := findClass_of_methodNamed B.named
  have hlocks := B.notSynchronized
  have hM : zM p s m c cX0_becomeProduct _ wsX0_becomeProduct RX0 D tc := ⟨hx, hb, hts, hown, hK⟩
  have hinX0 : ∀ w ∈ wsX00, w ∈ wsX0_becomeProduct := by decide +kernel
  have hl := lv_entry ([.ref p0, .ref p1, .int f] : List Value) (n := 7) (Nat.le_of_ble_eq_true rfl)
  rw [lg_entry_eq]
  generalize (lg_sl ([.ref p0, .ref p1, .int f] : List Value) ++ List.replicate (7 - (lg_sl ([.ref p0, .ref p1, .int f] : List Value)).length) Slot.unset).toArray = ls at hl ⊢
  have hl : lv_has ls 7 [(0, .ref p0), (1, .ref p1), (2, .int f)] := hl
  have hpq : p0 ≠ q0 := hK0.ne hk0 hq0
  have hu16 := hN0.le
  have hu17 := hN1.le
  have hp1q : p1 ≠ q0 := hK1.ne2 hK0 hk1 hq0
  have hflt := Int32.toInt_lt f
  refine lv_aload_n hx hb dX0_becomeProduct_0 rfl (lv_at hl 0 rfl) ?_
  refine lv_aload_n hx hb dX0_becomeProduct_1 rfl (lv_at hl 1 rfl) ?_
  refine vp_callSi (W.runV (As := [.ref p1]) (rest := []) ⟨hx, hb, hml, hown, hts⟩ (a_X0_reach l _ _ _ _ _ _ _ p0 q0 u0 K0 A0 p1 q1 u1 K1 A1 hK0 hk0 hq0 hN0 hK1 hk1 hq1 hN1) (cwV 1 hts gX0_becomeProduct_X0_reach rfl rfl rfl (by decide +kernel) ⟨Nat.le_of_ble_eq_true rfl, Nat.le_of_ble_eq_true rfl⟩) (z_preV hK hE hI [] rfl rfl (z_recv hK hI hk0 hK0.1 rfl)) rfl rfl hl.1 rfl (lv_room (Nat.le_of_ble_eq_true rfl)) dX0_becomeProduct_2 ⟨Nat.le_of_ble_eq_true rfl, Nat.le_of_ble_eq_true rfl⟩) (fun v9 hw => ?_)
  obtain rfl := hw
  generalize hM9 : max u0 u1 = M
  have hM0 : u0 ≤ M := by omega
  have hM1 : u1 ≤ M := by omega
  have hM2 : M ≤ 16 := by omega
  refine lv_istore_n (lv' := [(3, .int (nI M)), (0, .ref p0), (1, .ref p1), (2, .int f)]) hx hb dX0_becomeProduct_5 rfl hl (by decide) rfl (fun ls hl => ?_)
  refine lv_lconst (v := 0) hx hb dX0_becomeProduct_6 (by decide) ?_
  refine lv_lstore (lv' := [(4, .long 0), (3, .int (nI M)), (0, .ref p0), (1, .ref p1), (2, .int f)]) hx hb dX0_becomeProduct_7 hl (by decide) rfl (fun ls hl => ?_)
  refine lv_iconst (v := 0) hx hb dX0_becomeProduct_9 (by decide) ?_
  refine lv_istore (lv' := [(6, .int 0), (4, .long 0), (3, .int (nI M)), (0, .ref p0), (1, .ref p1), (2, .int f)]) hx hb dX0_becomeProduct_10 hl (by decide) rfl (fun ls hl => ?_)
  have hL : ∀ (n : Nat) (H : Heap) (locs : List Loc) (gk : Nat → Nat → Value) (ca : Int64) (i : Nat) (hn : M - i < n) (hi : i ≤ M) (hW0 : zW g gk q0 (fun j => j < i)) (hc : 0 ≤ ca.toInt ∧ ca.toInt ≤ f.toInt) (hz : vS (dg gk q0) i + ca.toInt * 4294967296 ^ i = vS (dg g q1) i * f.toInt) (hI : zI D tc (zA [] L s.heap.size) s.heap [] L κ gk H locs) (ls : Array Slot) (hl : lv_has ls 7 [(6, .int (nI i)), (4, .long ca), (3, .int (nI M)), (0, .ref p0), (1, .ref p1), (2, .int f)]), W p l e9 (headSpec wsX0_becomeProduct ({ frames := 3, cells := 0, slots := 0, locals := 68 })).room s m ([.ref p0, .ref p1, .int f] : List Value).toArray below meth c H locs 0 0 (MQ below (va_Qv (fun (u : zS) => zAm L κ g p0 q0 (zV g q1 * f.toInt) u) (fun (u : zS) (t : State) => zB D tc (zA [] L s.heap.size) [] u t) (zA [] L s.heap.size)) ([.ref p0, .ref p1, .int f] : List Value).toArray s 0 0 (zA [] L s.heap.size)) (F0 m 12 ls []) := by
    intro n
    induction n with
    | zero => intro H locs gk ca i hn; exact absurd hn (Nat.not_lt_zero _)
    | succ n ih =>
      intro H locs gk ca i hn hi hW0 hc hz hI ls hl
      have hr9 : gk p0 0 = .ref q0 := (hW0.f p0 0 hpq).trans hN0.r
      have hr8 : gk p1 0 = .ref q1 := (hW0.f p1 0 hp1q).trans hN1.r
      refine lv_iload hx hb dX0_becomeProduct_12 (lv_at hl 0 rfl) ?_
      refine lv_iload_n hx hb dX0_becomeProduct_14 rfl (lv_at hl 2 rfl) ?_
      refine lv_icmp_ge (tgt := 59) hx hb dX0_becomeProduct_15 (by decide) (fun c1 => ?_) (fun c1 => ?_)
      · have hi2 : i = M := Nat.le_antisymm hi (z_ge (by omega) (by omega) c1)
        subst hi2
        refine lv_aload_n hx hb dX0_becomeProduct_59 rfl (lv_at hl 3 rfl) ?_
        refine lv_iload_n hx hb dX0_becomeProduct_60 rfl (lv_at hl 2 rfl) ?_
        obtain ⟨g3, hG9⟩ : ∃ g9, g9 = zup gk p0 1 (.int (nI i)) := ⟨_, rfl⟩
        have hsg3 : g3 p0 1 = .int (nI i) := by rw [hG9]; exact zup_self _ _ _ _
        have hog3 : ∀ b j, (b ≠ p0 ∨ j ≠ 1) → g3 b j = gk b j := fun b j h => by rw [hG9]; exact zup_ne h
        clear hG9
        refine z_put (g' := g3) (k := K0) (j := 1) hM hI hk0 hK0.1 rfl hinX0 tyX0 tyX0_ok nmX0 rfl (by decide) (by decide +kernel) (fun _ h9 => h9) rfl rfl rfl rfl ⟨hsg3.symm, _, rfl⟩ hog3 dX0_becomeProduct_61 (fun H locs hI => ?_)
        obtain ⟨hn3, e3, hf3⟩ := hW0.n0 hN0 hpq hM0 hM2 (fun j h => h) hsg3 hog3
        have hv3 : zV g3 q0 + ca.toInt * 4294967296 ^ i = zV g q1 * f.toInt := by
          rw [hn3.v (Nat.le_refl i) hM2, hN1.v hM1 hM2, vS_congr (fun j _ => e3 j)]; exact hz
        have h16 : i < 16 ∨ ca.toInt = 0 := by
          rcases Nat.lt_or_ge i 16 with h | h
          · exact Or.inl h
          · obtain rfl : i = 16 := by omega
            exact Or.inr (vS_carry hn3.nn hc.1 hv3 hV9)
        refine lv_aload_n hx hb dX0_becomeProduct_64 rfl (lv_at hl 3 rfl) ?_
        refine lv_lload hx hb dX0_becomeProduct_65 (lv_at hl 1 rfl) ?_
        refine z_cv hI (va_runV (As := [.long ca]) (rest := []) ⟨hx, hb, hml, hown, hts⟩ (a_X0_putOnTop l _ _ _ _ _ _ _ p0 q0 i K0 A0 ca hK0 hk0 hq0 hn3 hc.1 (by omega) h16) (cwV 1 hts gX0_becomeProduct_X0_putOnTop rfl rfl rfl (by decide +kernel) ⟨Nat.le_of_ble_eq_true rfl, Nat.le_of_ble_eq_true rfl⟩) (z_preV hK hE hI [] rfl rfl (z_recv hK hI hk0 hK0.1 rfl)) rfl rfl hl.1 rfl (lv_room (Nat.le_of_ble_eq_true rfl)) dX0_becomeProduct_67 ⟨Nat.le_of_ble_eq_true rfl, Nat.le_of_ble_eq_true rfl⟩) (fun u H locs hw hI => ?_)
        obtain ⟨g4, w4, rfl, hn4, hv4, hf4⟩ := hw
        exact W.vret hx hb hr (fun t ht hW => ⟨⟨(L, κ, g4), rfl, ⟨g4, w4, rfl, hn4, hv4.trans hv3, hf3.tr hf4⟩, z_end hK hI ht hW⟩, z_F hI ht⟩) (z_locs hI) dX0_becomeProduct_70
      · have hi2 : i < M := z_lt (by omega) c1
        refine lv_lload hx hb dX0_becomeProduct_18 (lv_at hl 1 rfl) ?_
        refine lv_aload_n hx hb dX0_becomeProduct_20 rfl (lv_at hl 4 rfl) ?_
        refine z_get (k := K1) (j := 0) hM hI hk1 hK1.1 rfl hinX0 rfl (by decide) (by decide +kernel) (fun _ h9 => h9) dX0_becomeProduct_21 (fun v9 hv9 => ?_)
        obtain ⟨hg9, r9, rfl, -⟩ := hv9
        obtain rfl : q1 = r9 := Value.ref.inj ((hr8).symm.trans hg9.symm)
        clear hg9
        refine lv_iload hx hb dX0_becomeProduct_24 (lv_at hl 0 rfl) ?_
        refine z_lald hM hI hq1 hK1.2.1 hK1.2.2 (vp_in_nI (by omega) (by omega)) dX0_becomeProduct_26 (fun y hvy => ?_)
        obtain ⟨hvy, -⟩ := hvy
        rw [nI_clamp (by omega)] at hvy
        have hyd : dg g q1 i = y.toInt := (dg_eq (hW0.rd (by omega)).symm).trans (dg_at hvy.symm)
        have hyb := hN1.bd i (by omega)
        rw [hyd] at hyb
        refine lv_iload_n hx hb dX0_becomeProduct_27 rfl (lv_at hl 5 rfl) ?_
        refine lv_i2l hx hb dX0_becomeProduct_28 rfl ?_
        refine lv_topl (fun fl ef => ?_)
        have hfl : fl.toInt = f.toInt := by rw [ef]; exact Jvm.Kit.i64_of_i32 f
        have hb1 : y.toInt * f.toInt ≤ 4294967295 * f.toInt := Int.mul_le_mul_of_nonneg_right (by omega) hf0
        have hb0 : 0 ≤ y.toInt * f.toInt := Int.mul_nonneg hyb.1 hf0
        refine lv_lmul hx hb dX0_becomeProduct_29 ?_
        refine lv_topl (fun v ev => ?_)
        have hv1 : v.toInt = y.toInt * f.toInt := by rw [ev, ← hfl]; exact w_mul (by rw [hfl]; omega) (by rw [hfl]; omega)
        refine lv_ladd hx hb dX0_becomeProduct_30 ?_
        refine lv_topl (fun w ew => ?_)
        have hw1 : w.toInt = ca.toInt + v.toInt := by rw [ew]; exact w_add (by omega) (by omega)
        refine lv_lstore (lv' := [(4, .long w), (6, .int (nI i)), (3, .int (nI M)), (0, .ref p0), (1, .ref p1), (2, .int f)]) hx hb dX0_becomeProduct_31 hl (by decide) rfl (fun ls hl => ?_)
        refine lv_aload_n hx hb dX0_becomeProduct_33 rfl (lv_at hl 3 rfl) ?_
        refine z_get (k := K0) (j := 0) hM hI hk0 hK0.1 rfl hinX0 rfl (by decide) (by decide +kernel) (fun _ h9 => h9) dX0_becomeProduct_34 (fun v9 hv9 => ?_)
        obtain ⟨hg9, r9, rfl, -⟩ := hv9
        obtain rfl : q0 = r9 := Value.ref.inj ((hr9).symm.trans hg9.symm)
        clear hg9
        refine lv_iload hx hb dX0_becomeProduct_37 (lv_at hl 1 rfl) ?_
        refine lv_lload hx hb dX0_becomeProduct_39 (lv_at hl 0 rfl) ?_
        refine lv_ldc2 (v := 4294967295) hx hb hown (hts (.constantLong RX0 26 (4294967295)) (by decide +kernel)) dX0_becomeProduct_41 ?_
        refine lv_land hx hb dX0_becomeProduct_44 ?_
        refine lv_topl (fun r er => ?_)
        have hr1 : r.toInt = w.toInt % 4294967296 := by rw [er]; exact w_mask
        obtain ⟨g2, hG9⟩ : ∃ g9, g9 = zup gk q0 i (.long r) := ⟨_, rfl⟩
        have hsg2 : g2 q0 i = .long r := by rw [hG9]; exact zup_self _ _ _ _
        have hog2 : ∀ b j, (b ≠ q0 ∨ j ≠ i) → g2 b j = gk b j := fun b j h => by rw [hG9]; exact zup_ne h
        clear hG9
        refine z_last (g' := g2) hM hI hq0 hK0.2.1 hK0.2.2 (vp_in_nI (by omega) (by omega)) ⟨by rw [nI_clamp (show i < 2 ^ 31 by omega)]; exact hsg2.symm, _, rfl⟩ (fun b j h => hog2 b j (by rw [nI_clamp (show i < 2 ^ 31 by omega)] at h; exact h)) dX0_becomeProduct_45 (fun H locs hI => ?_)
        refine lv_lload hx hb dX0_becomeProduct_46 (lv_at hl 0 rfl) ?_
        refine lv_bipush (v := 32) hx hb dX0_becomeProduct_48 (by decide) ?_
        refine lv_lushr hx hb dX0_becomeProduct_50 rfl ?_
        refine lv_topl (fun c2 ec => ?_)
        have hc2 : c2.toInt = w.toInt / 4294967296 := by rw [ec]; exact w_sh (by omega)
        refine lv_lstore (lv' := [(4, .long c2), (6, .int (nI i)), (3, .int (nI M)), (0, .ref p0), (1, .ref p1), (2, .int f)]) hx hb dX0_becomeProduct_51 hl (by decide) rfl (fun ls hl => ?_)
        refine lv_iinc (v := nI (i + 1)) (lv' := [(6, .int (nI (i + 1))), (4, .long c2), (3, .int (nI M)), (0, .ref p0), (1, .ref p1), (2, .int f)]) hx hb dX0_becomeProduct_53 hl (k := 1) rfl (z_inc i) (by decide) rfl (fun ls hl => ?_)
        refine lv_goto (tgt := 12) hx hb dX0_becomeProduct_56 (by decide) ?_
        have e2 : vS (dg g2 q0) i = vS (dg gk q0) i := vS_congr (fun j hj => dg_eq (hog2 q0 j (Or.inr (by omega))))
        refine ih _ _ g2 c2 (i + 1) (by omega) (by omega) (hW0.step hsg2 hog2 (by omega) (fun j h => by omega)) (by omega) (vS_mul_step (by rw [e2]; exact hz) (by rw [dg_at hsg2, hyd]; omega)) hI _ (lv_sub hl [0, 1, 2, 3, 4, 5] rfl)
  exact hL (M + 1) _ _ g 0 0 (by omega) (by omega) ⟨fun _ _ _ => rfl, fun _ _ => rfl, hN0.bd⟩ ⟨by decide, hf0⟩ (by simp [vS]) hI _ (lv_sub hl [0, 1, 2, 3, 4, 5] rfl)

set_option maxHeartbeats 4000000 in
set_option maxRecDepth 100000 in
theorem a_X0_becomeQuotient (l : Launch) (D : va_G) (tc : Nat → ClassId) (z0 : Nat) (L : List Nat) (κ : Nat → Nat) (g : Nat → Nat → Value) (sz : Nat) (p0 q0 u0 K0 A0 : Nat) (p1 q1 u1 K1 A1 : Nat) (f : Int32) (hK0 : zAK K0 A0) (hk0 : κ p0 = K0) (hq0 : κ q0 = A0) (hN0 : zN0 g p0 q0 u0) (hK1 : zAK K1 A1) (hk1 : κ p1 = K1) (hq1 : κ q1 = A1) (hN1 : zN0 g p1 q1 u1) (hf0 : 1 ≤ f.toInt) : Met l yX0_becomeQuotient wsX0_becomeQuotient ({ frames := 2, cells := 0, slots := 0, locals := 43 }) (zPc D tc z0 ([.ref p0, .ref p1, .int f] : List Value) [] (L, κ, g) sz) (va_Qv (fun (u : zS) => zAm L κ g p0 q0 (zV g q1 / f.toInt) u) (fun (u : zS) (t : State) => zB D tc (zA [] L sz) [] u t) (zA [] L sz)) 0 0 (zA [] L sz) := by
  refine Met.ofW (cc := cX0_becomeQuotient) (maxL := 6) (ret := none) (by decide) rfl ?_
  intro p e9 s m args below meth c s₁ B hml hv
  obtain ⟨rfl, rfl, hK, hE, hI⟩ := hv.opn
  have hx := B.exec
  have hb := B.bytes
  have hr := B.returns
  have hts := atoms_spec (ws := wsX0_becomeQuotient) B.pre
  have hown : s.vm.findClass RX0 = some m.cls := findClass_of_methodNamed B.named
  have hlocks := B.notSynchronized
  have hM : zM p s m c cX0_becomeQuotient _ wsX0_becomeQuotient RX0 D tc := ⟨hx, hb, hts, hown, hK⟩
  have hinX0 : ∀ w ∈ wsX00, w ∈ wsX0_becomeQuotient := by decide +kernel
  have hl := lv_entry ([.ref p0, .ref p1, .int f] : List Value) (n := 6) (Nat.le_of_ble_eq_true rfl)
  rw [lg_entry_eq]
  generalize (lg_sl ([.ref p0, .ref p1, .int f] : List Value) ++ List.replicate (6 - (lg_sl ([.ref p0, .ref p1, .int f] : List Value)).length) Slot.unset).toArray = ls at hl ⊢
  have hl : lv_has ls 6 [(0, .ref p0), (1, .ref p1), (2, .int f)] := hl
  have hpq : p0 ≠ q0 := hK0.ne hk0 hq0
  have hu16 := hN0.le
  have hu17 := hN1.le
  have hp1q : p1 ≠ q0 := hK1.ne2 hK0 hk1 hq0
  have hflt := Int32.toInt_lt f
  have hp0q : p0 ≠ q1 := hK0.ne2 hK1 hk0 hq1
  refine lv_iload_n hx hb dX0_becomeQuotient_0 rfl (lv_at hl 2 rfl) ?_
  refine lv_iconst (v := 1) hx hb dX0_becomeQuotient_1 (by decide) ?_
  refine lv_icmp_ge (tgt := 6) hx hb dX0_becomeQuotient_2 (by decide) (fun _ => ?_) (fun c9 => absurd (Int32.le_iff_toInt_le.mpr (show (1 : Int32).toInt ≤ f.toInt from hf0)) c9)
  refine lv_aload_n hx hb dX0_becomeQuotient_6 rfl (lv_at hl 0 rfl) ?_
  refine lv_aload_n hx hb dX0_becomeQuotient_7 rfl (lv_at hl 0 rfl) ?_
  refine lv_aload_n hx hb dX0_becomeQuotient_8 rfl (lv_at hl 1 rfl) ?_
  refine vp_callSi (W.runV (As := [.ref p1]) (rest := [.ref p0]) ⟨hx, hb, hml, hown, hts⟩ (a_X0_reach l _ _ _ _ _ _ _ p0 q0 u0 K0 A0 p1 q1 u1 K1 A1 hK0 hk0 hq0 hN0 hK1 hk1 hq1 hN1) (cwV 1 hts gX0_becomeQuotient_X0_reach rfl rfl rfl (by decide +kernel) ⟨Nat.le_of_ble_eq_true rfl, Nat.le_of_ble_eq_true rfl⟩) (z_preV hK hE hI [] rfl rfl (z_recv hK hI hk0 hK0.1 rfl)) rfl rfl hl.1 rfl (lv_room (Nat.le_of_ble_eq_true rfl)) dX0_becomeQuotient_9 ⟨Nat.le_of_ble_eq_true rfl, Nat.le_of_ble_eq_true rfl⟩) (fun v9 hw => ?_)
  obtain rfl := hw
  generalize hM9 : max u0 u1 = M
  have hM0 : u0 ≤ M := by omega
  have hM1 : u1 ≤ M := by omega
  have hM2 : M ≤ 16 := by omega
  obtain ⟨g1, hG9⟩ : ∃ g9, g9 = zup g p0 1 (.int (nI M)) := ⟨_, rfl⟩
  have hsg1 : g1 p0 1 = .int (nI M) := by rw [hG9]; exact zup_self _ _ _ _
  have hog1 : ∀ b j, (b ≠ p0 ∨ j ≠ 1) → g1 b j = g b j := fun b j h => by rw [hG9]; exact zup_ne h
  clear hG9
  refine z_put (g' := g1) (k := K0) (j := 1) hM hI hk0 hK0.1 rfl hinX0 tyX0 tyX0_ok nmX0 rfl (by decide) (by decide +kernel) (fun _ h9 => h9) rfl rfl rfl rfl ⟨hsg1.symm, _, rfl⟩ hog1 dX0_becomeQuotient_12 (fun H locs hI => ?_)
  have hb1 : ∀ b j, b ≠ p0 → g1 b j = g b j := fun b j h => hog1 b j (Or.inl h)
  have hr1 : g1 p0 0 = .ref q0 := (hog1 p0 0 (Or.inr (by decide))).trans hN0.r
  have hrp : g1 p1 0 = .ref q1 := (hog1 p1 0 (Or.inr (by decide))).trans hN1.r
  refine lv_lconst (v := 0) hx hb dX0_becomeQuotient_15 (by decide) ?_
  refine lv_lstore_n (lv' := [(3, .long 0), (0, .ref p0), (1, .ref p1), (2, .int f)]) hx hb dX0_becomeQuotient_16 rfl hl (by decide) rfl (fun ls hl => ?_)
  refine lv_aload_n hx hb dX0_becomeQuotient_17 rfl (lv_at hl 1 rfl) ?_
  refine z_get (k := K0) (j := 1) hM hI hk0 hK0.1 rfl hinX0 rfl (by decide) (by decide +kernel) (fun _ h9 => h9) dX0_becomeQuotient_18 (fun v9 hv9 => ?_)
  obtain ⟨hg9, i9, rfl⟩ := hv9
  obtain rfl : nI M = i9 := Value.int.inj ((hsg1).symm.trans hg9.symm)
  clear hg9
  refine lv_iconst (v := 1) hx hb dX0_becomeQuotient_21 (by decide) ?_
  refine lv_isub hx hb dX0_becomeQuotient_22 ?_
  refine lv_istore (lv' := [(5, .int (nI M - 1)), (3, .long 0), (0, .ref p0), (1, .ref p1), (2, .int f)]) hx hb dX0_becomeQuotient_23 hl (by decide) rfl (fun ls hl => ?_)
  have hL : ∀ (n : Nat) (H : Heap) (locs : List Loc) (gk : Nat → Nat → Value) (ca : Int64) (i : Nat) (hn : i < n) (hi : i ≤ M) (hW0 : zW g1 gk q0 (fun j => i ≤ j ∧ j < M)) (hc : 0 ≤ ca.toInt ∧ ca.toInt < f.toInt) (hz : vS (dg g q1) M = vS (dg g q1) i + ca.toInt * 4294967296 ^ i + (vS (dg gk q0) M - vS (dg gk q0) i) * f.toInt) (hI : zI D tc (zA [] L s.heap.size) s.heap [] L κ gk H locs) (ls : Array Slot) (hl : lv_has ls 6 [(5, .int (nI i - 1)), (3, .long ca), (0, .ref p0), (1, .ref p1), (2, .int f)]), W p l e9 (headSpec wsX0_becomeQuotient ({ frames := 2, cells := 0, slots := 0, locals := 43 })).room s m ([.ref p0, .ref p1, .int f] : List Value).toArray below meth c H locs 0 0 (MQ below (va_Qv (fun (u : zS) => zAm L κ g p0 q0 (zV g q1 / f.toInt) u) (fun (u : zS) (t : State) => zB D tc (zA [] L s.heap.size) [] u t) (zA [] L s.heap.size)) ([.ref p0, .ref p1, .int f] : List Value).toArray s 0 0 (zA [] L s.heap.size)) (F0 m 25 ls []) := by
    intro n
    induction n with
    | zero => intro H locs gk ca i hn; exact absurd hn (Nat.not_lt_zero _)
    | succ n ih =>
      intro H locs gk ca i hn hi hW0 hc hz hI ls hl
      have hr9 : gk p0 0 = .ref q0 := (hW0.f p0 0 hpq).trans hr1
      have hr8 : gk p1 0 = .ref q1 := (hW0.f p1 0 hp1q).trans hrp
      refine lv_iload hx hb dX0_becomeQuotient_25 (lv_at hl 0 rfl) ?_
      rcases i with _ | k
      · refine lv_if_lt (tgt := 65) hx hb dX0_becomeQuotient_27 (by decide) (fun _ => ?_) (fun c9 => absurd (by decide) c9)
        have hn3 : zN0 gk p0 q0 M := ⟨hr9, (hW0.f p0 1 hpq).trans hsg1, hM2, hW0.b, fun j h4 h5 => by rw [dg_eq (hW0.h j (by omega)), dg_eq (hb1 q0 j (Ne.symm hpq))]; exact hN0.hi j (by omega) h5⟩
        have hv3 : zV gk q0 = zV g q1 / f.toInt := by
          rw [hn3.v (Nat.le_refl M) hM2, hN1.v hM1 hM2, hz]
          show vS (dg gk q0) M = (0 + ca.toInt * 4294967296 ^ 0 + (vS (dg gk q0) M - 0) * f.toInt) / f.toInt
          rw [Int.pow_zero, Int.mul_one, Int.zero_add, Int.sub_zero, Int.add_mul_ediv_right _ _ (by omega), Int.ediv_eq_zero_of_lt hc.1 hc.2, Int.zero_add]
        refine lv_aload_n hx hb dX0_becomeQuotient_65 rfl (lv_at hl 2 rfl) ?_
        refine z_cv hI (va_runV (As := []) (rest := []) ⟨hx, hb, hml, hown, hts⟩ (a_X0_dropZeros l _ _ _ _ _ _ _ p0 q0 M K0 A0 hK0 hk0 hq0 hn3) (cwV 0 hts gX0_becomeQuotient_X0_dropZeros rfl rfl rfl (by decide +kernel) ⟨Nat.le_of_ble_eq_true rfl, Nat.le_of_ble_eq_true rfl⟩) (z_preV hK hE hI [] rfl rfl (z_recv hK hI hk0 hK0.1 rfl)) rfl rfl hl.1 rfl (lv_room (Nat.le_of_ble_eq_true rfl)) dX0_becomeQuotient_66 ⟨Nat.le_of_ble_eq_true rfl, Nat.le_of_ble_eq_true rfl⟩) (fun u H locs hw hI => ?_)
        obtain ⟨g4, w4, rfl, hn4, hv4, hf4⟩ := hw
        exact W.vret hx hb hr (fun t ht hW => ⟨⟨(L, κ, g4), rfl, ⟨g4, w4, rfl, hn4, hv4.trans hv3, (show zFr p0 q0 g gk from fun b i h4 h5 => (hW0.f b i h4).trans (hog1 b i h5)).tr hf4⟩, z_end hK hI ht hW⟩, z_F hI ht⟩) (z_locs hI) dX0_becomeQuotient_69
      · rw [nI_pred] at hl ⊢
        refine lv_if_lt (tgt := 65) hx hb dX0_becomeQuotient_27 (by decide) (fun c9 => absurd c9 (nI_pos (by omega))) (fun _ => ?_)
        refine lv_lload_n hx hb dX0_becomeQuotient_30 rfl (lv_at hl 1 rfl) ?_
        refine lv_bipush (v := 32) hx hb dX0_becomeQuotient_31 (by decide) ?_
        refine lv_lshl hx hb dX0_becomeQuotient_33 rfl ?_
        refine lv_topl (fun v ev => ?_)
        have hv1 : v.toInt = ca.toInt * 4294967296 := by rw [ev]; exact w_shl hc.1 (by omega)
        refine lv_aload_n hx hb dX0_becomeQuotient_34 rfl (lv_at hl 3 rfl) ?_
        refine z_get (k := K1) (j := 0) hM hI hk1 hK1.1 rfl hinX0 rfl (by decide) (by decide +kernel) (fun _ h9 => h9) dX0_becomeQuotient_35 (fun v9 hv9 => ?_)
        obtain ⟨hg9, r9, rfl, -⟩ := hv9
        obtain rfl : q1 = r9 := Value.ref.inj ((hr8).symm.trans hg9.symm)
        clear hg9
        refine lv_iload hx hb dX0_becomeQuotient_38 (lv_at hl 0 rfl) ?_
        refine z_lald hM hI hq1 hK1.2.1 hK1.2.2 (vp_in_nI (by omega) (by omega)) dX0_becomeQuotient_40 (fun y hvy => ?_)
        obtain ⟨hvy, -⟩ := hvy
        rw [nI_clamp (by omega)] at hvy
        have hyd : dg g q1 k = y.toInt := (dg_eq ((hW0.rd (by omega)).trans (hb1 q1 k (Ne.symm hp0q))).symm).trans (dg_at hvy.symm)
        have hyb := hN1.bd k (by omega)
        rw [hyd] at hyb
        refine lv_ladd hx hb dX0_becomeQuotient_41 ?_
        refine lv_topl (fun w ew => ?_)
        have hw1 : w.toInt = ca.toInt * 4294967296 + y.toInt := by rw [ew, ← hv1]; exact w_add (by omega) (by omega)
        refine lv_lstore_n (lv' := [(3, .long w), (5, .int (nI k)), (0, .ref p0), (1, .ref p1), (2, .int f)]) hx hb dX0_becomeQuotient_42 rfl hl (by decide) rfl (fun ls hl => ?_)
        obtain ⟨hqb, hrb, hqr⟩ := w_quo (by omega) hc hyb hw1
        have hw0 : 0 ≤ w.toInt := by omega
        refine lv_aload_n hx hb dX0_becomeQuotient_43 rfl (lv_at hl 2 rfl) ?_
        refine z_get (k := K0) (j := 0) hM hI hk0 hK0.1 rfl hinX0 rfl (by decide) (by decide +kernel) (fun _ h9 => h9) dX0_becomeQuotient_44 (fun v9 hv9 => ?_)
        obtain ⟨hg9, r9, rfl, -⟩ := hv9
        obtain rfl : q0 = r9 := Value.ref.inj ((hr9).symm.trans hg9.symm)
        clear hg9
        refine lv_iload hx hb dX0_becomeQuotient_47 (lv_at hl 1 rfl) ?_
        refine lv_lload_n hx hb dX0_becomeQuotient_49 rfl (lv_at hl 0 rfl) ?_
        refine lv_iload_n hx hb dX0_becomeQuotient_50 rfl (lv_at hl 4 rfl) ?_
        refine lv_i2l hx hb dX0_becomeQuotient_51 rfl ?_
        refine lv_topl (fun fl ef => ?_)
        have hfl : fl.toInt = f.toInt := by rw [ef]; exact Jvm.Kit.i64_of_i32 f
        have hf9 : ¬ fl = 0 := fun h => by rw [h] at hfl; have h0 : (0 : Int64).toInt = 0 := rfl; omega
        refine lv_ldiv hx hb dX0_becomeQuotient_52 hf9 ?_
        refine lv_topl (fun x ex => ?_)
        have hx1 : x.toInt = w.toInt / f.toInt := by rw [ex, ← hfl]; exact w_div hw0 (by omega)
        obtain ⟨g2, hG9⟩ : ∃ g9, g9 = zup gk q0 k (.long x) := ⟨_, rfl⟩
        have hsg2 : g2 q0 k = .long x := by rw [hG9]; exact zup_self _ _ _ _
        have hog2 : ∀ b j, (b ≠ q0 ∨ j ≠ k) → g2 b j = gk b j := fun b j h => by rw [hG9]; exact zup_ne h
        clear hG9
        refine z_last (g' := g2) hM hI hq0 hK0.2.1 hK0.2.2 (vp_in_nI (by omega) (by omega)) ⟨by rw [nI_clamp (show k < 2 ^ 31 by omega)]; exact hsg2.symm, _, rfl⟩ (fun b j h => hog2 b j (by rw [nI_clamp (show k < 2 ^ 31 by omega)] at h; exact h)) dX0_becomeQuotient_53 (fun H locs hI => ?_)
        refine lv_lload_n hx hb dX0_becomeQuotient_54 rfl (lv_at hl 0 rfl) ?_
        refine lv_iload_n hx hb dX0_becomeQuotient_55 rfl (lv_at hl 4 rfl) ?_
        refine lv_i2l hx hb dX0_becomeQuotient_56 rfl ?_
        rw [← ef]
        refine lv_lrem hx hb dX0_becomeQuotient_57 hf9 ?_
        refine lv_topl (fun r er => ?_)
        have hr2 : r.toInt = w.toInt % f.toInt := by rw [er, ← hfl]; exact w_rem hw0
        refine lv_lstore_n (lv' := [(3, .long r), (5, .int (nI k)), (0, .ref p0), (1, .ref p1), (2, .int f)]) hx hb dX0_becomeQuotient_58 rfl hl (by decide) rfl (fun ls hl => ?_)
        refine lv_iinc (v := (nI k - 1)) (lv' := [(5, .int (nI k - 1)), (3, .long r), (0, .ref p0), (1, .ref p1), (2, .int f)]) hx hb dX0_becomeQuotient_59 hl (k := 1) rfl (z_dec k) (by decide) rfl (fun ls hl => ?_)
        refine lv_goto (tgt := 25) hx hb dX0_becomeQuotient_62 (by decide) ?_
        refine ih _ _ g2 r k (by omega) (by omega) (hW0.step hsg2 hog2 (by rw [hx1]; exact hqb) (fun j h => by omega)) (by rw [hr2]; exact hrb) (vS_quo_step (X := dg gk q0) (X2 := dg g2 q0) (e := dg g q1) (by omega) (fun j hj => dg_eq (hog2 q0 j (Or.inr hj))) (dg_at hsg2) hz (by rw [hyd, hx1, hr2]; exact hqr)) hI _ (lv_sub hl [0, 1, 2, 3, 4] rfl)
  exact hL (M + 1) _ _ g1 0 M (by omega) (Nat.le_refl M) ⟨fun _ _ _ => rfl, fun _ _ => rfl, fun j hj => by rw [dg_eq (hb1 q0 j (Ne.symm hpq))]; exact hN0.bd j hj⟩ ⟨by decide, by have h0 : (0 : Int64).toInt = 0 := rfl; omega⟩ (by rw [show (0 : Int64).toInt = 0 from rfl]; omega) hI _ (lv_sub hl [0, 1, 2, 3, 4] rfl)

set_option maxHeartbeats 4000000 in
set_option maxRecDepth 100000 in
theorem a_X0_isLess (l : Launch) (D : va_G) (tc : Nat → ClassId) (z0 : Nat) (L : List Nat) (κ : Nat → Nat) (g : Nat → Nat → Value) (sz : Nat) (p0 q0 u0 K0 A0 : Nat) (p1 q1 u1 K1 A1 : Nat) (hK0 : zAK K0 A0) (hk0 : κ p0 = K0) (hq0 : κ q0 = A0) (hN0 : zN0 g p0 q0 u0) (hK1 : zAK K1 A1) (hk1 : κ p1 = K1) (hq1 : κ q1 = A1) (hN1 : zN0 g p1 q1 u1) : Met l yX0_isLess wsX0_isLess ({ frames := 2, cells := 0, slots := 0, locals := 43 }) (zPc D tc z0 ([.ref p0, .ref p1] : List Value) [] (L, κ, g) sz) (vp_Si (fun r : Int32 => (r = 1 ∧ zV g q0 < zV g q1) ∨ (r = 0 ∧ zV g q1 ≤ zV g q0))) 0 0 (fun _ => False) := by
  refine Met.ofW (cc := cX0_isLess) (maxL := 3) (ret := (some .boolean)) (by decide) rfl ?_
  intro p e9 s m args below meth c s₁ B hml hv
  obtain ⟨rfl, rfl, hK, hE, hI⟩ := hv.opn
  have hx := B.exec
  have hb := B.bytes
  have hr := B.returns
  have hts := atoms_spec (ws := wsX0_isLess) B.pre
  have hown : s.vm.findClass RX0 = some m.cls := findClass_of_methodNamed B.named
  have hlocks := B.notSynchronized
  have hM : zM p s m c cX0_isLess _ wsX0_isLess RX0 D tc := ⟨hx, hb, hts, hown, hK⟩
  have hinX0 : ∀ w ∈ wsX00, w ∈ wsX0_isLess := by decide +kernel
  have hl := lv_entry ([.ref p0, .ref p1] : List Value) (n := 3) (Nat.le_of_ble_eq_true rfl)
  rw [lg_entry_eq]
  generalize (lg_sl ([.ref p0, .ref p1] : List Value) ++ List.replicate (3 - (lg_sl ([.ref p0, .ref p1] : List Value)).length) Slot.unset).toArray = ls at hl ⊢
  have hl : lv_has ls 3 [(0, .ref p0), (1, .ref p1)] := hl
  have hpq : p0 ≠ q0 := hK0.ne hk0 hq0
  have hu16 := hN0.le
  have hu17 := hN1.le
  have hp1q : p1 ≠ q0 := hK1.ne2 hK0 hk1 hq0
  refine lv_aload_n hx hb dX0_isLess_0 rfl (lv_at hl 0 rfl) ?_
  refine lv_aload_n hx hb dX0_isLess_1 rfl (lv_at hl 1 rfl) ?_
  refine vp_callSi (W.runV (As := [.ref p1]) (rest := []) ⟨hx, hb, hml, hown, hts⟩ (a_X0_reach l _ _ _ _ _ _ _ p0 q0 u0 K0 A0 p1 q1 u1 K1 A1 hK0 hk0 hq0 hN0 hK1 hk1 hq1 hN1) (cwV 1 hts gX0_isLess_X0_reach rfl rfl rfl (by decide +kernel) ⟨Nat.le_of_ble_eq_true rfl, Nat.le_of_ble_eq_true rfl⟩) (z_preV hK hE hI [] rfl rfl (z_recv hK hI hk0 hK0.1 rfl)) rfl rfl hl.1 rfl (lv_room (Nat.le_of_ble_eq_true rfl)) dX0_isLess_2 ⟨Nat.le_of_ble_eq_true rfl, Nat.le_of_ble_eq_true rfl⟩) (fun v9 hw => ?_)
  obtain rfl := hw
  generalize hM9 : max u0 u1 = M
  have hM0 : u0 ≤ M := by omega
  have hM1 : u1 ≤ M := by omega
  have hM2 : M ≤ 16 := by omega
  refine lv_iconst (v := 1) hx hb dX0_isLess_5 (by decide) ?_
  refine lv_isub hx hb dX0_isLess_6 ?_
  refine lv_istore_n (lv' := [(2, .int (nI M - 1)), (0, .ref p0), (1, .ref p1)]) hx hb dX0_isLess_7 rfl hl (by decide) rfl (fun ls hl => ?_)
  have hL : ∀ (n : Nat) (i : Nat) (hn : i < n) (hi : i ≤ M) (hz : ∀ j, i ≤ j → j < M → dg g q0 j = dg g q1 j) (ls : Array Slot) (hl : lv_has ls 3 [(2, .int (nI i - 1)), (0, .ref p0), (1, .ref p1)]), W p l e9 (headSpec wsX0_isLess ({ frames := 2, cells := 0, slots := 0, locals := 43 })).room s m ([.ref p0, .ref p1] : List Value).toArray below meth c s.heap [] 0 0 (MQ below (vp_Si (fun r : Int32 => (r = 1 ∧ zV g q0 < zV g q1) ∨ (r = 0 ∧ zV g q1 ≤ zV g q0))) ([.ref p0, .ref p1] : List Value).toArray s 0 0 (fun _ => False)) (F0 m 8 ls []) := by
    intro n
    induction n with
    | zero => intro i hn; exact absurd hn (Nat.not_lt_zero _)
    | succ n ih =>
      intro i hn hi hz ls hl
      have hz2 : ∀ j, i ≤ j → j < 16 → dg g q0 j = dg g q1 j := fun j h1 h2 => by
        by_cases h3 : j < M
        · exact hz j h1 h3
        · rw [hN0.hi j (by omega) h2, hN1.hi j (by omega) h2]
      refine lv_iload_n hx hb dX0_isLess_8 rfl (lv_at hl 0 rfl) ?_
      rcases i with _ | k
      · refine lv_if_lt (tgt := 56) hx hb dX0_isLess_9 (by decide) (fun _ => ?_) (fun c9 => absurd (by decide) c9)
        refine lv_iconst (v := 0) hx hb dX0_isLess_56 (by decide) ?_
        exact W.zret (v := 0) hx hb hr (by decide) (fun t ht hW => ⟨_, rfl, Or.inr ⟨rfl, Int.le_of_eq (vS_congr (fun j hj => (hz2 j (Nat.zero_le j) hj).symm))⟩, ht⟩) (fun q h => by cases h) dX0_isLess_57
      · rw [nI_pred] at hl ⊢
        refine lv_if_lt (tgt := 56) hx hb dX0_isLess_9 (by decide) (fun c9 => absurd c9 (nI_pos (by omega))) (fun _ => ?_)
        refine lv_aload_n hx hb dX0_isLess_12 rfl (lv_at hl 1 rfl) ?_
        refine z_get (k := K0) (j := 0) hM hI hk0 hK0.1 rfl hinX0 rfl (by decide) (by decide +kernel) (fun _ h9 => h9) dX0_isLess_13 (fun v9 hv9 => ?_)
        obtain ⟨hg9, r9, rfl, -⟩ := hv9
        obtain rfl : q0 = r9 := Value.ref.inj ((hN0.r).symm.trans hg9.symm)
        clear hg9
        refine lv_iload_n hx hb dX0_isLess_16 rfl (lv_at hl 0 rfl) ?_
        refine z_lald hM hI hq0 hK0.2.1 hK0.2.2 (vp_in_nI (by omega) (by omega)) dX0_isLess_17 (fun x hvx => ?_)
        obtain ⟨hvx, -⟩ := hvx
        rw [nI_clamp (by omega)] at hvx
        refine lv_aload_n hx hb dX0_isLess_18 rfl (lv_at hl 2 rfl) ?_
        refine z_get (k := K1) (j := 0) hM hI hk1 hK1.1 rfl hinX0 rfl (by decide) (by decide +kernel) (fun _ h9 => h9) dX0_isLess_19 (fun v9 hv9 => ?_)
        obtain ⟨hg9, r9, rfl, -⟩ := hv9
        obtain rfl : q1 = r9 := Value.ref.inj ((hN1.r).symm.trans hg9.symm)
        clear hg9
        refine lv_iload_n hx hb dX0_isLess_22 rfl (lv_at hl 0 rfl) ?_
        refine z_lald hM hI hq1 hK1.2.1 hK1.2.2 (vp_in_nI (by omega) (by omega)) dX0_isLess_23 (fun y hvy => ?_)
        obtain ⟨hvy, -⟩ := hvy
        rw [nI_clamp (by omega)] at hvy
        refine W.lcmp hx hb dX0_isLess_24 ?_
        have hxd : dg g q0 k = x.toInt := dg_at hvx.symm
        have hyd : dg g q1 k = y.toInt := dg_at hvy.symm
        refine lv_if_eq (tgt := 50) hx hb dX0_isLess_25 (by decide) (fun c1 => ?_) (fun c1 => ?_)
        · have hxy : x = y := (lg_cmp_eq x y).mp c1
          refine lv_iinc (v := (nI k - 1)) (lv' := [(2, .int (nI k - 1)), (0, .ref p0), (1, .ref p1)]) hx hb dX0_isLess_50 hl (k := 0) rfl (z_dec k) (by decide) rfl (fun ls hl => ?_)
          refine lv_goto (tgt := 8) hx hb dX0_isLess_53 (by decide) ?_
          refine ih k (by omega) (by omega) (fun j h1 h2 => ?_) _ (lv_sub hl [0, 1, 2] rfl)
          by_cases h3 : j = k
          · rw [h3, hxd, hyd, hxy]
          · exact hz j (by omega) h2
        · have hne : x.toInt ≠ y.toInt := fun h => c1 ((lg_cmp_eq x y).mpr (Int64.toInt_inj.mp h))
          refine lv_aload_n hx hb dX0_isLess_28 rfl (lv_at hl 1 rfl) ?_
          refine z_get (k := K0) (j := 0) hM hI hk0 hK0.1 rfl hinX0 rfl (by decide) (by decide +kernel) (fun _ h9 => h9) dX0_isLess_29 (fun v9 hv9 => ?_)
          obtain ⟨hg9, r9, rfl, -⟩ := hv9
          obtain rfl : q0 = r9 := Value.ref.inj ((hN0.r).symm.trans hg9.symm)
          clear hg9
          refine lv_iload_n hx hb dX0_isLess_32 rfl (lv_at hl 0 rfl) ?_
          refine z_lald hM hI hq0 hK0.2.1 hK0.2.2 (vp_in_nI (by omega) (by omega)) dX0_isLess_33 (fun x2 hvx2 => ?_)
          obtain ⟨hvx2, -⟩ := hvx2
          rw [nI_clamp (by omega)] at hvx2
          refine lv_aload_n hx hb dX0_isLess_34 rfl (lv_at hl 2 rfl) ?_
          refine z_get (k := K1) (j := 0) hM hI hk1 hK1.1 rfl hinX0 rfl (by decide) (by decide +kernel) (fun _ h9 => h9) dX0_isLess_35 (fun v9 hv9 => ?_)
          obtain ⟨hg9, r9, rfl, -⟩ := hv9
          obtain rfl : q1 = r9 := Value.ref.inj ((hN1.r).symm.trans hg9.symm)
          clear hg9
          refine lv_iload_n hx hb dX0_isLess_38 rfl (lv_at hl 0 rfl) ?_
          refine z_lald hM hI hq1 hK1.2.1 hK1.2.2 (vp_in_nI (by omega) (by omega)) dX0_isLess_39 (fun y2 hvy2 => ?_)
          obtain ⟨hvy2, -⟩ := hvy2
          rw [nI_clamp (by omega)] at hvy2
          refine W.lcmp hx hb dX0_isLess_40 ?_
          obtain rfl : x = x2 := Value.long.inj (hvx.trans hvx2.symm)
          obtain rfl : y = y2 := Value.long.inj (hvy.trans hvy2.symm)
          refine lv_if_ge (tgt := 48) hx hb dX0_isLess_41 (by decide) (fun c2 => ?_) (fun c2 => ?_)
          · have h5 := Int64.le_iff_toInt_le.mp ((lg_cmp_ge x y).mp c2)
            have h6 : zV g q1 < zV g q0 := vS_le_of_top (n := k) (by omega) hN1.bd hN0.bd (fun j h1 h2 => (hz2 j (by omega) h2).symm) (by rw [hxd, hyd]; omega)
            refine lv_iconst (v := 0) hx hb dX0_isLess_48 (by decide) ?_
            exact W.zret (v := 0) hx hb hr (by decide) (fun t ht hW => ⟨_, rfl, Or.inr ⟨rfl, Int.le_of_lt h6⟩, ht⟩) (fun q h => by cases h) dX0_isLess_49
          · have h5 : ¬ y.toInt ≤ x.toInt := fun h => c2 ((lg_cmp_ge x y).mpr (Int64.le_iff_toInt_le.mpr h))
            have h6 : zV g q0 < zV g q1 := vS_le_of_top (n := k) (by omega) hN0.bd hN1.bd (fun j h1 h2 => hz2 j (by omega) h2) (by rw [hxd, hyd]; omega)
            refine lv_iconst (v := 1) hx hb dX0_isLess_44 (by decide) ?_
            refine lv_goto (tgt := 49) hx hb dX0_isLess_45 (by decide) ?_
            exact W.zret (v := 1) hx hb hr (by decide) (fun t ht hW => ⟨_, rfl, Or.inl ⟨rfl, h6⟩, ht⟩) (fun q h => by cases h) dX0_isLess_49
  exact hL (M + 1) M (by omega) (Nat.le_refl M) (fun j h1 h2 => absurd h1 (by omega)) _ (lv_sub hl [0, 1, 2] rfl)

set_option maxHeartbeats 4000000 in
set_option maxRecDepth 100000 in
theorem a_X0_upTo (l : Launch) (D : va_G) (tc : Nat → ClassId) (z0 : Nat) (L : List Nat) (κ : Nat → Nat) (g : Nat → Nat → Value) (sz : Nat) (p0 q0 u0 K0 A0 : Nat) (p1 : Int32) (hK0 : zAK K0 A0) (hk0 : κ p0 = K0) (hq0 : κ q0 = A0) (hN0 : zN g p0 q0 u0) (h1 : 0 ≤ p1.toInt) : Met l yX0_upTo wsX0_upTo ({ frames := 0, cells := 0, slots := 0, locals := 0 }) (zPc D tc z0 ([.ref p0, .int p1] : List Value) [] (L, κ, g) sz) (vp_Si (fun r : Int32 => r.toInt = min (zV g q0) p1.toInt)) 0 0 (fun _ => False) := by
  refine Met.ofW (cc := cX0_upTo) (maxL := 2) (ret := (some .int)) (by decide) rfl ?_
  intro p e9 s m args below meth c s₁ B hml hv
  obtain ⟨rfl, rfl, hK, hE, hI⟩ := hv.opn
  have hx := B.exec
  have hb := B.bytes
  have hr := B.returns
  have hts := atoms_spec (ws := wsX0_upTo) B.pre
  have hown : s.vm.findClass RX0 = some m.cls := findClass_of_methodNamed B.named
  have hlocks := B.notSynchronized
  have hM : zM p s m c cX0_upTo _ wsX0_upTo RX0 D tc := ⟨hx, hb, hts, hown, hK⟩
  have hinX0 : ∀ w ∈ wsX00, w ∈ wsX0_upTo := by decide +kernel
  have hl := lv_entry ([.ref p0, .int p1] : List Value) (n := 2) (Nat.le_of_ble_eq_true rfl)
  rw [lg_entry_eq]
  generalize (lg_sl ([.ref p0, .int p1] : List Value) ++ List.replicate (2 - (lg_sl ([.ref p0, .int p1] : List Value)).length) Slot.unset).toArray = ls at hl ⊢
  have hl : lv_has ls 2 [(0, .ref p0), (1, .int p1)] := hl
  have hu16 := hN0.le
  have hlt := Int32.toInt_lt p1
  refine lv_aload_n hx hb dX0_upTo_0 rfl (lv_at hl 0 rfl) ?_
  refine z_get (k := K0) (j := 1) hM hI hk0 hK0.1 rfl hinX0 rfl (by decide) (by decide +kernel) (fun _ h9 => h9) dX0_upTo_1 (fun v9 hv9 => ?_)
  obtain ⟨hg9, i9, rfl⟩ := hv9
  obtain rfl : nI u0 = i9 := Value.int.inj ((hN0.us).symm.trans hg9.symm)
  clear hg9
  refine lv_iconst (v := 1) hx hb dX0_upTo_4 (by decide) ?_
  refine lv_icmp_gt (tgt := 20) hx hb dX0_upTo_5 (by decide) (fun c1 => ?_) (fun c1 => ?_)
  · have hu2 : 1 < u0 := (nI_ltI (a := 1) (b := u0) (by omega) (by omega)).mp c1
    have hbig := hN0.big hu2
    refine lv_iload_n hx hb dX0_upTo_20 rfl (lv_at hl 1 rfl) ?_
    refine lv_goto (tgt := 31) hx hb dX0_upTo_21 (by decide) ?_
    exact W.iret (v := p1) hx hb hr (fun t ht hW => ⟨_, rfl, by omega, ht⟩) (fun q h => by cases h) dX0_upTo_31
  · have hu2 : u0 ≤ 1 := by
      rcases Nat.lt_or_ge 1 u0 with h | h
      · exact absurd (nI_lt (a := 1) h (by omega)) c1
      · exact h
    have hone := hN0.toZN0.one hu2
    refine lv_aload_n hx hb dX0_upTo_8 rfl (lv_at hl 0 rfl) ?_
    refine z_get (k := K0) (j := 0) hM hI hk0 hK0.1 rfl hinX0 rfl (by decide) (by decide +kernel) (fun _ h9 => h9) dX0_upTo_9 (fun v9 hv9 => ?_)
    obtain ⟨hg9, r9, rfl, -⟩ := hv9
    obtain rfl : q0 = r9 := Value.ref.inj ((hN0.r).symm.trans hg9.symm)
    clear hg9
    refine lv_iconst (v := 0) hx hb dX0_upTo_12 (by decide) ?_
    refine z_lald hM hI hq0 hK0.2.1 hK0.2.2 (vp_in_c 0 16 (by decide)) dX0_upTo_13 (fun x hvx => ?_)
    obtain ⟨hvx, -⟩ := hvx
    rw [show ((0 : Int32)).toNatClampNeg = 0 from by decide] at hvx
    have hxd : dg g q0 0 = x.toInt := dg_at hvx.symm
    have hxb := hN0.bd 0 (by omega)
    rw [hxd] at hxb hone
    refine lv_iload_n hx hb dX0_upTo_14 rfl (lv_at hl 1 rfl) ?_
    refine lv_i2l hx hb dX0_upTo_15 rfl ?_
    refine lv_topl (fun y ey => ?_)
    have hy1 : y.toInt = p1.toInt := by rw [ey]; exact Jvm.Kit.i64_of_i32 p1
    refine W.lcmp hx hb dX0_upTo_16 ?_
    refine lv_if_le (tgt := 24) hx hb dX0_upTo_17 (by decide) (fun c2 => ?_) (fun c2 => ?_)
    · have h5 := Int64.le_iff_toInt_le.mp ((lg_cmp_le x y).mp c2)
      refine lv_aload_n hx hb dX0_upTo_24 rfl (lv_at hl 0 rfl) ?_
      refine z_get (k := K0) (j := 0) hM hI hk0 hK0.1 rfl hinX0 rfl (by decide) (by decide +kernel) (fun _ h9 => h9) dX0_upTo_25 (fun v9 hv9 => ?_)
      obtain ⟨hg9, r9, rfl, -⟩ := hv9
      obtain rfl : q0 = r9 := Value.ref.inj ((hN0.r).symm.trans hg9.symm)
      clear hg9
      refine lv_iconst (v := 0) hx hb dX0_upTo_28 (by decide) ?_
      refine z_lald hM hI hq0 hK0.2.1 hK0.2.2 (vp_in_c 0 16 (by decide)) dX0_upTo_29 (fun x2 hvx2 => ?_)
      obtain ⟨hvx2, -⟩ := hvx2
      rw [show ((0 : Int32)).toNatClampNeg = 0 from by decide] at hvx2
      obtain rfl : x = x2 := Value.long.inj (hvx.trans hvx2.symm)
      refine lv_l2i hx hb dX0_upTo_30 rfl ?_
      refine lv_topi (fun r er => ?_)
      have hr1 : r.toInt = x.toInt := by rw [er]; exact Jvm.Kit.i32_of_i64 (by omega) (by omega)
      exact W.iret (v := r) hx hb hr (fun t ht hW => ⟨_, rfl, by omega, ht⟩) (fun q h => by cases h) dX0_upTo_31
    · have h5 : ¬ x.toInt ≤ y.toInt := fun h => c2 ((lg_cmp_le x y).mpr (Int64.le_iff_toInt_le.mpr h))
      refine lv_iload_n hx hb dX0_upTo_20 rfl (lv_at hl 1 rfl) ?_
      refine lv_goto (tgt := 31) hx hb dX0_upTo_21 (by decide) ?_
      exact W.iret (v := p1) hx hb hr (fun t ht hW => ⟨_, rfl, by omega, ht⟩) (fun q h => by cases h) dX0_upTo_31

set_option maxHeartbeats 4000000 in
set_option maxRecDepth 100000 in
theorem a_X0_lowBits (l : Launch) (D : va_G) (tc : Nat → ClassId) (z0 : Nat) (L : List Nat) (κ : Nat → Nat) (g : Nat → Nat → Value) (sz : Nat) (p0 q0 u0 K0 A0 : Nat) (hK0 : zAK K0 A0) (hk0 : κ p0 = K0) (hq0 : κ q0 = A0) (hN0 : zN0 g p0 q0 u0) : Met l yX0_lowBits wsX0_lowBits ({ frames := 0, cells := 0, slots := 0, locals := 0 }) (zPc D tc z0 ([.ref p0] : List Value) [] (L, κ, g) sz) (vp_Sl (fun r : Int64 => r = Int64.ofInt (zV g q0))) 0 0 (fun _ => False) := by
  refine Met.ofW (cc := cX0_lowBits) (maxL := 1) (ret := (some .long)) (by decide) rfl ?_
  intro p e9 s m args below meth c s₁ B hml hv
  obtain ⟨rfl, rfl, hK, hE, hI⟩ := hv.opn
  have hx := B.exec
  have hb := B.bytes
  have hr := B.returns
  have hts := atoms_spec (ws := wsX0_lowBits) B.pre
  have hown : s.vm.findClass RX0 = some m.cls := findClass_of_methodNamed B.named
  have hlocks := B.notSynchronized
  have hM : zM p s m c cX0_lowBits _ wsX0_lowBits RX0 D tc := ⟨hx, hb, hts, hown, hK⟩
  have hinX0 : ∀ w ∈ wsX00, w ∈ wsX0_lowBits := by decide +kernel
  have hl := lv_entry ([.ref p0] : List Value) (n := 1) (Nat.le_of_ble_eq_true rfl)
  rw [lg_entry_eq]
  generalize (lg_sl ([.ref p0] : List Value) ++ List.replicate (1 - (lg_sl ([.ref p0] : List Value)).length) Slot.unset).toArray = ls at hl ⊢
  have hl : lv_has ls 1 [(0, .ref p0)] := hl
  refine lv_aload_n hx hb dX0_lowBits_0 rfl (lv_at hl 0 rfl) ?_
  refine z_get (k := K0) (j := 0) hM hI hk0 hK0.1 rfl hinX0 rfl (by decide) (by decide +kernel) (fun _ h9 => h9) dX0_lowBits_1 (fun v9 hv9 => ?_)
  obtain ⟨hg9, r9, rfl, -⟩ := hv9
  obtain rfl : q0 = r9 := Value.ref.inj ((hN0.r).symm.trans hg9.symm)
  clear hg9
  refine lv_iconst (v := 0) hx hb dX0_lowBits_4 (by decide) ?_
  refine z_lald hM hI hq0 hK0.2.1 hK0.2.2 (vp_in_c 0 16 (by decide)) dX0_lowBits_5 (fun x hvx => ?_)
  obtain ⟨hvx, -⟩ := hvx
  rw [show ((0 : Int32)).toNatClampNeg = 0 from by decide] at hvx
  refine lv_aload_n hx hb dX0_lowBits_6 rfl (lv_at hl 0 rfl) ?_
  refine z_get (k := K0) (j := 0) hM hI hk0 hK0.1 rfl hinX0 rfl (by decide) (by decide +kernel) (fun _ h9 => h9) dX0_lowBits_7 (fun v9 hv9 => ?_)
  obtain ⟨hg9, r9, rfl, -⟩ := hv9
  obtain rfl : q0 = r9 := Value.ref.inj ((hN0.r).symm.trans hg9.symm)
  clear hg9
  refine lv_iconst (v := 1) hx hb dX0_lowBits_10 (by decide) ?_
  refine z_lald hM hI hq0 hK0.2.1 hK0.2.2 (vp_in_c 1 16 (by decide)) dX0_lowBits_11 (fun y hvy => ?_)
  obtain ⟨hvy, -⟩ := hvy
  rw [show ((1 : Int32)).toNatClampNeg = 1 from by decide] at hvy
  refine lv_bipush (v := 32) hx hb dX0_lowBits_12 (by decide) ?_
  refine lv_lshl hx hb dX0_lowBits_14 rfl ?_
  refine lv_ladd hx hb dX0_lowBits_15 ?_
  obtain ⟨r9, h9⟩ := vS_16 (dg g q0)
  have e9 : x + y <<< ((32 : Int32).toInt64 &&& 63) = Int64.ofInt (zV g q0) := by rw [zV, h9, dg_at hvx.symm, dg_at hvy.symm]; exact w_low
  rw [e9]
  exact W.lret (v := Int64.ofInt (zV g q0)) hx hb hr (fun t ht hW => ⟨_, rfl, rfl, ht⟩) (fun q h => by cases h) dX0_lowBits_16
