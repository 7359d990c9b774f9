theorem z_nnul {g : Nat → Nat → Value} {a i r : Nat} (h : ∀ j : Nat, j < i → g a j ≠ .null) (hi : i < 2 ^ 31) (hx : Value.ref r = g a (nI i).toNatClampNeg) : ∀ j : Nat, j < i + 1 → g a j ≠ .null := by
  intro j hj
  rcases Nat.lt_or_eq_of_le (Nat.le_of_lt_succ hj) with h1 | h1
  · exact h j h1
  · rw [nI_clamp hi] at hx
    rw [h1, ← hx]
    simp
theorem z_nl {g : Nat → Nat → Value} {a i : Nat} (hi : i < 2 ^ 31) (hx : Value.null = g a (nI i).toNatClampNeg) : g a i = .null := by
  rw [nI_clamp hi] at hx
  exact hx.symm
theorem z_made {κ κ2 : Nat → Nat} {g g2 : Nat → Nat → Value} {a i q k1 k2 : Nat} (hi : i < 2 ^ 31) (hx : zExt κ g κ2 g2) (hq : κ2 q = k1) (ha : κ2 a = k2) (hne : k1 ≠ k2) : zExt κ (zup g a i (.ref q)) κ2 (zup g2 a (nI i).toNatClampNeg (.ref q)) ∧ ∀ j, zup g2 a (nI i).toNatClampNeg (.ref q) q j = g2 q j := by
  refine ⟨⟨hx.1, fun b j hb => ?_⟩, fun j => zup_a (fun h => hne ?_)⟩
  · rw [nI_clamp hi]
    unfold zup
    split
    · rfl
    · exact hx.2 b j hb
  · rw [← hq, ← ha, h]
theorem z_isF {a b x r : Int32} (h : r = 0 ↔ ¬ (a ≤ x ∧ x ≤ b)) (hc : ¬ r = 0) : a ≤ x ∧ x ≤ b := Classical.not_not.mp (fun h1 => hc (h.mpr h1))
theorem z_isN {a b x r : Int32} (h : r = 0 ↔ ¬ (a ≤ x ∧ x ≤ b)) (hc : r = 0) : ¬ (a ≤ x ∧ x ≤ b) := h.mp hc
set_option maxHeartbeats 4000000 in
set_option maxRecDepth 100000 in
theorem c_X8_core (l : Launch) (hnt : l.stackTraces = false) (D : va_G) (tc : Nat → ClassId) (z0 : Nat) (L : List Nat) (κ : Nat → Nat) (g : Nat → Nat → Value) (sz : Nat) (p0 : Nat) (hk0 : κ p0 = 10) (p1 : Int32) (p2 : Int32) (aC : Nat) (hC : g p0 1 = .ref aC) : vx_Met l yX8_core wsX8_core ({ frames := 7, cells := 7, slots := 65, locals := 120 }) (zPc D tc z0 [.ref p0, .int p1, .int p2] [] (L, κ, g) sz) (va_Qi (fun (r : Int32) (u : zS) => ∃ i q : Nat, i < 6 ∧ r = nI i ∧ vp_in p1 3 ∧ (p2 = 115 ∨ p2 = 98) ∧ (∀ j : Nat, j < i → g aC j ≠ .null) ∧ g aC i = .null ∧ u.2.1 q = 5 ∧ zExt κ (zup g aC i (.ref q)) u.2.1 u.2.2 ∧ u.2.2 q 3 = .int 108 ∧ u.2.2 q 17 = .int 0 ∧ ∀ b, κ b < 99 → b ≠ q) (fun (u : zS) (t : State) => zB D tc (zA [] L sz) [] u t) (zA [] L sz)) (vx_X (fun u : zS => True) (fun (E : String) (u : zS) (t : State) => (((E = "java/lang/IndexOutOfBoundsException" ∧ ¬ vp_in p1 3) ∨ (E = "java/lang/IllegalArgumentException" ∧ vp_in p1 3 ∧ ¬ p2 = 115 ∧ ¬ p2 = 98) ∨ (E = "java/lang/IllegalStateException" ∧ vp_in p1 3 ∧ (p2 = 115 ∨ p2 = 98) ∧ ∀ j : Nat, j < 6 → g aC j ≠ .null)) ∧ u = (L, κ, g)) ∧ zB D tc (zA [] L sz) [] u t) (zA [] L sz)) 7 65 (zA [] L sz) := by
  refine vx_ofW (cc := cX8_core) (maxL := 5) (ret := (some .int)) (by decide) rfl ?_
  intro p e s m args below meth c s₁ B hml hxt hv
  obtain ⟨rfl, rfl, hK, hE, hI⟩ := hv.opn
  have hx := B.exec
  have hb := B.bytes
  have hr := B.returns
  have hts := atoms_spec (ws := wsX8_core) B.pre
  have hown : s.vm.findClass RX8 = some m.cls := findClass_of_methodNamed B.named
  have hlocks := B.notSynchronized
  have hout : ∀ (i : Nat), ∀ x ∈ c.exceptionTable.toList, covers x i = false := fun i x hx9 => (hxt x hx9).elim
  have hM : zM p s m c cX8_core _ wsX8_core RX8 D tc := ⟨hx, hb, hts, hown, hK⟩
  have hinX8 : ∀ w ∈ wsX80, w ∈ wsX8_core := by decide +kernel
  have hinX3 : ∀ w ∈ wsX30, w ∈ wsX8_core := by decide +kernel
  have hl := lv_entry ([.ref p0, .int p1, .int p2]) (n := 5) (Nat.le_of_ble_eq_true rfl)
  rw [lg_entry_eq]
  generalize (lg_sl ([.ref p0, .int p1, .int p2]) ++ List.replicate (5 - (lg_sl ([.ref p0, .int p1, .int p2])).length) Slot.unset).toArray = ls at hl ⊢
  have hl : lv_has ls 5 [(0, .ref p0), (1, .int p1), (2, .int p2)] := hl
  refine lv_aload_n hx hb dX8_core_0 rfl (lv_at hl 0 rfl) ?_
  refine lv_iload_n hx hb dX8_core_1 rfl (lv_at hl 1 rfl) ?_
  refine z_xq hI (vx_runV (As := [.int p1]) (rest := []) ⟨hx, hb, hml, hown, hts⟩ (c_X8_railAt l hnt _ _ _ _ _ _ _ p0 hk0 p1) (cwV 1 hts gX8_core_X8_railAt rfl rfl rfl (by decide +kernel) ⟨Nat.le_of_ble_eq_true rfl, Nat.le_of_ble_eq_true rfl⟩) (z_preV hK hE hI [] rfl rfl (z_recv hK hI hk0 rfl rfl)) rfl rfl hl.1 rfl (lv_room (Nat.le_of_ble_eq_true rfl)) dX8_core_2 ⟨Nat.le_of_ble_eq_true rfl, Nat.le_of_ble_eq_true rfl⟩) (fun E ce q9 u H locs hw hI he1 he2 he3 => ?_) (fun v1 u H locs hw2 hI => ?_)
  · obtain ⟨hxp, rfl⟩ := hw
    exact z_pass hK hI hout hlocks he1 he2 he3 ⟨Or.inl hxp, rfl⟩ (Nat.le_of_ble_eq_true rfl) (Nat.le_of_ble_eq_true rfl)
  obtain ⟨r3, rfl, hr4, hq5, rfl⟩ := hw2
  show W p l e (headSpec wsX8_core ({ frames := 7, cells := 7, slots := 65, locals := 120 })).room s m ([.ref p0, .int p1, .int p2] : List Value).toArray below meth c _ _ 1 6 (vx_MQ below (va_Qi (fun (r : Int32) (u : zS) => ∃ i q : Nat, i < 6 ∧ r = nI i ∧ vp_in p1 3 ∧ (p2 = 115 ∨ p2 = 98) ∧ (∀ j : Nat, j < i → g aC j ≠ .null) ∧ g aC i = .null ∧ u.2.1 q = 5 ∧ zExt κ (zup g aC i (.ref q)) u.2.1 u.2.2 ∧ u.2.2 q 3 = .int 108 ∧ u.2.2 q 17 = .int 0 ∧ ∀ b, κ b < 99 → b ≠ q) (fun (u : zS) (t : State) => zB D tc (zA [] L s.heap.size) [] u t) (zA [] L s.heap.size)) (vx_X (fun u : zS => True) (fun (E : String) (u : zS) (t : State) => (((E = "java/lang/IndexOutOfBoundsException" ∧ ¬ vp_in p1 3) ∨ (E = "java/lang/IllegalArgumentException" ∧ vp_in p1 3 ∧ ¬ p2 = 115 ∧ ¬ p2 = 98) ∨ (E = "java/lang/IllegalStateException" ∧ vp_in p1 3 ∧ (p2 = 115 ∨ p2 = 98) ∧ ∀ j : Nat, j < 6 → g aC j ≠ .null)) ∧ u = (L, κ, g)) ∧ zB D tc (zA [] L s.heap.size) [] u t) (zA [] L s.heap.size)) ([.ref p0, .int p1, .int p2] : List Value).toArray s 7 65 (zA [] L s.heap.size)) (F0 m 5 ls (.ref r3 :: []))
  have hin3 : vp_in p1 3 := hq5
  refine lv_astore_n (lv' := [(3, .ref r3), (0, .ref p0), (1, .int p1), (2, .int p2)]) hx hb dX8_core_5 rfl hl (by decide) rfl (fun ls hl => ?_)
  refine lv_iload_n hx hb dX8_core_6 rfl (lv_at hl 3 rfl) ?_
  refine lv_bipush (v := 115) hx hb dX8_core_7 (by decide) ?_
  have hL28 : ∀ (H : Heap) (locs : List Loc)    (hkd : p2 = 115 ∨ p2 = 98) (hI : zI D tc (zA [] L s.heap.size) s.heap [] L κ g H locs) (ls : Array Slot) (hl : lv_has ls 5 [(3, .ref r3), (0, .ref p0), (1, .int p1), (2, .int p2)]), W p l e (headSpec wsX8_core ({ frames := 7, cells := 7, slots := 65, locals := 120 })).room s m ([.ref p0, .int p1, .int p2] : List Value).toArray below meth c H locs 1 6 (vx_MQ below (va_Qi (fun (r : Int32) (u : zS) => ∃ i q : Nat, i < 6 ∧ r = nI i ∧ vp_in p1 3 ∧ (p2 = 115 ∨ p2 = 98) ∧ (∀ j : Nat, j < i → g aC j ≠ .null) ∧ g aC i = .null ∧ u.2.1 q = 5 ∧ zExt κ (zup g aC i (.ref q)) u.2.1 u.2.2 ∧ u.2.2 q 3 = .int 108 ∧ u.2.2 q 17 = .int 0 ∧ ∀ b, κ b < 99 → b ≠ q) (fun (u : zS) (t : State) => zB D tc (zA [] L s.heap.size) [] u t) (zA [] L s.heap.size)) (vx_X (fun u : zS => True) (fun (E : String) (u : zS) (t : State) => (((E = "java/lang/IndexOutOfBoundsException" ∧ ¬ vp_in p1 3) ∨ (E = "java/lang/IllegalArgumentException" ∧ vp_in p1 3 ∧ ¬ p2 = 115 ∧ ¬ p2 = 98) ∨ (E = "java/lang/IllegalStateException" ∧ vp_in p1 3 ∧ (p2 = 115 ∨ p2 = 98) ∧ ∀ j : Nat, j < 6 → g aC j ≠ .null)) ∧ u = (L, κ, g)) ∧ zB D tc (zA [] L s.heap.size) [] u t) (zA [] L s.heap.size)) ([.ref p0, .int p1, .int p2] : List Value).toArray s 7 65 (zA [] L s.heap.size)) (F0 m 28 ls []) := by
    intro H locs hkd hI ls hl
    refine lv_iconst (v := 0) hx hb dX8_core_28 (by decide) ?_
    refine lv_istore (lv' := [(4, .int 0), (3, .ref r3), (0, .ref p0), (1, .int p1), (2, .int p2)]) hx hb dX8_core_29 hl (by decide) rfl (fun ls hl => ?_)
    have hL31 : ∀ (n : Nat) (H : Heap) (locs : List Loc)   (i6 : Nat) (hi : i6 ≤ 6) (hn : 6 - i6 < n)  (hno : ∀ j : Nat, j < i6 → g aC j ≠ .null) (hI : zI D tc (zA [] L s.heap.size) s.heap [] L κ g H locs) (ls : Array Slot) (hl : lv_has ls 5 [(3, .ref r3), (0, .ref p0), (1, .int p1), (2, .int p2), (4, .int ((nI i6)))]), W p l e (headSpec wsX8_core ({ frames := 7, cells := 7, slots := 65, locals := 120 })).room s m ([.ref p0, .int p1, .int p2] : List Value).toArray below meth c H locs 1 6 (vx_MQ below (va_Qi (fun (r : Int32) (u : zS) => ∃ i q : Nat, i < 6 ∧ r = nI i ∧ vp_in p1 3 ∧ (p2 = 115 ∨ p2 = 98) ∧ (∀ j : Nat, j < i → g aC j ≠ .null) ∧ g aC i = .null ∧ u.2.1 q = 5 ∧ zExt κ (zup g aC i (.ref q)) u.2.1 u.2.2 ∧ u.2.2 q 3 = .int 108 ∧ u.2.2 q 17 = .int 0 ∧ ∀ b, κ b < 99 → b ≠ q) (fun (u : zS) (t : State) => zB D tc (zA [] L s.heap.size) [] u t) (zA [] L s.heap.size)) (vx_X (fun u : zS => True) (fun (E : String) (u : zS) (t : State) => (((E = "java/lang/IndexOutOfBoundsException" ∧ ¬ vp_in p1 3) ∨ (E = "java/lang/IllegalArgumentException" ∧ vp_in p1 3 ∧ ¬ p2 = 115 ∧ ¬ p2 = 98) ∨ (E = "java/lang/IllegalStateException" ∧ vp_in p1 3 ∧ (p2 = 115 ∨ p2 = 98) ∧ ∀ j : Nat, j < 6 → g aC j ≠ .null)) ∧ u = (L, κ, g)) ∧ zB D tc (zA [] L s.heap.size) [] u t) (zA [] L s.heap.size)) ([.ref p0, .int p1, .int p2] : List Value).toArray s 7 65 (zA [] L s.heap.size)) (F0 m 31 ls []) := by
      intro n
      induction n with
      | zero => intro H locs i6 hi hn hno hI ls hl; exact absurd hn (Nat.not_lt_zero _)
      | succ n ih =>
        intro H locs i6 hi hn hno hI ls hl
        refine lv_iload hx hb dX8_core_31 (lv_at hl 4 rfl) ?_
        refine lv_aload_n hx hb dX8_core_33 rfl (lv_at hl 1 rfl) ?_
        refine z_get (k := 10) (j := 1) hM hI hk0 rfl rfl hinX8 rfl (by decide) (by decide +kernel) (fun _ h9 => h9) dX8_core_34 (fun v7 hv8 => ?_)
        obtain ⟨hg10, i9, rfl, hr11⟩ := hv8
        obtain rfl : aC = i9 := Value.ref.inj ((hC).symm.trans hg10.symm)
        refine z_alen (v := 6) hM hI hr11 rfl rfl rfl (by decide) dX8_core_37 ?_
        refine lv_icmp_ge (tgt := 88) hx hb dX8_core_38 (by decide) (fun c12 => ?_) (fun c12 => ?_)
        · skip
          have hgec12 : 6 ≤ i6 := z_ge (by omega) (by omega) c12
          refine z_throw (ik := 81) (is := 83) (ic := 85) (cls := "java/lang/IllegalStateException") (text := "no room for a core") (L0 := L) ["java/lang/RuntimeException", "java/lang/Exception"] (by decide) hM hE hI hnt (by decide) (by decide +kernel) (by decide +kernel) (by decide +kernel) (by decide +kernel) (by decide +kernel) (by decide +kernel) (hl.1.trans hml.symm) dX8_core_88 dX8_core_91 dX8_core_92 dX8_core_94 dX8_core_97 hout (Nat.le_of_ble_eq_true rfl) (Nat.le_of_ble_eq_true rfl) (Nat.le_of_ble_eq_true rfl) (Nat.le_of_ble_eq_true rfl) hlocks ⟨Or.inr (Or.inr ⟨rfl, hin3, hkd, fun j hj => hno j (by omega)⟩), rfl⟩ (Nat.le_of_ble_eq_true rfl) (Nat.le_of_ble_eq_true rfl)
        · skip
          have hltc12 : i6 < 6 := z_lt (by omega) c12
          refine lv_aload_n hx hb dX8_core_41 rfl (lv_at hl 1 rfl) ?_
          refine z_get (k := 10) (j := 1) hM hI hk0 rfl rfl hinX8 rfl (by decide) (by decide +kernel) (fun _ h9 => h9) dX8_core_42 (fun v13 hv14 => ?_)
          obtain ⟨hg16, i15, rfl, hr17⟩ := hv14
          obtain rfl : aC = i15 := Value.ref.inj ((hC).symm.trans hg16.symm)
          refine lv_iload hx hb dX8_core_45 (lv_at hl 4 rfl) ?_
          refine z_aald hM hI hr17 rfl rfl rfl (vp_in_nI (by omega) (by omega)) dX8_core_47 (fun x18 hv19 => ?_)
          obtain ⟨hghv19, hn22 | ⟨r20, hn22, hr21⟩⟩ := hv19
          · rw [hn22]
            rw [hn22] at hghv19
            refine lv_ifnonnullN hx hb dX8_core_48 ?_
            refine lv_aload_n hx hb dX8_core_51 rfl (lv_at hl 1 rfl) ?_
            refine z_get (k := 10) (j := 1) hM hI hk0 rfl rfl hinX8 rfl (by decide) (by decide +kernel) (fun _ h9 => h9) dX8_core_52 (fun v23 hv24 => ?_)
            obtain ⟨hg26, i25, rfl, hr27⟩ := hv24
            obtain rfl : aC = i25 := Value.ref.inj ((hC).symm.trans hg26.symm)
            refine lv_iload hx hb dX8_core_55 (lv_at hl 4 rfl) ?_
            refine z_new (ci := 5) (fs := [.int 0, .null, .int 0, .int 0, .int 0, .int 0, .int 0, .int 0, .int 0, .int 0, .int 0, .int 0, .int 0, .int 0, .int 0, .null, .int 0, .int 0, .int 0, .int 0]) (C := RX3) (T := TX3) (N := 20) hM hI hinX3 tyX3 tyX3_ok (by decide +kernel) (by decide +kernel) (by decide +kernel) rfl (by decide +kernel) (Nat.le_of_ble_eq_true rfl) (Nat.le_of_ble_eq_true rfl) dX8_core_57 (fun q28 H hI => ?_)
            have hI : zI D tc _ s.heap [(q28, .inr (5, [.int 0, .null, .int 0, .int 0, .int 0, .int 0, .int 0, .int 0, .int 0, .int 0, .int 0, .int 0, .int 0, .int 0, .int 0, .null, .int 0, .int 0, .int 0, .int 0]))] L κ g _ _ := hI
            have hfr9 : ∀ b9 : Nat, κ b9 < 99 → b9 ≠ q28 := z_fresh hI
            refine lv_dup hx hb dX8_core_60 rfl ?_
            refine lv_iload hx hb dX8_core_61 (lv_at hl 4 rfl) ?_
            refine lv_aload_n hx hb dX8_core_63 rfl (lv_at hl 0 rfl) ?_
            refine lv_iload_n hx hb dX8_core_64 rfl (lv_at hl 3 rfl) ?_
            refine lv_bipush (v := 98) hx hb dX8_core_65 (by decide) ?_
            refine lv_icmp_ne (tgt := 74) hx hb dX8_core_67 (by decide) (fun c29 => ?_) (fun c29 => ?_)
            · skip
              refine lv_iconst (v := 0) hx hb dX8_core_74 (by decide) ?_
              refine z_cvX (Xc := [(q28, .inr (5, [.int 0, .null, .int 0, .int 0, .int 0, .int 0, .int 0, .int 0, .int 0, .int 0, .int 0, .int 0, .int 0, .int 0, .int 0, .null, .int 0, .int 0, .int 0, .int 0]))]) (wr := []) (rx := []) [0] [] rfl rfl rfl rfl (by decide) hI (va_runI (As := [.int ((nI i6)), .ref r3, .int 0]) (rest := [.ref q28, .int ((nI i6)), .ref aC]) ⟨hx, hb, hml, hown, hts⟩ (c_X3_init l _ _ _ _ _ _ _ q28 ((nI i6)) r3 hr4 0 (by first | assumption | exact Or.inl rfl | exact Or.inr rfl)) (cwI 3 hts gX8_core_X3_init rfl rfl rfl (hts (.initialized RX3) (by decide +kernel)) (hts (.methodLink RX8 78 yX3_init) (by decide +kernel)) (hts (.instanceMethod yX3_init) (by decide +kernel)) rfl (by decide +kernel) ⟨Nat.le_of_ble_eq_true rfl, Nat.le_of_ble_eq_true rfl⟩) (z_pre (Xc := [(q28, .inr (5, [.int 0, .null, .int 0, .int 0, .int 0, .int 0, .int 0, .int 0, .int 0, .int 0, .int 0, .int 0, .int 0, .int 0, .int 0, .null, .int 0, .int 0, .int 0, .int 0]))]) hK hE hI [0] rfl rfl) rfl rfl hl.1 rfl (lv_room (Nat.le_of_ble_eq_true rfl)) dX8_core_75 ⟨Nat.le_of_ble_eq_true rfl, Nat.le_of_ble_eq_true rfl⟩) (fun u H locs hw hI => ?_)
              obtain ⟨L2, κ2, g2⟩ := u
              obtain ⟨hx2, hk30, hf31, hf32⟩ := hw
              dsimp only at hx2 hk30 hf31 hf32
              have hI : zI D tc _ s.heap [] L2 κ2 g2 _ _ := hI
              have ha33 := hx2.k hr27 (by decide)
              refine z_aast (g' := zup g2 aC ((nI i6)).toNatClampNeg (.ref q28)) hM hI ha33 rfl rfl rfl hk30 rfl rfl (vp_in_nI (by omega) (by omega)) ⟨(zup_self _ _ _ _).symm, Or.inr ⟨_, rfl, hk30⟩⟩ (fun b i h => zup_ne h) dX8_core_78 (fun H locs hI => ?_)
              have hmd := z_made (i := i6) (by omega) hx2 hk30 ha33 (by decide)
              refine lv_iload hx hb dX8_core_79 (lv_at hl 4 rfl) ?_
              refine vx_ret ?_
              exact W.iret (v := (nI i6)) hx hb hr (fun t ht hW => ⟨⟨_, (L2, κ2, zup g2 aC ((nI i6)).toNatClampNeg (.ref q28)), rfl, ⟨i6, q28, by omega, rfl, hin3, hkd, hno, z_nl (by omega) (by assumption), hk30, hmd.1, (hmd.2 _).trans hf31, (hmd.2 _).trans hf32, hfr9⟩, z_endG hK hI ht hW⟩, z_F hI ht⟩) (z_locs hI) dX8_core_81
            · skip
              refine lv_iconst (v := 1) hx hb dX8_core_70 (by decide) ?_
              refine lv_goto (tgt := 75) hx hb dX8_core_71 (by decide) ?_
              refine z_cvX (Xc := [(q28, .inr (5, [.int 0, .null, .int 0, .int 0, .int 0, .int 0, .int 0, .int 0, .int 0, .int 0, .int 0, .int 0, .int 0, .int 0, .int 0, .null, .int 0, .int 0, .int 0, .int 0]))]) (wr := []) (rx := []) [0] [] rfl rfl rfl rfl (by decide) hI (va_runI (As := [.int ((nI i6)), .ref r3, .int 1]) (rest := [.ref q28, .int ((nI i6)), .ref aC]) ⟨hx, hb, hml, hown, hts⟩ (c_X3_init l _ _ _ _ _ _ _ q28 ((nI i6)) r3 hr4 1 (by first | assumption | exact Or.inl rfl | exact Or.inr rfl)) (cwI 3 hts gX8_core_X3_init rfl rfl rfl (hts (.initialized RX3) (by decide +kernel)) (hts (.methodLink RX8 78 yX3_init) (by decide +kernel)) (hts (.instanceMethod yX3_init) (by decide +kernel)) rfl (by decide +kernel) ⟨Nat.le_of_ble_eq_true rfl, Nat.le_of_ble_eq_true rfl⟩) (z_pre (Xc := [(q28, .inr (5, [.int 0, .null, .int 0, .int 0, .int 0, .int 0, .int 0, .int 0, .int 0, .int 0, .int 0, .int 0, .int 0, .int 0, .int 0, .null, .int 0, .int 0, .int 0, .int 0]))]) hK hE hI [0] rfl rfl) rfl rfl hl.1 rfl (lv_room (Nat.le_of_ble_eq_true rfl)) dX8_core_75 ⟨Nat.le_of_ble_eq_true rfl, Nat.le_of_ble_eq_true rfl⟩) (fun u H locs hw hI => ?_)
              obtain ⟨L2, κ2, g2⟩ := u
              obtain ⟨hx2, hk34, hf35, hf36⟩ := hw
              dsimp only at hx2 hk34 hf35 hf36
              have hI : zI D tc _ s.heap [] L2 κ2 g2 _ _ := hI
              have ha37 := hx2.k hr27 (by decide)
              refine z_aast (g' := zup g2 aC ((nI i6)).toNatClampNeg (.ref q28)) hM hI ha37 rfl rfl rfl hk34 rfl rfl (vp_in_nI (by omega) (by omega)) ⟨(zup_self _ _ _ _).symm, Or.inr ⟨_, rfl, hk34⟩⟩ (fun b i h => zup_ne h) dX8_core_78 (fun H locs hI => ?_)
              have hmd := z_made (i := i6) (by omega) hx2 hk34 ha37 (by decide)
              refine lv_iload hx hb dX8_core_79 (lv_at hl 4 rfl) ?_
              refine vx_ret ?_
              exact W.iret (v := (nI i6)) hx hb hr (fun t ht hW => ⟨⟨_, (L2, κ2, zup g2 aC ((nI i6)).toNatClampNeg (.ref q28)), rfl, ⟨i6, q28, by omega, rfl, hin3, hkd, hno, z_nl (by omega) (by assumption), hk34, hmd.1, (hmd.2 _).trans hf35, (hmd.2 _).trans hf36, hfr9⟩, z_endG hK hI ht hW⟩, z_F hI ht⟩) (z_locs hI) dX8_core_81
          · rw [hn22]
            rw [hn22] at hghv19
            refine lv_ifnonnull (tgt := 82) hx hb dX8_core_48 (by decide) ?_
            refine lv_iinc (v := nI (i6 + 1)) (lv' := [(4, .int ((nI (i6 + 1)))), (3, .ref r3), (0, .ref p0), (1, .int p1), (2, .int p2)]) hx hb dX8_core_82 hl (k := 4) rfl (z_inc i6) (by decide) rfl (fun ls hl => ?_)
            refine lv_goto (tgt := 31) hx hb dX8_core_85 (by decide) ?_
            exact ih _ _ (i6 + 1) (by first | omega | (simp only [] at *; omega)) (by first | omega | (simp only [] at *; omega)) (by first | exact fun j hj => absurd hj (Nat.not_lt_zero _) | exact z_nnul hno (by omega) (by assumption)) hI ls (lv_sub hl [1, 2, 3, 4, 0] rfl)
    exact hL31 (6 + 1) _ _ 0 (by first | omega | (simp only [] at *; omega)) (by first | omega | (simp only [] at *; omega)) (by first | exact fun j hj => absurd hj (Nat.not_lt_zero _) | exact z_nnul hno (by omega) (by assumption)) hI ls (lv_sub hl [1, 2, 3, 4, 0] rfl)
  refine lv_icmp_eq (tgt := 28) hx hb dX8_core_9 (by decide) (fun c38 => ?_) (fun c38 => ?_)
  · skip
    exact hL28 _ _ (by first | exact Or.inl (by assumption) | exact Or.inr (by assumption)) hI ls (lv_sub hl [0, 1, 2, 3] rfl)
  · skip
    refine lv_iload_n hx hb dX8_core_12 rfl (lv_at hl 3 rfl) ?_
    refine lv_bipush (v := 98) hx hb dX8_core_13 (by decide) ?_
    refine lv_icmp_eq (tgt := 28) hx hb dX8_core_15 (by decide) (fun c39 => ?_) (fun c39 => ?_)
    · skip
      exact hL28 _ _ (by first | exact Or.inl (by assumption) | exact Or.inr (by assumption)) hI ls (lv_sub hl [0, 1, 2, 3] rfl)
    · skip
      refine z_throw (ik := 71) (is := 73) (ic := 75) (cls := "java/lang/IllegalArgumentException") (text := "no such kind") (L0 := L) ["java/lang/RuntimeException", "java/lang/Exception"] (by decide) hM hE hI hnt (by decide) (by decide +kernel) (by decide +kernel) (by decide +kernel) (by decide +kernel) (by decide +kernel) (by decide +kernel) (hl.1.trans hml.symm) dX8_core_18 dX8_core_21 dX8_core_22 dX8_core_24 dX8_core_27 hout (Nat.le_of_ble_eq_true rfl) (Nat.le_of_ble_eq_true rfl) (Nat.le_of_ble_eq_true rfl) (Nat.le_of_ble_eq_true rfl) hlocks ⟨Or.inr (Or.inl ⟨rfl, hin3, c38, c39⟩), rfl⟩ (Nat.le_of_ble_eq_true rfl) (Nat.le_of_ble_eq_true rfl)

set_option maxHeartbeats 4000000 in
set_option maxRecDepth 100000 in
theorem c_X8_thread (l : Launch) (hnt : l.stackTraces = false) (D : va_G) (tc : Nat → ClassId) (z0 : Nat) (L : List Nat) (κ : Nat → Nat) (g : Nat → Nat → Value) (sz : Nat) (p0 : Nat) (hk0 : κ p0 = 10) (p1 : Int32) (p2 : Int32) (p3 : Int32) (aC : Nat) (hC : g p0 1 = .ref aC) (aT : Nat) (hT : g p0 2 = .ref aT) : vx_Met l yX8_thread wsX8_thread ({ frames := 7, cells := 2, slots := 12, locals := 120 }) (zPc D tc z0 [.ref p0, .int p1, .int p2, .int p3] [] (L, κ, g) sz) (va_Qi (fun (r : Int32) (u : zS) => ∃ i q : Nat, i < 8 ∧ r = nI i ∧ zHas g aC 6 p1 ∧ (1 ≤ p2 ∧ p2 ≤ 99999 ∧ 0 ≤ p3 ∧ p3 ≤ 9) ∧ (∀ j : Nat, j < i → g aT j ≠ .null) ∧ g aT i = .null ∧ u.2.1 q = 9 ∧ zExt κ (zup g aT i (.ref q)) u.2.1 u.2.2 ∧ u.2.2 q 1 = .int p1 ∧ ∀ b, κ b < 99 → b ≠ q) (fun (u : zS) (t : State) => zB D tc (zA [] L sz) [] u t) (zA [] L sz)) (vx_X (fun u : zS => True) (fun (E : String) (u : zS) (t : State) => (((E = "java/lang/IndexOutOfBoundsException" ∧ ¬ zHas g aC 6 p1) ∨ (E = "java/lang/IllegalArgumentException" ∧ zHas g aC 6 p1 ∧ ¬ (1 ≤ p2 ∧ p2 ≤ 99999 ∧ 0 ≤ p3 ∧ p3 ≤ 9)) ∨ (E = "java/lang/IllegalStateException" ∧ zHas g aC 6 p1 ∧ (1 ≤ p2 ∧ p2 ≤ 99999 ∧ 0 ≤ p3 ∧ p3 ≤ 9) ∧ ∀ j : Nat, j < 8 → g aT j ≠ .null)) ∧ u = (L, κ, g)) ∧ zB D tc (zA [] L sz) [] u t) (zA [] L sz)) 2 12 (zA [] L sz) := by
  refine vx_ofW (cc := cX8_thread) (maxL := 5) (ret := (some .int)) (by decide) rfl ?_
  intro p e s m args below meth c s₁ B hml hxt hv
  obtain ⟨rfl, rfl, hK, hE, hI⟩ := hv.opn
  have hx := B.exec
  have hb := B.bytes
  have hr := B.returns
  have hts := atoms_spec (ws := wsX8_thread) B.pre
  have hown : s.vm.findClass RX8 = some m.cls := findClass_of_methodNamed B.named
  have hlocks := B.notSynchronized
  have hout : ∀ (i : Nat), ∀ x ∈ c.exceptionTable.toList, covers x i = false := fun i x hx9 => (hxt x hx9).elim
  have hM : zM p s m c cX8_thread _ wsX8_thread RX8 D tc := ⟨hx, hb, hts, hown, hK⟩
  have hinX8 : ∀ w ∈ wsX80, w ∈ wsX8_thread := by decide +kernel
  have hinX7 : ∀ w ∈ wsX70, w ∈ wsX8_thread := by decide +kernel
  have hl := lv_entry ([.ref p0, .int p1, .int p2, .int p3]) (n := 5) (Nat.le_of_ble_eq_true rfl)
  rw [lg_entry_eq]
  generalize (lg_sl ([.ref p0, .int p1, .int p2, .int p3]) ++ List.replicate (5 - (lg_sl ([.ref p0, .int p1, .int p2, .int p3])).length) Slot.unset).toArray = ls at hl ⊢
  have hl : lv_has ls 5 [(0, .ref p0), (1, .int p1), (2, .int p2), (3, .int p3)] := hl
  refine lv_aload_n hx hb dX8_thread_0 rfl (lv_at hl 0 rfl) ?_
  refine lv_iload_n hx hb dX8_thread_1 rfl (lv_at hl 1 rfl) ?_
  refine z_xq hI (vx_runV (As := [.int p1]) (rest := []) ⟨hx, hb, hml, hown, hts⟩ (c_X8_coreAt l hnt _ _ _ _ _ _ _ p0 hk0 p1 aC hC) (cwV 1 hts gX8_thread_X8_coreAt rfl rfl rfl (by decide +kernel) ⟨Nat.le_of_ble_eq_true rfl, Nat.le_of_ble_eq_true rfl⟩) (z_preV hK hE hI [] rfl rfl (z_recv hK hI hk0 rfl rfl)) rfl rfl hl.1 rfl (lv_room (Nat.le_of_ble_eq_true rfl)) dX8_thread_2 ⟨Nat.le_of_ble_eq_true rfl, Nat.le_of_ble_eq_true rfl⟩) (fun E ce q9 u H locs hw hI he1 he2 he3 => ?_) (fun v1 u H locs hw2 hI => ?_)
  · obtain ⟨hxp, rfl⟩ := hw
    exact z_pass hK hI hout hlocks he1 he2 he3 ⟨Or.inl hxp, rfl⟩ (Nat.le_of_ble_eq_true rfl) (Nat.le_of_ble_eq_true rfl)
  obtain ⟨r3, rfl, hr4, hq5, rfl⟩ := hw2
  show W p l e (headSpec wsX8_thread ({ frames := 7, cells := 2, slots := 12, locals := 120 })).room s m ([.ref p0, .int p1, .int p2, .int p3] : List Value).toArray below meth c _ _ 1 6 (vx_MQ below (va_Qi (fun (r : Int32) (u : zS) => ∃ i q : Nat, i < 8 ∧ r = nI i ∧ zHas g aC 6 p1 ∧ (1 ≤ p2 ∧ p2 ≤ 99999 ∧ 0 ≤ p3 ∧ p3 ≤ 9) ∧ (∀ j : Nat, j < i → g aT j ≠ .null) ∧ g aT i = .null ∧ u.2.1 q = 9 ∧ zExt κ (zup g aT i (.ref q)) u.2.1 u.2.2 ∧ u.2.2 q 1 = .int p1 ∧ ∀ b, κ b < 99 → b ≠ q) (fun (u : zS) (t : State) => zB D tc (zA [] L s.heap.size) [] u t) (zA [] L s.heap.size)) (vx_X (fun u : zS => True) (fun (E : String) (u : zS) (t : State) => (((E = "java/lang/IndexOutOfBoundsException" ∧ ¬ zHas g aC 6 p1) ∨ (E = "java/lang/IllegalArgumentException" ∧ zHas g aC 6 p1 ∧ ¬ (1 ≤ p2 ∧ p2 ≤ 99999 ∧ 0 ≤ p3 ∧ p3 ≤ 9)) ∨ (E = "java/lang/IllegalStateException" ∧ zHas g aC 6 p1 ∧ (1 ≤ p2 ∧ p2 ≤ 99999 ∧ 0 ≤ p3 ∧ p3 ≤ 9) ∧ ∀ j : Nat, j < 8 → g aT j ≠ .null)) ∧ u = (L, κ, g)) ∧ zB D tc (zA [] L s.heap.size) [] u t) (zA [] L s.heap.size)) ([.ref p0, .int p1, .int p2, .int p3] : List Value).toArray s 2 12 (zA [] L s.heap.size)) (F0 m 5 ls (.ref r3 :: []))
  have hhas : zHas g aC 6 p1 := ⟨hq5.1, _, hq5.2⟩
  refine lv_pop hx hb dX8_thread_5 rfl ?_
  refine lv_iconst (v := 1) hx hb dX8_thread_6 (by decide) ?_
  refine lv_iload_n hx hb dX8_thread_7 rfl (lv_at hl 2 rfl) ?_
  refine lv_ldc (v := 99999) hx hb hown (hts (.constant RX8 90 (99999)) (by decide +kernel)) dX8_thread_8 ?_
  refine vp_callSi (W.runS (As := [.int 1, .int p2, .int 99999]) (rest := []) ⟨hx, hb, hml, hown, hts⟩ (c_X8_isFrom l _ _ _ _ _ _ _ 1 p2 99999) (va_cwS 3 hts gX8_thread_X8_isFrom rfl rfl rfl (by decide +kernel) ⟨Nat.le_of_ble_eq_true rfl, Nat.le_of_ble_eq_true rfl⟩) (z_pre hK hE hI [] rfl rfl) rfl rfl hl.1 rfl (lv_room (Nat.le_of_ble_eq_true rfl)) dX8_thread_10 ⟨Nat.le_of_ble_eq_true rfl, Nat.le_of_ble_eq_true rfl⟩) (fun v6 hw7 => ?_)
  have hL26 : ∀ (H : Heap) (locs : List Loc)    (hbad : ¬ (1 ≤ p2 ∧ p2 ≤ 99999 ∧ 0 ≤ p3 ∧ p3 ≤ 9)) (hI : zI D tc (zA [] L s.heap.size) s.heap [] L κ g H locs) (ls : Array Slot) (hl : lv_has ls 5 [(0, .ref p0), (1, .int p1), (2, .int p2), (3, .int p3)]), W p l e (headSpec wsX8_thread ({ frames := 7, cells := 2, slots := 12, locals := 120 })).room s m ([.ref p0, .int p1, .int p2, .int p3] : List Value).toArray below meth c H locs 1 6 (vx_MQ below (va_Qi (fun (r : Int32) (u : zS) => ∃ i q : Nat, i < 8 ∧ r = nI i ∧ zHas g aC 6 p1 ∧ (1 ≤ p2 ∧ p2 ≤ 99999 ∧ 0 ≤ p3 ∧ p3 ≤ 9) ∧ (∀ j : Nat, j < i → g aT j ≠ .null) ∧ g aT i = .null ∧ u.2.1 q = 9 ∧ zExt κ (zup g aT i (.ref q)) u.2.1 u.2.2 ∧ u.2.2 q 1 = .int p1 ∧ ∀ b, κ b < 99 → b ≠ q) (fun (u : zS) (t : State) => zB D tc (zA [] L s.heap.size) [] u t) (zA [] L s.heap.size)) (vx_X (fun u : zS => True) (fun (E : String) (u : zS) (t : State) => (((E = "java/lang/IndexOutOfBoundsException" ∧ ¬ zHas g aC 6 p1) ∨ (E = "java/lang/IllegalArgumentException" ∧ zHas g aC 6 p1 ∧ ¬ (1 ≤ p2 ∧ p2 ≤ 99999 ∧ 0 ≤ p3 ∧ p3 ≤ 9)) ∨ (E = "java/lang/IllegalStateException" ∧ zHas g aC 6 p1 ∧ (1 ≤ p2 ∧ p2 ≤ 99999 ∧ 0 ≤ p3 ∧ p3 ≤ 9) ∧ ∀ j : Nat, j < 8 → g aT j ≠ .null)) ∧ u = (L, κ, g)) ∧ zB D tc (zA [] L s.heap.size) [] u t) (zA [] L s.heap.size)) ([.ref p0, .int p1, .int p2, .int p3] : List Value).toArray s 2 12 (zA [] L s.heap.size)) (F0 m 26 ls []) := by
    intro H locs hbad hI ls hl
    refine z_throw (ik := 71) (is := 95) (ic := 75) (cls := "java/lang/IllegalArgumentException") (text := "a number out of range") (L0 := L) ["java/lang/RuntimeException", "java/lang/Exception"] (by decide) hM hE hI hnt (by decide) (by decide +kernel) (by decide +kernel) (by decide +kernel) (by decide +kernel) (by decide +kernel) (by decide +kernel) (hl.1.trans hml.symm) dX8_thread_26 dX8_thread_29 dX8_thread_30 dX8_thread_32 dX8_thread_35 hout (Nat.le_of_ble_eq_true rfl) (Nat.le_of_ble_eq_true rfl) (Nat.le_of_ble_eq_true rfl) (Nat.le_of_ble_eq_true rfl) hlocks ⟨Or.inr (Or.inl ⟨rfl, hhas, hbad⟩), rfl⟩ (Nat.le_of_ble_eq_true rfl) (Nat.le_of_ble_eq_true rfl)
  refine lv_if_eq (tgt := 26) hx hb dX8_thread_13 (by decide) (fun c8 => ?_) (fun c8 => ?_)
  · skip
    exact hL26 _ _ (by first | exact fun h => z_isN (by assumption) (by assumption) ⟨h.1, h.2.1⟩ | exact fun h => z_isN (by assumption) (by assumption) ⟨h.2.2.1, h.2.2.2⟩) hI ls (lv_sub hl [0, 1, 2, 3] rfl)
  · skip
    refine lv_iconst (v := 0) hx hb dX8_thread_16 (by decide) ?_
    refine lv_iload_n hx hb dX8_thread_17 rfl (lv_at hl 3 rfl) ?_
    refine lv_bipush (v := 9) hx hb dX8_thread_18 (by decide) ?_
    refine vp_callSi (W.runS (As := [.int 0, .int p3, .int 9]) (rest := []) ⟨hx, hb, hml, hown, hts⟩ (c_X8_isFrom l _ _ _ _ _ _ _ 0 p3 9) (va_cwS 3 hts gX8_thread_X8_isFrom rfl rfl rfl (by decide +kernel) ⟨Nat.le_of_ble_eq_true rfl, Nat.le_of_ble_eq_true rfl⟩) (z_pre hK hE hI [] rfl rfl) rfl rfl hl.1 rfl (lv_room (Nat.le_of_ble_eq_true rfl)) dX8_thread_20 ⟨Nat.le_of_ble_eq_true rfl, Nat.le_of_ble_eq_true rfl⟩) (fun v9 hw10 => ?_)
    refine lv_if_ne (tgt := 36) hx hb dX8_thread_23 (by decide) (fun c11 => ?_) (fun c11 => ?_)
    · skip
      have hrg : (1 ≤ p2 ∧ p2 ≤ 99999 ∧ 0 ≤ p3 ∧ p3 ≤ 9) := ⟨(z_isF hw7 c8).1, (z_isF hw7 c8).2, (z_isF hw10 c11).1, (z_isF hw10 c11).2⟩
      refine lv_iconst (v := 0) hx hb dX8_thread_36 (by decide) ?_
      refine lv_istore (lv' := [(4, .int 0), (0, .ref p0), (1, .int p1), (2, .int p2), (3, .int p3)]) hx hb dX8_thread_37 hl (by decide) rfl (fun ls hl => ?_)
      have hL39 : ∀ (n : Nat) (H : Heap) (locs : List Loc)   (i12 : Nat) (hi : i12 ≤ 8) (hn : 8 - i12 < n)  (hno : ∀ j : Nat, j < i12 → g aT j ≠ .null) (hI : zI D tc (zA [] L s.heap.size) s.heap [] L κ g H locs) (ls : Array Slot) (hl : lv_has ls 5 [(0, .ref p0), (1, .int p1), (2, .int p2), (3, .int p3), (4, .int ((nI i12)))]), W p l e (headSpec wsX8_thread ({ frames := 7, cells := 2, slots := 12, locals := 120 })).room s m ([.ref p0, .int p1, .int p2, .int p3] : List Value).toArray below meth c H locs 1 6 (vx_MQ below (va_Qi (fun (r : Int32) (u : zS) => ∃ i q : Nat, i < 8 ∧ r = nI i ∧ zHas g aC 6 p1 ∧ (1 ≤ p2 ∧ p2 ≤ 99999 ∧ 0 ≤ p3 ∧ p3 ≤ 9) ∧ (∀ j : Nat, j < i → g aT j ≠ .null) ∧ g aT i = .null ∧ u.2.1 q = 9 ∧ zExt κ (zup g aT i (.ref q)) u.2.1 u.2.2 ∧ u.2.2 q 1 = .int p1 ∧ ∀ b, κ b < 99 → b ≠ q) (fun (u : zS) (t : State) => zB D tc (zA [] L s.heap.size) [] u t) (zA [] L s.heap.size)) (vx_X (fun u : zS => True) (fun (E : String) (u : zS) (t : State) => (((E = "java/lang/IndexOutOfBoundsException" ∧ ¬ zHas g aC 6 p1) ∨ (E = "java/lang/IllegalArgumentException" ∧ zHas g aC 6 p1 ∧ ¬ (1 ≤ p2 ∧ p2 ≤ 99999 ∧ 0 ≤ p3 ∧ p3 ≤ 9)) ∨ (E = "java/lang/IllegalStateException" ∧ zHas g aC 6 p1 ∧ (1 ≤ p2 ∧ p2 ≤ 99999 ∧ 0 ≤ p3 ∧ p3 ≤ 9) ∧ ∀ j : Nat, j < 8 → g aT j ≠ .null)) ∧ u = (L, κ, g)) ∧ zB D tc (zA [] L s.heap.size) [] u t) (zA [] L s.heap.size)) ([.ref p0, .int p1, .int p2, .int p3] : List Value).toArray s 2 12 (zA [] L s.heap.size)) (F0 m 39 ls []) := by
        intro n
        induction n with
        | zero => intro H locs i12 hi hn hno hI ls hl; exact absurd hn (Nat.not_lt_zero _)
        | succ n ih =>
          intro H locs i12 hi hn hno hI ls hl
          refine lv_iload hx hb dX8_thread_39 (lv_at hl 4 rfl) ?_
          refine lv_aload_n hx hb dX8_thread_41 rfl (lv_at hl 0 rfl) ?_
          refine z_get (k := 10) (j := 2) hM hI hk0 rfl rfl hinX8 rfl (by decide) (by decide +kernel) (fun _ h9 => h9) dX8_thread_42 (fun v13 hv14 => ?_)
          obtain ⟨hg16, i15, rfl, hr17⟩ := hv14
          obtain rfl : aT = i15 := Value.ref.inj ((hT).symm.trans hg16.symm)
          refine z_alen (v := 8) hM hI hr17 rfl rfl rfl (by decide) dX8_thread_45 ?_
          refine lv_icmp_ge (tgt := 85) hx hb dX8_thread_46 (by decide) (fun c18 => ?_) (fun c18 => ?_)
          · skip
            have hgec18 : 8 ≤ i12 := z_ge (by omega) (by omega) c18
            refine z_throw (ik := 81) (is := 100) (ic := 85) (cls := "java/lang/IllegalStateException") (text := "no room for a thread") (L0 := L) ["java/lang/RuntimeException", "java/lang/Exception"] (by decide) hM hE hI hnt (by decide) (by decide +kernel) (by decide +kernel) (by decide +kernel) (by decide +kernel) (by decide +kernel) (by decide +kernel) (hl.1.trans hml.symm) dX8_thread_85 dX8_thread_88 dX8_thread_89 dX8_thread_91 dX8_thread_94 hout (Nat.le_of_ble_eq_true rfl) (Nat.le_of_ble_eq_true rfl) (Nat.le_of_ble_eq_true rfl) (Nat.le_of_ble_eq_true rfl) hlocks ⟨Or.inr (Or.inr ⟨rfl, hhas, hrg, fun j hj => hno j (by omega)⟩), rfl⟩ (Nat.le_of_ble_eq_true rfl) (Nat.le_of_ble_eq_true rfl)
          · skip
            have hltc18 : i12 < 8 := z_lt (by omega) c18
            refine lv_aload_n hx hb dX8_thread_49 rfl (lv_at hl 0 rfl) ?_
            refine z_get (k := 10) (j := 2) hM hI hk0 rfl rfl hinX8 rfl (by decide) (by decide +kernel) (fun _ h9 => h9) dX8_thread_50 (fun v19 hv20 => ?_)
            obtain ⟨hg22, i21, rfl, hr23⟩ := hv20
            obtain rfl : aT = i21 := Value.ref.inj ((hT).symm.trans hg22.symm)
            refine lv_iload hx hb dX8_thread_53 (lv_at hl 4 rfl) ?_
            refine z_aald hM hI hr23 rfl rfl rfl (vp_in_nI (by omega) (by omega)) dX8_thread_55 (fun x24 hv25 => ?_)
            obtain ⟨hghv25, hn28 | ⟨r26, hn28, hr27⟩⟩ := hv25
            · rw [hn28]
              rw [hn28] at hghv25
              refine lv_ifnonnullN hx hb dX8_thread_56 ?_
              refine lv_aload_n hx hb dX8_thread_59 rfl (lv_at hl 0 rfl) ?_
              refine z_get (k := 10) (j := 2) hM hI hk0 rfl rfl hinX8 rfl (by decide) (by decide +kernel) (fun _ h9 => h9) dX8_thread_60 (fun v29 hv30 => ?_)
              obtain ⟨hg32, i31, rfl, hr33⟩ := hv30
              obtain rfl : aT = i31 := Value.ref.inj ((hT).symm.trans hg32.symm)
              refine lv_iload hx hb dX8_thread_63 (lv_at hl 4 rfl) ?_
              refine z_new (ci := 9) (fs := [.int 0, .int 0, .int 0, .int 0]) (C := RX7) (T := TX7) (N := 4) hM hI hinX7 tyX7 tyX7_ok (by decide +kernel) (by decide +kernel) (by decide +kernel) rfl (by decide +kernel) (Nat.le_of_ble_eq_true rfl) (Nat.le_of_ble_eq_true rfl) dX8_thread_65 (fun q34 H hI => ?_)
              have hI : zI D tc _ s.heap [(q34, .inr (9, [.int 0, .int 0, .int 0, .int 0]))] L κ g _ _ := hI
              have hfr9 : ∀ b9 : Nat, κ b9 < 99 → b9 ≠ q34 := z_fresh hI
              refine lv_dup hx hb dX8_thread_68 rfl ?_
              refine lv_iload_n hx hb dX8_thread_69 rfl (lv_at hl 1 rfl) ?_
              refine lv_iload_n hx hb dX8_thread_70 rfl (lv_at hl 2 rfl) ?_
              refine lv_iload_n hx hb dX8_thread_71 rfl (lv_at hl 3 rfl) ?_
              refine z_cvX (Xc := [(q34, .inr (9, [.int 0, .int 0, .int 0, .int 0]))]) (wr := []) (rx := []) [0] [] rfl rfl rfl rfl (by decide) hI (va_runI (As := [.int p1, .int p2, .int p3]) (rest := [.ref q34, .int ((nI i12)), .ref aT]) ⟨hx, hb, hml, hown, hts⟩ (c_X7_init l _ _ _ _ _ _ _ q34 p1 p2 p3) (cwI 3 hts gX8_thread_X7_init rfl rfl rfl (hts (.initialized RX7) (by decide +kernel)) (hts (.methodLink RX8 97 yX7_init) (by decide +kernel)) (hts (.instanceMethod yX7_init) (by decide +kernel)) rfl (by decide +kernel) ⟨Nat.le_of_ble_eq_true rfl, Nat.le_of_ble_eq_true rfl⟩) (z_pre (Xc := [(q34, .inr (9, [.int 0, .int 0, .int 0, .int 0]))]) hK hE hI [0] rfl rfl) rfl rfl hl.1 rfl (lv_room (Nat.le_of_ble_eq_true rfl)) dX8_thread_72 ⟨Nat.le_of_ble_eq_true rfl, Nat.le_of_ble_eq_true rfl⟩) (fun u H locs hw hI => ?_)
              obtain ⟨L2, κ2, g2⟩ := u
              obtain ⟨hx2, hk35, hf36⟩ := hw
              dsimp only at hx2 hk35 hf36
              have hI : zI D tc _ s.heap [] L2 κ2 g2 _ _ := hI
              have ha37 := hx2.k hr33 (by decide)
              refine z_aast (g' := zup g2 aT ((nI i12)).toNatClampNeg (.ref q34)) hM hI ha37 rfl rfl rfl hk35 rfl rfl (vp_in_nI (by omega) (by omega)) ⟨(zup_self _ _ _ _).symm, Or.inr ⟨_, rfl, hk35⟩⟩ (fun b i h => zup_ne h) dX8_thread_75 (fun H locs hI => ?_)
              have hmd := z_made (i := i12) (by omega) hx2 hk35 ha37 (by decide)
              refine lv_iload hx hb dX8_thread_76 (lv_at hl 4 rfl) ?_
              refine vx_ret ?_
              refine W.widen (k := 2) (n := 12) (Nat.le_of_ble_eq_true rfl) (Nat.le_of_ble_eq_true rfl) ?_
              exact W.iret (v := (nI i12)) hx hb hr (fun t ht hW => ⟨⟨_, (L2, κ2, zup g2 aT ((nI i12)).toNatClampNeg (.ref q34)), rfl, ⟨i12, q34, by omega, rfl, hhas, hrg, hno, z_nl (by omega) (by assumption), hk35, hmd.1, (hmd.2 _).trans hf36, hfr9⟩, z_endG hK hI ht hW⟩, z_F hI ht⟩) (z_locs hI) dX8_thread_78
            · rw [hn28]
              rw [hn28] at hghv25
              refine lv_ifnonnull (tgt := 79) hx hb dX8_thread_56 (by decide) ?_
              refine lv_iinc (v := nI (i12 + 1)) (lv' := [(4, .int ((nI (i12 + 1)))), (0, .ref p0), (1, .int p1), (2, .int p2), (3, .int p3)]) hx hb dX8_thread_79 hl (k := 4) rfl (z_inc i12) (by decide) rfl (fun ls hl => ?_)
              refine lv_goto (tgt := 39) hx hb dX8_thread_82 (by decide) ?_
              exact ih _ _ (i12 + 1) (by first | omega | (simp only [] at *; omega)) (by first | omega | (simp only [] at *; omega)) (by first | exact fun j hj => absurd hj (Nat.not_lt_zero _) | exact z_nnul hno (by omega) (by assumption)) hI ls (lv_sub hl [1, 2, 3, 4, 0] rfl)
      exact hL39 (8 + 1) _ _ 0 (by first | omega | (simp only [] at *; omega)) (by first | omega | (simp only [] at *; omega)) (by first | exact fun j hj => absurd hj (Nat.not_lt_zero _) | exact z_nnul hno (by omega) (by assumption)) hI ls (lv_sub hl [1, 2, 3, 4, 0] rfl)
    · skip
      exact hL26 _ _ (by first | exact fun h => z_isN (by assumption) (by assumption) ⟨h.1, h.2.1⟩ | exact fun h => z_isN (by assumption) (by assumption) ⟨h.2.2.1, h.2.2.2⟩) hI ls (lv_sub hl [0, 1, 2, 3] rfl)
