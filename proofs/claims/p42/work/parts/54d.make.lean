theorem z_nnul {g : Nat → Nat → Value} {a i r : Nat} (h : ∀ j : Nat, j < i → g a j ≠ .null) (hi : i < 2 ^ 31) (hx : Value.ref r = g a (nI i).toNatClampNeg) : ∀ j : Nat, j < i + 1 → g a j ≠ .null := by
  intro j hj
  rcases Nat.lt_or_eq_of_le (Nat.le_of_lt_succ hj) with h1 | h1
  · exact h j h1
  · rw [nI_clamp hi] at hx
    rw [h1, ← hx]
    simp
theorem z_nl {g : Nat → Nat → Value} {a i : Nat} (hi : i < 2 ^ 31) (hx : Value.null = g a (nI i).toNatClampNeg) : g a i = .null := by
  rw [nI_clamp hi] at hx
  exact hx.symm
theorem z_made {κ κ2 : Nat → Nat} {g g2 : Nat → Nat → Value} {a i q k1 k2 : Nat} (hi : i < 2 ^ 31) (hx : zExt κ g κ2 g2) (hq : κ2 q = k1) (ha : κ2 a = k2) (hne : k1 ≠ k2) : zExt κ (zup g a i (.ref q)) κ2 (zup g2 a (nI i).toNatClampNeg (.ref q)) ∧ ∀ j, zup g2 a (nI i).toNatClampNeg (.ref q) q j = g2 q j := by
  refine ⟨⟨hx.1, fun b j hb => ?_⟩, fun j => zup_a (fun h => hne ?_)⟩
  · rw [nI_clamp hi]
    unfold zup
    split
    · rfl
    · exact hx.2 b j hb
  · rw [← hq, ← ha, h]
theorem z_isF {a b x r : Int32} (h : r = 0 ↔ ¬ (a ≤ x ∧ x ≤ b)) (hc : ¬ r = 0) : a ≤ x ∧ x ≤ b := Classical.not_not.mp (fun h1 => hc (h.mpr h1))
theorem z_isN {a b x r : Int32} (h : r = 0 ↔ ¬ (a ≤ x ∧ x ≤ b)) (hc : r = 0) : ¬ (a ≤ x ∧ x ≤ b) := h.mp hc
theorem zShp.first {κ : Nat → Nat} {g : Nat → Nat → Value} {P c b a q : Nat → Nat} {n i : Nat} (h : zShp κ g P c b a q n) (hno : ∀ j : Nat, j < i → g (P 1) j ≠ .null) (hi : g (P 1) i = .null) (h6 : i < 6) : i = n := by
  rcases Nat.lt_trichotomy i n with h1 | h1 | h1
  · obtain ⟨-, -, h3, -⟩ := h.co h1
    rw [hi] at h3
    cases h3
  · exact h1
  · exact absurd (h.2.2.2.2.2.1 n (Nat.le_refl n) (by omega)) (hno n h1)
set_option maxHeartbeats 4000000 in
set_option maxRecDepth 100000 in
theorem c_X8_core (l : Launch) (hnt : l.stackTraces = false) (D : va_G) (tc : Nat → ClassId) (z0 : Nat) (L : List Nat) (κ : Nat → Nat) (g : Nat → Nat → Value) (sz : Nat) (P : Nat → Nat) (hk0 : κ (P 0) = 10) (p1 : Int32) (p2 : Int32) (cf b a q : Nat → Nat) (nc t9 k9 : Nat) (hJ : zSd42 κ g P cf b a q nc t9 k9) : vx_Met l yX8_core wsX8_core ({ frames := 7, cells := 7, slots := 65, locals := 120 }) (zPc D tc z0 [.ref ((P 0)), .int p1, .int p2] [] (L, κ, g) sz) (va_Qi (fun (r : Int32) (u : zS) => ∃ cf2 bf2 a2 q2 : Nat → Nat, zSd42 u.2.1 u.2.2 P cf2 bf2 a2 q2 (nc + 1) t9 (k9 + 1) ∧ (∀ b, κ b < 99 → u.2.1 b = κ b) ∧ ∀ b j, κ b < 99 → ¬ (b = P 1 ∧ j = nc) → u.2.2 b j = g b j) (fun (u : zS) (t : State) => zB D tc (zA [] L sz) [] u t) (zA [] L sz)) (vx_X (fun u : zS => True) (fun (E : String) (u : zS) (t : State) => (((E = "java/lang/IndexOutOfBoundsException" ∨ E = "java/lang/IllegalArgumentException" ∨ E = "java/lang/IllegalStateException") ∧ u = (L, κ, g))) ∧ zB D tc (zA [] L sz) [] u t) (zA [] L sz)) 7 65 (zA [] L sz) := by
  refine vx_ofW (cc := cX8_core) (maxL := 5) (ret := (some .int)) (by decide) rfl ?_
  intro p e s m args below meth c s₁ B hml hxt hv
  obtain ⟨rfl, rfl, hK, hE, hI⟩ := hv.opn
  have hx := B.exec
  have hb := B.bytes
  have hr := B.returns
  have hts := atoms_spec (ws := wsX8_core) B.pre
  have hown : s.vm.findClass RX8 = some m.cls := findClass_of_methodNamed B.named
  have hlocks := B.notSynchronized
  have hout : ∀ (i : Nat), ∀ x ∈ c.exceptionTable.toList, covers x i = false := fun i x hx9 => (hxt x hx9).elim
  have hM : zM p s m c cX8_core _ wsX8_core RX8 D tc := ⟨hx, hb, hts, hown, hK⟩
  have hinX8 : ∀ w ∈ wsX80, w ∈ wsX8_core := by decide +kernel
  have hinX3 : ∀ w ∈ wsX30, w ∈ wsX8_core := by decide +kernel
  have hl := lv_entry ([.ref ((P 0)), .int p1, .int p2]) (n := 5) (Nat.le_of_ble_eq_true rfl)
  rw [lg_entry_eq]
  generalize (lg_sl ([.ref ((P 0)), .int p1, .int p2]) ++ List.replicate (5 - (lg_sl ([.ref ((P 0)), .int p1, .int p2])).length) Slot.unset).toArray = ls at hl ⊢
  have hl : lv_has ls 5 [(0, .ref ((P 0))), (1, .int p1), (2, .int p2)] := hl
  have hC : g (P 0) 1 = .ref (P 1) := hJ.1.2.1.1
  refine lv_aload_n hx hb dX8_core_0 rfl (lv_at hl 0 rfl) ?_
  refine lv_iload_n hx hb dX8_core_1 rfl (lv_at hl 1 rfl) ?_
  refine z_xq hI (vx_runV (As := [.int p1]) (rest := []) ⟨hx, hb, hml, hown, hts⟩ (c_X8_railAt l hnt _ _ _ _ _ _ _ ((P 0)) hk0 p1) (cwV 1 hts gX8_core_X8_railAt rfl rfl rfl (by decide +kernel) ⟨Nat.le_of_ble_eq_true rfl, Nat.le_of_ble_eq_true rfl⟩) (z_preV hK hE hI [] rfl rfl (z_recv hK hI hk0 rfl rfl)) rfl rfl hl.1 rfl (lv_room (Nat.le_of_ble_eq_true rfl)) dX8_core_2 ⟨Nat.le_of_ble_eq_true rfl, Nat.le_of_ble_eq_true rfl⟩) (fun E ce q9 u H locs hw hI he1 he2 he3 => ?_) (fun v1 u H locs hw2 hI => ?_)
  · obtain ⟨hxp, rfl⟩ := hw
    exact z_pass hK hI hout hlocks he1 he2 he3 ⟨Or.inl hxp.1, rfl⟩ (Nat.le_of_ble_eq_true rfl) (Nat.le_of_ble_eq_true rfl)
  obtain ⟨r3, rfl, hr4, hq5, rfl⟩ := hw2
  show W p l e (headSpec wsX8_core ({ frames := 7, cells := 7, slots := 65, locals := 120 })).room s m ([.ref ((P 0)), .int p1, .int p2] : List Value).toArray below meth c _ _ 1 6 (vx_MQ below (va_Qi (fun (r : Int32) (u : zS) => ∃ cf2 bf2 a2 q2 : Nat → Nat, zSd42 u.2.1 u.2.2 P cf2 bf2 a2 q2 (nc + 1) t9 (k9 + 1) ∧ (∀ b, κ b < 99 → u.2.1 b = κ b) ∧ ∀ b j, κ b < 99 → ¬ (b = P 1 ∧ j = nc) → u.2.2 b j = g b j) (fun (u : zS) (t : State) => zB D tc (zA [] L s.heap.size) [] u t) (zA [] L s.heap.size)) (vx_X (fun u : zS => True) (fun (E : String) (u : zS) (t : State) => (((E = "java/lang/IndexOutOfBoundsException" ∨ E = "java/lang/IllegalArgumentException" ∨ E = "java/lang/IllegalStateException") ∧ u = (L, κ, g))) ∧ zB D tc (zA [] L s.heap.size) [] u t) (zA [] L s.heap.size)) ([.ref ((P 0)), .int p1, .int p2] : List Value).toArray s 7 65 (zA [] L s.heap.size)) (F0 m 5 ls (.ref r3 :: []))
  refine lv_astore_n (lv' := [(3, .ref r3), (0, .ref ((P 0))), (1, .int p1), (2, .int p2)]) hx hb dX8_core_5 rfl hl (by decide) rfl (fun ls hl => ?_)
  refine lv_iload_n hx hb dX8_core_6 rfl (lv_at hl 3 rfl) ?_
  refine lv_bipush (v := 115) hx hb dX8_core_7 (by decide) ?_
  have hL28 : ∀ (H : Heap) (locs : List Loc)     (hI : zI D tc (zA [] L s.heap.size) s.heap [] L κ g H locs) (ls : Array Slot) (hl : lv_has ls 5 [(3, .ref r3), (0, .ref ((P 0))), (1, .int p1), (2, .int p2)]), W p l e (headSpec wsX8_core ({ frames := 7, cells := 7, slots := 65, locals := 120 })).room s m ([.ref ((P 0)), .int p1, .int p2] : List Value).toArray below meth c H locs 1 6 (vx_MQ below (va_Qi (fun (r : Int32) (u : zS) => ∃ cf2 bf2 a2 q2 : Nat → Nat, zSd42 u.2.1 u.2.2 P cf2 bf2 a2 q2 (nc + 1) t9 (k9 + 1) ∧ (∀ b, κ b < 99 → u.2.1 b = κ b) ∧ ∀ b j, κ b < 99 → ¬ (b = P 1 ∧ j = nc) → u.2.2 b j = g b j) (fun (u : zS) (t : State) => zB D tc (zA [] L s.heap.size) [] u t) (zA [] L s.heap.size)) (vx_X (fun u : zS => True) (fun (E : String) (u : zS) (t : State) => (((E = "java/lang/IndexOutOfBoundsException" ∨ E = "java/lang/IllegalArgumentException" ∨ E = "java/lang/IllegalStateException") ∧ u = (L, κ, g))) ∧ zB D tc (zA [] L s.heap.size) [] u t) (zA [] L s.heap.size)) ([.ref ((P 0)), .int p1, .int p2] : List Value).toArray s 7 65 (zA [] L s.heap.size)) (F0 m 28 ls []) := by
    intro H locs hI ls hl
    refine lv_iconst (v := 0) hx hb dX8_core_28 (by decide) ?_
    refine lv_istore (lv' := [(4, .int 0), (3, .ref r3), (0, .ref ((P 0))), (1, .int p1), (2, .int p2)]) hx hb dX8_core_29 hl (by decide) rfl (fun ls hl => ?_)
    have hL31 : ∀ (n : Nat) (H : Heap) (locs : List Loc)   (i6 : Nat) (hi : i6 ≤ 6) (hn : 6 - i6 < n)  (hno : ∀ j : Nat, j < i6 → g (P 1) j ≠ .null) (hI : zI D tc (zA [] L s.heap.size) s.heap [] L κ g H locs) (ls : Array Slot) (hl : lv_has ls 5 [(3, .ref r3), (0, .ref ((P 0))), (1, .int p1), (2, .int p2), (4, .int ((nI i6)))]), W p l e (headSpec wsX8_core ({ frames := 7, cells := 7, slots := 65, locals := 120 })).room s m ([.ref ((P 0)), .int p1, .int p2] : List Value).toArray below meth c H locs 1 6 (vx_MQ below (va_Qi (fun (r : Int32) (u : zS) => ∃ cf2 bf2 a2 q2 : Nat → Nat, zSd42 u.2.1 u.2.2 P cf2 bf2 a2 q2 (nc + 1) t9 (k9 + 1) ∧ (∀ b, κ b < 99 → u.2.1 b = κ b) ∧ ∀ b j, κ b < 99 → ¬ (b = P 1 ∧ j = nc) → u.2.2 b j = g b j) (fun (u : zS) (t : State) => zB D tc (zA [] L s.heap.size) [] u t) (zA [] L s.heap.size)) (vx_X (fun u : zS => True) (fun (E : String) (u : zS) (t : State) => (((E = "java/lang/IndexOutOfBoundsException" ∨ E = "java/lang/IllegalArgumentException" ∨ E = "java/lang/IllegalStateException") ∧ u = (L, κ, g))) ∧ zB D tc (zA [] L s.heap.size) [] u t) (zA [] L s.heap.size)) ([.ref ((P 0)), .int p1, .int p2] : List Value).toArray s 7 65 (zA [] L s.heap.size)) (F0 m 31 ls []) := by
      intro n
      induction n with
      | zero => intro H locs i6 hi hn hno hI ls hl; exact absurd hn (Nat.not_lt_zero _)
      | succ n ih =>
        intro H locs i6 hi hn hno hI ls hl
        refine lv_iload hx hb dX8_core_31 (lv_at hl 4 rfl) ?_
        refine lv_aload_n hx hb dX8_core_33 rfl (lv_at hl 1 rfl) ?_
        refine z_get (k := 10) (j := 1) hM hI hk0 rfl rfl hinX8 rfl (by decide) (by decide +kernel) (fun _ h9 => h9) dX8_core_34 (fun v7 hv8 => ?_)
        obtain ⟨hg10, i9, rfl, hr11⟩ := hv8
        obtain rfl : (P 1) = i9 := Value.ref.inj ((hC).symm.trans hg10.symm)
        refine z_alen (v := 6) hM hI hr11 rfl rfl rfl (by decide) dX8_core_37 ?_
        refine lv_icmp_ge (tgt := 88) hx hb dX8_core_38 (by decide) (fun c12 => ?_) (fun c12 => ?_)
        · skip
          have hgec12 : 6 ≤ i6 := z_ge (by omega) (by omega) c12
          refine z_throw (ik := 81) (is := 83) (ic := 85) (cls := "java/lang/IllegalStateException") (text := "no room for a core") (L0 := L) ["java/lang/RuntimeException", "java/lang/Exception"] (by decide) hM hE hI hnt (by decide) (by decide +kernel) (by decide +kernel) (by decide +kernel) (by decide +kernel) (by decide +kernel) (by decide +kernel) (hl.1.trans hml.symm) dX8_core_88 dX8_core_91 dX8_core_92 dX8_core_94 dX8_core_97 hout (Nat.le_of_ble_eq_true rfl) (Nat.le_of_ble_eq_true rfl) (Nat.le_of_ble_eq_true rfl) (Nat.le_of_ble_eq_true rfl) hlocks ⟨by first | exact Or.inl rfl | exact Or.inr (Or.inl rfl) | exact Or.inr (Or.inr rfl), rfl⟩ (Nat.le_of_ble_eq_true rfl) (Nat.le_of_ble_eq_true rfl)
        · skip
          have hltc12 : i6 < 6 := z_lt (by omega) c12
          refine lv_aload_n hx hb dX8_core_41 rfl (lv_at hl 1 rfl) ?_
          refine z_get (k := 10) (j := 1) hM hI hk0 rfl rfl hinX8 rfl (by decide) (by decide +kernel) (fun _ h9 => h9) dX8_core_42 (fun v13 hv14 => ?_)
          obtain ⟨hg16, i15, rfl, hr17⟩ := hv14
          obtain rfl : (P 1) = i15 := Value.ref.inj ((hC).symm.trans hg16.symm)
          refine lv_iload hx hb dX8_core_45 (lv_at hl 4 rfl) ?_
          refine z_aald hM hI hr17 rfl rfl rfl (vp_in_nI (by omega) (by omega)) dX8_core_47 (fun x18 hv19 => ?_)
          obtain ⟨hghv19, hn22 | ⟨r20, hn22, hr21⟩⟩ := hv19
          · rw [hn22]
            rw [hn22] at hghv19
            refine lv_ifnonnullN hx hb dX8_core_48 ?_
            refine lv_aload_n hx hb dX8_core_51 rfl (lv_at hl 1 rfl) ?_
            refine z_get (k := 10) (j := 1) hM hI hk0 rfl rfl hinX8 rfl (by decide) (by decide +kernel) (fun _ h9 => h9) dX8_core_52 (fun v23 hv24 => ?_)
            obtain ⟨hg26, i25, rfl, hr27⟩ := hv24
            obtain rfl : (P 1) = i25 := Value.ref.inj ((hC).symm.trans hg26.symm)
            refine lv_iload hx hb dX8_core_55 (lv_at hl 4 rfl) ?_
            refine z_new (ci := 5) (fs := [.int 0, .null, .int 0, .int 0, .int 0, .int 0, .int 0, .int 0, .int 0, .int 0, .int 0, .int 0, .int 0, .int 0, .int 0, .null, .int 0, .int 0, .int 0, .int 0]) (C := RX3) (T := TX3) (N := 20) hM hI hinX3 tyX3 tyX3_ok (by decide +kernel) (by decide +kernel) (by decide +kernel) rfl (by decide +kernel) (Nat.le_of_ble_eq_true rfl) (Nat.le_of_ble_eq_true rfl) dX8_core_57 (fun q28 H hI => ?_)
            have hI : zI D tc _ s.heap [(q28, .inr (5, [.int 0, .null, .int 0, .int 0, .int 0, .int 0, .int 0, .int 0, .int 0, .int 0, .int 0, .int 0, .int 0, .int 0, .int 0, .null, .int 0, .int 0, .int 0, .int 0]))] L κ g _ _ := hI
            refine lv_dup hx hb dX8_core_60 rfl ?_
            refine lv_iload hx hb dX8_core_61 (lv_at hl 4 rfl) ?_
            refine lv_aload_n hx hb dX8_core_63 rfl (lv_at hl 0 rfl) ?_
            refine lv_iload_n hx hb dX8_core_64 rfl (lv_at hl 3 rfl) ?_
            refine lv_bipush (v := 98) hx hb dX8_core_65 (by decide) ?_
            refine lv_icmp_ne (tgt := 74) hx hb dX8_core_67 (by decide) (fun c29 => ?_) (fun c29 => ?_)
            · skip
              refine lv_iconst (v := 0) hx hb dX8_core_74 (by decide) ?_
              refine z_cvE (sel := fun u : Nat × Nat × Nat × Nat × Nat × zS => u.2.2.2.2.2) (rxf := fun u : Nat × Nat × Nat × Nat × Nat × zS => ([(q28, .inr (5, [.int ((nI i6)), .ref r3, .int 0, .int 108, .int 0, .int 0, .int 0, .int 0, .int 45, .int 97, .int 0, .int 0, .int 0, .int 0, .int 0, .ref u.1, .int 20, .int 0, .int 0, .int 0])), (u.1, .inr (3, [.int 20, .ref u.2.1, .ref u.2.2.1])), (u.2.1, .inr (2, [.ref u.2.2.2.1, .int 1])), (u.2.2.1, .inr (2, [.ref u.2.2.2.2.1, .int 1])), (u.2.2.2.1, .inl (tc 1, 16, .inr (.inl (vp_updL (fun _ => 0) (0 : Int32).toNatClampNeg 400)))), (u.2.2.2.2.1, .inl (tc 1, 16, .inr (.inl (vp_updL (fun _ => 0) (0 : Int32).toNatClampNeg 20))))] : va_W)) (Xc := ([(q28, .inr (5, [.int 0, .null, .int 0, .int 0, .int 0, .int 0, .int 0, .int 0, .int 0, .int 0, .int 0, .int 0, .int 0, .int 0, .int 0, .null, .int 0, .int 0, .int 0, .int 0]))] : va_W)) (wr := ([] : va_W)) [0] [] rfl rfl rfl rfl (by decide) hI (va_runI (As := [.int ((nI i6)), .ref r3, .int 0]) (rest := [.ref q28, .int ((nI i6)), .ref ((P 1))]) ⟨hx, hb, hml, hown, hts⟩ (x_X3_init_0 l D tc z0 _ κ g _ q28 r3 ((nI i6))) (cwI 3 hts gX8_core_X3_init rfl rfl rfl (hts (.initialized RX3) (by decide +kernel)) (hts (.methodLink RX8 78 yX3_init) (by decide +kernel)) (hts (.instanceMethod yX3_init) (by decide +kernel)) rfl (by decide +kernel) ⟨Nat.le_of_ble_eq_true rfl, Nat.le_of_ble_eq_true rfl⟩) (z_pre (Xc := ([(q28, .inr (5, [.int 0, .null, .int 0, .int 0, .int 0, .int 0, .int 0, .int 0, .int 0, .int 0, .int 0, .int 0, .int 0, .int 0, .int 0, .null, .int 0, .int 0, .int 0, .int 0]))] : va_W)) hK hE hI [0] rfl rfl) rfl rfl hl.1 rfl (lv_room (Nat.le_of_ble_eq_true rfl)) dX8_core_75 ⟨Nat.le_of_ble_eq_true rfl, Nat.le_of_ble_eq_true rfl⟩) (fun u H locs hw hI => ?_)
              obtain ⟨w30, w31, w32, w33, w34, u⟩ := u
              dsimp only at hw hI
              obtain rfl := hw
              have hI : zI D tc _ s.heap [(q28, .inr (5, [.int ((nI i6)), .ref r3, .int 0, .int 108, .int 0, .int 0, .int 0, .int 0, .int 45, .int 97, .int 0, .int 0, .int 0, .int 0, .int 0, .ref w30, .int 20, .int 0, .int 0, .int 0])), (w30, .inr (3, [.int 20, .ref w31, .ref w32])), (w31, .inr (2, [.ref w33, .int 1])), (w32, .inr (2, [.ref w34, .int 1])), (w33, .inl (tc 1, 16, .inr (.inl (vp_updL (fun _ => 0) (0 : Int32).toNatClampNeg 400)))), (w34, .inl (tc 1, 16, .inr (.inl (vp_updL (fun _ => 0) (0 : Int32).toNatClampNeg 20))))] L κ g _ _ := hI
              obtain ⟨L2, κ2, g2, hI, hx2, hk9, hf9, hl9, hA9, hB9, hd9⟩ := z_core42 (bg := 0) hr4 (Or.inl rfl) hI
              have ha35 := hx2.k hr27 (by decide)
              refine z_aast (g' := zup g2 (P 1) ((nI i6)).toNatClampNeg (.ref q28)) hM hI ha35 rfl rfl rfl hk9.1 rfl rfl (vp_in_nI (by omega) (by omega)) ⟨(zup_self _ _ _ _).symm, Or.inr ⟨_, rfl, hk9.1⟩⟩ (fun b i h => zup_ne h) dX8_core_78 (fun H locs hI => ?_)
              have hmd := z_made (i := i6) (by omega) hx2 hk9.1 ha35 (by decide)
              refine lv_iload hx hb dX8_core_79 (lv_at hl 4 rfl) ?_
              have hnul : g (P 1) i6 = .null := z_nl (by omega) (by assumption)
              have hinc : i6 = nc := hJ.1.first hno hnul (by omega)
              have hJ2 := hJ.core (by omega) hx2 hk9 hf9 hl9 hA9 hB9
              rw [nI_clamp (by omega), hinc] at hI
              refine vx_ret ?_
              exact W.iret (v := (nI i6)) hx hb hr (fun t ht hW => ⟨⟨_, (L2, κ2, zup g2 (P 1) nc (.ref q28)), rfl, ⟨_, _, _, _, hJ2, hx2.1, fun b j hb hne => (zup_ne (by by_cases h9 : b = P 1; exact Or.inr (fun e9 => hne ⟨h9, e9⟩); exact Or.inl h9)).trans (hx2.2 b j hb)⟩, z_endG hK hI ht hW⟩, z_F hI ht⟩) (z_locs hI) dX8_core_81
            · skip
              refine lv_iconst (v := 1) hx hb dX8_core_70 (by decide) ?_
              refine lv_goto (tgt := 75) hx hb dX8_core_71 (by decide) ?_
              refine z_cvE (sel := fun u : Nat × Nat × Nat × Nat × Nat × zS => u.2.2.2.2.2) (rxf := fun u : Nat × Nat × Nat × Nat × Nat × zS => ([(q28, .inr (5, [.int ((nI i6)), .ref r3, .int 1, .int 108, .int 0, .int 0, .int 0, .int 0, .int 45, .int 97, .int 0, .int 0, .int 0, .int 0, .int 0, .ref u.1, .int 20, .int 0, .int 0, .int 0])), (u.1, .inr (3, [.int 20, .ref u.2.1, .ref u.2.2.1])), (u.2.1, .inr (2, [.ref u.2.2.2.1, .int 1])), (u.2.2.1, .inr (2, [.ref u.2.2.2.2.1, .int 1])), (u.2.2.2.1, .inl (tc 1, 16, .inr (.inl (vp_updL (fun _ => 0) (0 : Int32).toNatClampNeg 400)))), (u.2.2.2.2.1, .inl (tc 1, 16, .inr (.inl (vp_updL (fun _ => 0) (0 : Int32).toNatClampNeg 20))))] : va_W)) (Xc := ([(q28, .inr (5, [.int 0, .null, .int 0, .int 0, .int 0, .int 0, .int 0, .int 0, .int 0, .int 0, .int 0, .int 0, .int 0, .int 0, .int 0, .null, .int 0, .int 0, .int 0, .int 0]))] : va_W)) (wr := ([] : va_W)) [0] [] rfl rfl rfl rfl (by decide) hI (va_runI (As := [.int ((nI i6)), .ref r3, .int 1]) (rest := [.ref q28, .int ((nI i6)), .ref ((P 1))]) ⟨hx, hb, hml, hown, hts⟩ (x_X3_init_1 l D tc z0 _ κ g _ q28 r3 ((nI i6))) (cwI 3 hts gX8_core_X3_init rfl rfl rfl (hts (.initialized RX3) (by decide +kernel)) (hts (.methodLink RX8 78 yX3_init) (by decide +kernel)) (hts (.instanceMethod yX3_init) (by decide +kernel)) rfl (by decide +kernel) ⟨Nat.le_of_ble_eq_true rfl, Nat.le_of_ble_eq_true rfl⟩) (z_pre (Xc := ([(q28, .inr (5, [.int 0, .null, .int 0, .int 0, .int 0, .int 0, .int 0, .int 0, .int 0, .int 0, .int 0, .int 0, .int 0, .int 0, .int 0, .null, .int 0, .int 0, .int 0, .int 0]))] : va_W)) hK hE hI [0] rfl rfl) rfl rfl hl.1 rfl (lv_room (Nat.le_of_ble_eq_true rfl)) dX8_core_75 ⟨Nat.le_of_ble_eq_true rfl, Nat.le_of_ble_eq_true rfl⟩) (fun u H locs hw hI => ?_)
              obtain ⟨w36, w37, w38, w39, w40, u⟩ := u
              dsimp only at hw hI
              obtain rfl := hw
              have hI : zI D tc _ s.heap [(q28, .inr (5, [.int ((nI i6)), .ref r3, .int 1, .int 108, .int 0, .int 0, .int 0, .int 0, .int 45, .int 97, .int 0, .int 0, .int 0, .int 0, .int 0, .ref w36, .int 20, .int 0, .int 0, .int 0])), (w36, .inr (3, [.int 20, .ref w37, .ref w38])), (w37, .inr (2, [.ref w39, .int 1])), (w38, .inr (2, [.ref w40, .int 1])), (w39, .inl (tc 1, 16, .inr (.inl (vp_updL (fun _ => 0) (0 : Int32).toNatClampNeg 400)))), (w40, .inl (tc 1, 16, .inr (.inl (vp_updL (fun _ => 0) (0 : Int32).toNatClampNeg 20))))] L κ g _ _ := hI
              obtain ⟨L2, κ2, g2, hI, hx2, hk9, hf9, hl9, hA9, hB9, hd9⟩ := z_core42 (bg := 1) hr4 (Or.inr rfl) hI
              have ha41 := hx2.k hr27 (by decide)
              refine z_aast (g' := zup g2 (P 1) ((nI i6)).toNatClampNeg (.ref q28)) hM hI ha41 rfl rfl rfl hk9.1 rfl rfl (vp_in_nI (by omega) (by omega)) ⟨(zup_self _ _ _ _).symm, Or.inr ⟨_, rfl, hk9.1⟩⟩ (fun b i h => zup_ne h) dX8_core_78 (fun H locs hI => ?_)
              have hmd := z_made (i := i6) (by omega) hx2 hk9.1 ha41 (by decide)
              refine lv_iload hx hb dX8_core_79 (lv_at hl 4 rfl) ?_
              have hnul : g (P 1) i6 = .null := z_nl (by omega) (by assumption)
              have hinc : i6 = nc := hJ.1.first hno hnul (by omega)
              have hJ2 := hJ.core (by omega) hx2 hk9 hf9 hl9 hA9 hB9
              rw [nI_clamp (by omega), hinc] at hI
              refine vx_ret ?_
              exact W.iret (v := (nI i6)) hx hb hr (fun t ht hW => ⟨⟨_, (L2, κ2, zup g2 (P 1) nc (.ref q28)), rfl, ⟨_, _, _, _, hJ2, hx2.1, fun b j hb hne => (zup_ne (by by_cases h9 : b = P 1; exact Or.inr (fun e9 => hne ⟨h9, e9⟩); exact Or.inl h9)).trans (hx2.2 b j hb)⟩, z_endG hK hI ht hW⟩, z_F hI ht⟩) (z_locs hI) dX8_core_81
          · rw [hn22]
            rw [hn22] at hghv19
            refine lv_ifnonnull (tgt := 82) hx hb dX8_core_48 (by decide) ?_
            refine lv_iinc (v := nI (i6 + 1)) (lv' := [(4, .int ((nI (i6 + 1)))), (3, .ref r3), (0, .ref ((P 0))), (1, .int p1), (2, .int p2)]) hx hb dX8_core_82 hl (k := 4) rfl (z_inc i6) (by decide) rfl (fun ls hl => ?_)
            refine lv_goto (tgt := 31) hx hb dX8_core_85 (by decide) ?_
            exact ih _ _ (i6 + 1) (by first | omega | (simp only [] at *; omega)) (by first | omega | (simp only [] at *; omega)) (by first | exact fun j hj => absurd hj (Nat.not_lt_zero _) | exact z_nnul hno (by omega) (by assumption)) hI ls (lv_sub hl [1, 2, 3, 4, 0] rfl)
    exact hL31 (6 + 1) _ _ 0 (by first | omega | (simp only [] at *; omega)) (by first | omega | (simp only [] at *; omega)) (by first | exact fun j hj => absurd hj (Nat.not_lt_zero _) | exact z_nnul hno (by omega) (by assumption)) hI ls (lv_sub hl [1, 2, 3, 4, 0] rfl)
  refine lv_icmp_eq (tgt := 28) hx hb dX8_core_9 (by decide) (fun c42 => ?_) (fun c42 => ?_)
  · skip
    exact hL28 _ _ hI ls (lv_sub hl [0, 1, 2, 3] rfl)
  · skip
    refine lv_iload_n hx hb dX8_core_12 rfl (lv_at hl 3 rfl) ?_
    refine lv_bipush (v := 98) hx hb dX8_core_13 (by decide) ?_
    refine lv_icmp_eq (tgt := 28) hx hb dX8_core_15 (by decide) (fun c43 => ?_) (fun c43 => ?_)
    · skip
      exact hL28 _ _ hI ls (lv_sub hl [0, 1, 2, 3] rfl)
    · skip
      refine z_throw (ik := 71) (is := 73) (ic := 75) (cls := "java/lang/IllegalArgumentException") (text := "no such kind") (L0 := L) ["java/lang/RuntimeException", "java/lang/Exception"] (by decide) hM hE hI hnt (by decide) (by decide +kernel) (by decide +kernel) (by decide +kernel) (by decide +kernel) (by decide +kernel) (by decide +kernel) (hl.1.trans hml.symm) dX8_core_18 dX8_core_21 dX8_core_22 dX8_core_24 dX8_core_27 hout (Nat.le_of_ble_eq_true rfl) (Nat.le_of_ble_eq_true rfl) (Nat.le_of_ble_eq_true rfl) (Nat.le_of_ble_eq_true rfl) hlocks ⟨by first | exact Or.inl rfl | exact Or.inr (Or.inl rfl) | exact Or.inr (Or.inr rfl), rfl⟩ (Nat.le_of_ble_eq_true rfl) (Nat.le_of_ble_eq_true rfl)

