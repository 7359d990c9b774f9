set_option maxHeartbeats 4000000 in
set_option maxRecDepth 100000 in
theorem c_X7_init (l : Launch) (D : va_G) (tc : Nat → ClassId) (z0 : Nat) (L : List Nat) (κ : Nat → Nat) (g : Nat → Nat → Value) (sz : Nat) (p0 : Nat) (p1 : Int32) (p2 : Int32) (p3 : Int32) : Met l yX7_init wsX7_init ({ frames := 1, cells := 0, slots := 0, locals := 20 }) (zPc D tc z0 [.ref p0, .int p1, .int p2, .int p3] ([(p0, .inr (9, [.int 0, .int 0, .int 0, .int 0]))] : va_W) (L, κ, g) sz) (va_Qv (fun (u : zS) => zExt κ g u.2.1 u.2.2 ∧ u.2.1 p0 = 9) (fun (u : zS) (t : State) => zB D tc (zA ([(p0, .inr (9, [.int 0, .int 0, .int 0, .int 0]))] : va_W) L sz) [] u t) (zA ([(p0, .inr (9, [.int 0, .int 0, .int 0, .int 0]))] : va_W) L sz)) 0 0 (zA ([(p0, .inr (9, [.int 0, .int 0, .int 0, .int 0]))] : va_W) L sz) := by
  refine Met.ofW (cc := cX7_init) (maxL := 4) (ret := none) (by decide) rfl ?_
  intro p e s m args below meth c s₁ B hml hv
  obtain ⟨rfl, rfl, hK, hE, hI⟩ := hv.opn
  have hx := B.exec
  have hb := B.bytes
  have hr := B.returns
  have hts := atoms_spec (ws := wsX7_init) B.pre
  have hown : s.vm.findClass RX7 = some m.cls := findClass_of_methodNamed B.named
  have hlocks := B.notSynchronized
  have hin2 : meth.name = "<init>" := (name_of_methodNamed B.named B.method).1
  have hM : zM p s m c cX7_init _ wsX7_init RX7 D tc := ⟨hx, hb, hts, hown, hK⟩
  have hxt : zExt κ g κ g := zExt.rf
  have hinX7 : ∀ w ∈ wsX70, w ∈ wsX7_init := by decide +kernel
  have hl := lv_entry ([.ref p0, .int p1, .int p2, .int p3]) (n := 4) (Nat.le_of_ble_eq_true rfl)
  rw [lg_entry_eq]
  generalize (lg_sl ([.ref p0, .int p1, .int p2, .int p3]) ++ List.replicate (4 - (lg_sl ([.ref p0, .int p1, .int p2, .int p3])).length) Slot.unset).toArray = ls at hl ⊢
  have hl : lv_has ls 4 [(0, .ref p0), (1, .int p1), (2, .int p2), (3, .int p3)] := hl
  refine lv_aload_n hx hb dX7_init_0 rfl (lv_at hl 0 rfl) ?_
  refine W.objInit hx hb hown (hts (.methodLink RX7 1 objectInit) (by decide +kernel)) (hts (.instanceMethod objectInit) (by decide +kernel)) (hts (.code objectInit ⟨#[0xb1]⟩ 1 none) (by decide +kernel)) rfl (by rw [hml]; exact hl.1) rfl dX7_init_1 (Nat.le_of_ble_eq_true rfl) (Nat.le_of_ble_eq_true rfl) ?_
  refine W.eq (g2 := F0 m 4 ls []) rfl ?_
  refine lv_aload_n hx hb dX7_init_4 rfl (lv_at hl 0 rfl) ?_
  refine lv_iconst (v := 0) hx hb dX7_init_5 (by decide) ?_
  refine z_putX (i := 0) (j := 3) hM hI rfl hinX7 tyX7 tyX7_ok nmX7 rfl (by decide) (by decide +kernel) (fun _ h9 => h9) rfl rfl rfl rfl (Nat.le_of_ble_eq_true rfl) dX7_init_6 (fun H locs hI => ?_)
  have hI : zI D tc _ s.heap [(p0, .inr (9, [.int 0, .int 0, .int 0, .int 0]))] L κ g _ _ := hI
  refine lv_aload_n hx hb dX7_init_9 rfl (lv_at hl 0 rfl) ?_
  refine lv_iload_n hx hb dX7_init_10 rfl (lv_at hl 1 rfl) ?_
  refine z_putX (i := 0) (j := 1) hM hI rfl hinX7 tyX7 tyX7_ok nmX7 rfl (by decide) (by decide +kernel) (fun _ h9 => h9) rfl rfl rfl rfl (Nat.le_of_ble_eq_true rfl) dX7_init_11 (fun H locs hI => ?_)
  have hI : zI D tc _ s.heap [(p0, .inr (9, [.int 0, .int p1, .int 0, .int 0]))] L κ g _ _ := hI
  refine lv_aload_n hx hb dX7_init_14 rfl (lv_at hl 0 rfl) ?_
  refine lv_iload_n hx hb dX7_init_15 rfl (lv_at hl 2 rfl) ?_
  refine z_putX (i := 0) (j := 2) hM hI rfl hinX7 tyX7 tyX7_ok nmX7 rfl (by decide) (by decide +kernel) (fun _ h9 => h9) rfl rfl rfl rfl (Nat.le_of_ble_eq_true rfl) dX7_init_16 (fun H locs hI => ?_)
  have hI : zI D tc _ s.heap [(p0, .inr (9, [.int 0, .int p1, .int p2, .int 0]))] L κ g _ _ := hI
  refine lv_aload_n hx hb dX7_init_19 rfl (lv_at hl 0 rfl) ?_
  refine lv_iload_n hx hb dX7_init_20 rfl (lv_at hl 3 rfl) ?_
  refine z_putXF (i := 0) (j := 0) hM hI hin2 rfl hinX7 tyX7 tyX7_ok nmX7 rfl (by decide) (by decide +kernel) (fun _ h9 => h9) rfl rfl rfl rfl rfl (Nat.le_of_ble_eq_true rfl) dX7_init_21 (fun H locs hI => ?_)
  have hI : zI D tc _ s.heap [(p0, .inr (9, [.int p3, .int p1, .int p2, .int 0]))] L κ g _ _ := hI
  obtain ⟨L1, κ1, g1, hx2, hk1, hv2, hI⟩ := z_poolG (k := 9) (fun _ => .null) hI (by decide) (fun κ9 g9 hκ9 hκ8 hg9 => zc_O rfl (zvs_cons ⟨_, rfl⟩ rfl (zvs_cons ⟨_, rfl⟩ rfl (zvs_cons ⟨_, rfl⟩ rfl (zvs_cons ⟨_, rfl⟩ rfl zvs_nil)))))
  have hxt := hxt.tr hx2
  clear hx2
  exact W.vret hx hb hr (fun t ht hW => ⟨⟨(L1, κ1, g1), rfl, ⟨hxt, hk1⟩, z_endG hK hI ht hW⟩, z_F hI ht⟩) (z_locs hI) dX7_init_24

set_option maxHeartbeats 4000000 in
set_option maxRecDepth 100000 in
theorem c_X8_thread (l : Launch) (hnt : l.stackTraces = false) (D : va_G) (tc : Nat → ClassId) (z0 : Nat) (L : List Nat) (κ : Nat → Nat) (g : Nat → Nat → Value) (sz : Nat) (p0 : Nat) (hk0 : κ p0 = 10) (p1 : Int32) (p2 : Int32) (p3 : Int32) (aC : Nat) (hC : g p0 1 = .ref aC) (aT : Nat) (hT : g p0 2 = .ref aT) : vx_Met l yX8_thread wsX8_thread ({ frames := 7, cells := 2, slots := 12, locals := 120 }) (zPc D tc z0 [.ref p0, .int p1, .int p2, .int p3] [] (L, κ, g) sz) (va_Qi (fun (r : Int32) (u : zS) => ∃ i q : Nat, i < 8 ∧ r = nI i ∧ zHas g aC 6 p1 ∧ (1 ≤ p2 ∧ p2 ≤ 99999 ∧ 0 ≤ p3 ∧ p3 ≤ 9) ∧ (∀ j : Nat, j < i → g aT j ≠ .null) ∧ g aT i = .null ∧ u.2.1 q = 9 ∧ zExt κ (zup g aT i (.ref q)) u.2.1 u.2.2) (fun (u : zS) (t : State) => zB D tc (zA [] L sz) [] u t) (zA [] L sz)) (vx_X (fun u : zS => True) (fun (E : String) (u : zS) (t : State) => (((E = "java/lang/IndexOutOfBoundsException" ∧ ¬ zHas g aC 6 p1) ∨ (E = "java/lang/IllegalArgumentException" ∧ zHas g aC 6 p1 ∧ ¬ (1 ≤ p2 ∧ p2 ≤ 99999 ∧ 0 ≤ p3 ∧ p3 ≤ 9)) ∨ (E = "java/lang/IllegalStateException" ∧ zHas g aC 6 p1 ∧ (1 ≤ p2 ∧ p2 ≤ 99999 ∧ 0 ≤ p3 ∧ p3 ≤ 9) ∧ ∀ j : Nat, j < 8 → g aT j ≠ .null)) ∧ u = (L, κ, g)) ∧ zB D tc (zA [] L sz) [] u t) (zA [] L sz)) 2 12 (zA [] L sz) := by
  refine vx_ofW (cc := cX8_thread) (maxL := 5) (ret := (some .int)) (by decide) rfl ?_
  intro p e s m args below meth c s₁ B hml hxt hv
  obtain ⟨rfl, rfl, hK, hE, hI⟩ := hv.opn
  have hx := B.exec
  have hb := B.bytes
  have hr := B.returns
  have hts := atoms_spec (ws := wsX8_thread) B.pre
  have hown : s.vm.findClass RX8 = some m.cls := findClass_of_methodNamed B.named
  have hlocks := B.notSynchronized
  have hout : ∀ (i : Nat), ∀ x ∈ c.exceptionTable.toList, covers x i = false := fun i x hx9 => (hxt x hx9).elim
  have hM : zM p s m c cX8_thread _ wsX8_thread RX8 D tc := ⟨hx, hb, hts, hown, hK⟩
  have hinX8 : ∀ w ∈ wsX80, w ∈ wsX8_thread := by decide +kernel
  have hinX7 : ∀ w ∈ wsX70, w ∈ wsX8_thread := by decide +kernel
  have hl := lv_entry ([.ref p0, .int p1, .int p2, .int p3]) (n := 5) (Nat.le_of_ble_eq_true rfl)
  rw [lg_entry_eq]
  generalize (lg_sl ([.ref p0, .int p1, .int p2, .int p3]) ++ List.replicate (5 - (lg_sl ([.ref p0, .int p1, .int p2, .int p3])).length) Slot.unset).toArray = ls at hl ⊢
  have hl : lv_has ls 5 [(0, .ref p0), (1, .int p1), (2, .int p2), (3, .int p3)] := hl
  refine lv_aload_n hx hb dX8_thread_0 rfl (lv_at hl 0 rfl) ?_
  refine lv_iload_n hx hb dX8_thread_1 rfl (lv_at hl 1 rfl) ?_
  refine z_xq hI (vx_runV (As := [.int p1]) (rest := []) ⟨hx, hb, hml, hown, hts⟩ (c_X8_coreAt l hnt _ _ _ _ _ _ _ p0 hk0 p1 aC hC) (cwV 1 hts gX8_thread_X8_coreAt rfl rfl rfl (by decide +kernel) ⟨Nat.le_of_ble_eq_true rfl, Nat.le_of_ble_eq_true rfl⟩) (z_preV hK hE hI [] rfl rfl (z_recv hK hI hk0 rfl rfl)) rfl rfl hl.1 rfl (lv_room (Nat.le_of_ble_eq_true rfl)) dX8_thread_2 ⟨Nat.le_of_ble_eq_true rfl, Nat.le_of_ble_eq_true rfl⟩) (fun E ce q9 u H locs hw hI he1 he2 he3 => ?_) (fun v1 u H locs hw2 hI => ?_)
  · obtain ⟨hxp, rfl⟩ := hw
    exact z_pass hK hI hout hlocks he1 he2 he3 ⟨Or.inl hxp, rfl⟩ (Nat.le_of_ble_eq_true rfl) (Nat.le_of_ble_eq_true rfl)
  obtain ⟨r3, rfl, hr4, hq5, rfl⟩ := hw2
  show W p l e (headSpec wsX8_thread ({ frames := 7, cells := 2, slots := 12, locals := 120 })).room s m ([.ref p0, .int p1, .int p2, .int p3] : List Value).toArray below meth c _ _ 1 6 (vx_MQ below (va_Qi (fun (r : Int32) (u : zS) => ∃ i q : Nat, i < 8 ∧ r = nI i ∧ zHas g aC 6 p1 ∧ (1 ≤ p2 ∧ p2 ≤ 99999 ∧ 0 ≤ p3 ∧ p3 ≤ 9) ∧ (∀ j : Nat, j < i → g aT j ≠ .null) ∧ g aT i = .null ∧ u.2.1 q = 9 ∧ zExt κ (zup g aT i (.ref q)) u.2.1 u.2.2) (fun (u : zS) (t : State) => zB D tc (zA [] L s.heap.size) [] u t) (zA [] L s.heap.size)) (vx_X (fun u : zS => True) (fun (E : String) (u : zS) (t : State) => (((E = "java/lang/IndexOutOfBoundsException" ∧ ¬ zHas g aC 6 p1) ∨ (E = "java/lang/IllegalArgumentException" ∧ zHas g aC 6 p1 ∧ ¬ (1 ≤ p2 ∧ p2 ≤ 99999 ∧ 0 ≤ p3 ∧ p3 ≤ 9)) ∨ (E = "java/lang/IllegalStateException" ∧ zHas g aC 6 p1 ∧ (1 ≤ p2 ∧ p2 ≤ 99999 ∧ 0 ≤ p3 ∧ p3 ≤ 9) ∧ ∀ j : Nat, j < 8 → g aT j ≠ .null)) ∧ u = (L, κ, g)) ∧ zB D tc (zA [] L s.heap.size) [] u t) (zA [] L s.heap.size)) ([.ref p0, .int p1, .int p2, .int p3] : List Value).toArray s 2 12 (zA [] L s.heap.size)) (F0 m 5 ls (.ref r3 :: []))
  have hhas : zHas g aC 6 p1 := ⟨hq5.1, _, hq5.2⟩
  refine lv_pop hx hb dX8_thread_5 rfl ?_
  refine lv_iconst (v := 1) hx hb dX8_thread_6 (by decide) ?_
  refine lv_iload_n hx hb dX8_thread_7 rfl (lv_at hl 2 rfl) ?_
  refine lv_ldc (v := 99999) hx hb hown (hts (.constant RX8 90 (99999)) (by decide +kernel)) dX8_thread_8 ?_
  refine vp_callSi (W.runS (As := [.int 1, .int p2, .int 99999]) (rest := []) ⟨hx, hb, hml, hown, hts⟩ (c_X8_isFrom l _ _ _ _ _ _ _ 1 p2 99999) (va_cwS 3 hts gX8_thread_X8_isFrom rfl rfl rfl (by decide +kernel) ⟨Nat.le_of_ble_eq_true rfl, Nat.le_of_ble_eq_true rfl⟩) (z_pre hK hE hI [] rfl rfl) rfl rfl hl.1 rfl (lv_room (Nat.le_of_ble_eq_true rfl)) dX8_thread_10 ⟨Nat.le_of_ble_eq_true rfl, Nat.le_of_ble_eq_true rfl⟩) (fun v6 hw7 => ?_)
  have hL26 : ∀ (H : Heap) (locs : List Loc)    (hbad : ¬ (1 ≤ p2 ∧ p2 ≤ 99999 ∧ 0 ≤ p3 ∧ p3 ≤ 9)) (hI : zI D tc (zA [] L s.heap.size) s.heap [] L κ g H locs) (ls : Array Slot) (hl : lv_has ls 5 [(0, .ref p0), (1, .int p1), (2, .int p2), (3, .int p3)]), W p l e (headSpec wsX8_thread ({ frames := 7, cells := 2, slots := 12, locals := 120 })).room s m ([.ref p0, .int p1, .int p2, .int p3] : List Value).toArray below meth c H locs 1 6 (vx_MQ below (va_Qi (fun (r : Int32) (u : zS) => ∃ i q : Nat, i < 8 ∧ r = nI i ∧ zHas g aC 6 p1 ∧ (1 ≤ p2 ∧ p2 ≤ 99999 ∧ 0 ≤ p3 ∧ p3 ≤ 9) ∧ (∀ j : Nat, j < i → g aT j ≠ .null) ∧ g aT i = .null ∧ u.2.1 q = 9 ∧ zExt κ (zup g aT i (.ref q)) u.2.1 u.2.2) (fun (u : zS) (t : State) => zB D tc (zA [] L s.heap.size) [] u t) (zA [] L s.heap.size)) (vx_X (fun u : zS => True) (fun (E : String) (u : zS) (t : State) => (((E = "java/lang/IndexOutOfBoundsException" ∧ ¬ zHas g aC 6 p1) ∨ (E = "java/lang/IllegalArgumentException" ∧ zHas g aC 6 p1 ∧ ¬ (1 ≤ p2 ∧ p2 ≤ 99999 ∧ 0 ≤ p3 ∧ p3 ≤ 9)) ∨ (E = "java/lang/IllegalStateException" ∧ zHas g aC 6 p1 ∧ (1 ≤ p2 ∧ p2 ≤ 99999 ∧ 0 ≤ p3 ∧ p3 ≤ 9) ∧ ∀ j : Nat, j < 8 → g aT j ≠ .null)) ∧ u = (L, κ, g)) ∧ zB D tc (zA [] L s.heap.size) [] u t) (zA [] L s.heap.size)) ([.ref p0, .int p1, .int p2, .int p3] : List Value).toArray s 2 12 (zA [] L s.heap.size)) (F0 m 26 ls []) := by
    intro H locs hbad hI ls hl
    refine z_throw (ik := 71) (is := 95) (ic := 75) (cls := "java/lang/IllegalArgumentException") (text := "a number out of range") (L0 := L) ["java/lang/RuntimeException", "java/lang/Exception"] (by decide) hM hE hI hnt (by decide) (by decide +kernel) (by decide +kernel) (by decide +kernel) (by decide +kernel) (by decide +kernel) (by decide +kernel) (hl.1.trans hml.symm) dX8_thread_26 dX8_thread_29 dX8_thread_30 dX8_thread_32 dX8_thread_35 hout (Nat.le_of_ble_eq_true rfl) (Nat.le_of_ble_eq_true rfl) (Nat.le_of_ble_eq_true rfl) (Nat.le_of_ble_eq_true rfl) hlocks ⟨Or.inr (Or.inl ⟨rfl, hhas, hbad⟩), rfl⟩ (Nat.le_of_ble_eq_true rfl) (Nat.le_of_ble_eq_true rfl)
  refine lv_if_eq (tgt := 26) hx hb dX8_thread_13 (by decide) (fun c8 => ?_) (fun c8 => ?_)
  · skip
    exact hL26 _ _ (by first | exact fun h => z_isN (by assumption) (by assumption) ⟨h.1, h.2.1⟩ | exact fun h => z_isN (by assumption) (by assumption) ⟨h.2.2.1, h.2.2.2⟩) hI ls (lv_sub hl [0, 1, 2, 3] rfl)
  · skip
    refine lv_iconst (v := 0) hx hb dX8_thread_16 (by decide) ?_
    refine lv_iload_n hx hb dX8_thread_17 rfl (lv_at hl 3 rfl) ?_
    refine lv_bipush (v := 9) hx hb dX8_thread_18 (by decide) ?_
    refine vp_callSi (W.runS (As := [.int 0, .int p3, .int 9]) (rest := []) ⟨hx, hb, hml, hown, hts⟩ (c_X8_isFrom l _ _ _ _ _ _ _ 0 p3 9) (va_cwS 3 hts gX8_thread_X8_isFrom rfl rfl rfl (by decide +kernel) ⟨Nat.le_of_ble_eq_true rfl, Nat.le_of_ble_eq_true rfl⟩) (z_pre hK hE hI [] rfl rfl) rfl rfl hl.1 rfl (lv_room (Nat.le_of_ble_eq_true rfl)) dX8_thread_20 ⟨Nat.le_of_ble_eq_true rfl, Nat.le_of_ble_eq_true rfl⟩) (fun v9 hw10 => ?_)
    refine lv_if_ne (tgt := 36) hx hb dX8_thread_23 (by decide) (fun c11 => ?_) (fun c11 => ?_)
    · skip
      have hrg : (1 ≤ p2 ∧ p2 ≤ 99999 ∧ 0 ≤ p3 ∧ p3 ≤ 9) := ⟨(z_isF hw7 c8).1, (z_isF hw7 c8).2, (z_isF hw10 c11).1, (z_isF hw10 c11).2⟩
      refine lv_iconst (v := 0) hx hb dX8_thread_36 (by decide) ?_
      refine lv_istore (lv' := [(4, .int 0), (0, .ref p0), (1, .int p1), (2, .int p2), (3, .int p3)]) hx hb dX8_thread_37 hl (by decide) rfl (fun ls hl => ?_)
      have hL39 : ∀ (n : Nat) (H : Heap) (locs : List Loc)   (i12 : Nat) (hi : i12 ≤ 8) (hn : 8 - i12 < n)  (hno : ∀ j : Nat, j < i12 → g aT j ≠ .null) (hI : zI D tc (zA [] L s.heap.size) s.heap [] L κ g H locs) (ls : Array Slot) (hl : lv_has ls 5 [(0, .ref p0), (1, .int p1), (2, .int p2), (3, .int p3), (4, .int ((nI i12)))]), W p l e (headSpec wsX8_thread ({ frames := 7, cells := 2, slots := 12, locals := 120 })).room s m ([.ref p0, .int p1, .int p2, .int p3] : List Value).toArray below meth c H locs 1 6 (vx_MQ below (va_Qi (fun (r : Int32) (u : zS) => ∃ i q : Nat, i < 8 ∧ r = nI i ∧ zHas g aC 6 p1 ∧ (1 ≤ p2 ∧ p2 ≤ 99999 ∧ 0 ≤ p3 ∧ p3 ≤ 9) ∧ (∀ j : Nat, j < i → g aT j ≠ .null) ∧ g aT i = .null ∧ u.2.1 q = 9 ∧ zExt κ (zup g aT i (.ref q)) u.2.1 u.2.2) (fun (u : zS) (t : State) => zB D tc (zA [] L s.heap.size) [] u t) (zA [] L s.heap.size)) (vx_X (fun u : zS => True) (fun (E : String) (u : zS) (t : State) => (((E = "java/lang/IndexOutOfBoundsException" ∧ ¬ zHas g aC 6 p1) ∨ (E = "java/lang/IllegalArgumentException" ∧ zHas g aC 6 p1 ∧ ¬ (1 ≤ p2 ∧ p2 ≤ 99999 ∧ 0 ≤ p3 ∧ p3 ≤ 9)) ∨ (E = "java/lang/IllegalStateException" ∧ zHas g aC 6 p1 ∧ (1 ≤ p2 ∧ p2 ≤ 99999 ∧ 0 ≤ p3 ∧ p3 ≤ 9) ∧ ∀ j : Nat, j < 8 → g aT j ≠ .null)) ∧ u = (L, κ, g)) ∧ zB D tc (zA [] L s.heap.size) [] u t) (zA [] L s.heap.size)) ([.ref p0, .int p1, .int p2, .int p3] : List Value).toArray s 2 12 (zA [] L s.heap.size)) (F0 m 39 ls []) := by
        intro n
        induction n with
        | zero => intro H locs i12 hi hn hno hI ls hl; exact absurd hn (Nat.not_lt_zero _)
        | succ n ih =>
          intro H locs i12 hi hn hno hI ls hl
          refine lv_iload hx hb dX8_thread_39 (lv_at hl 4 rfl) ?_
          refine lv_aload_n hx hb dX8_thread_41 rfl (lv_at hl 0 rfl) ?_
          refine z_get (k := 10) (j := 2) hM hI hk0 rfl rfl hinX8 rfl (by decide) (by decide +kernel) (fun _ h9 => h9) dX8_thread_42 (fun v13 hv14 => ?_)
          obtain ⟨hg16, i15, rfl, hr17⟩ := hv14
          obtain rfl : aT = i15 := Value.ref.inj ((hT).symm.trans hg16.symm)
          refine z_alen (v := 8) hM hI hr17 rfl rfl rfl (by decide) dX8_thread_45 ?_
          refine lv_icmp_ge (tgt := 85) hx hb dX8_thread_46 (by decide) (fun c18 => ?_) (fun c18 => ?_)
          · skip
            have hgec18 : 8 ≤ i12 := z_ge (by omega) (by omega) c18
            refine z_throw (ik := 81) (is := 100) (ic := 85) (cls := "java/lang/IllegalStateException") (text := "no room for a thread") (L0 := L) ["java/lang/RuntimeException", "java/lang/Exception"] (by decide) hM hE hI hnt (by decide) (by decide +kernel) (by decide +kernel) (by decide +kernel) (by decide +kernel) (by decide +kernel) (by decide +kernel) (hl.1.trans hml.symm) dX8_thread_85 dX8_thread_88 dX8_thread_89 dX8_thread_91 dX8_thread_94 hout (Nat.le_of_ble_eq_true rfl) (Nat.le_of_ble_eq_true rfl) (Nat.le_of_ble_eq_true rfl) (Nat.le_of_ble_eq_true rfl) hlocks ⟨Or.inr (Or.inr ⟨rfl, hhas, hrg, fun j hj => hno j (by omega)⟩), rfl⟩ (Nat.le_of_ble_eq_true rfl) (Nat.le_of_ble_eq_true rfl)
          · skip
            have hltc18 : i12 < 8 := z_lt (by omega) c18
            refine lv_aload_n hx hb dX8_thread_49 rfl (lv_at hl 0 rfl) ?_
            refine z_get (k := 10) (j := 2) hM hI hk0 rfl rfl hinX8 rfl (by decide) (by decide +kernel) (fun _ h9 => h9) dX8_thread_50 (fun v19 hv20 => ?_)
            obtain ⟨hg22, i21, rfl, hr23⟩ := hv20
            obtain rfl : aT = i21 := Value.ref.inj ((hT).symm.trans hg22.symm)
            refine lv_iload hx hb dX8_thread_53 (lv_at hl 4 rfl) ?_
            refine z_aald hM hI hr23 rfl rfl rfl (vp_in_nI (by omega) (by omega)) dX8_thread_55 (fun x24 hv25 => ?_)
            obtain ⟨hghv25, hn28 | ⟨r26, hn28, hr27⟩⟩ := hv25
            · rw [hn28]
              rw [hn28] at hghv25
              refine lv_ifnonnullN hx hb dX8_thread_56 ?_
              refine lv_aload_n hx hb dX8_thread_59 rfl (lv_at hl 0 rfl) ?_
              refine z_get (k := 10) (j := 2) hM hI hk0 rfl rfl hinX8 rfl (by decide) (by decide +kernel) (fun _ h9 => h9) dX8_thread_60 (fun v29 hv30 => ?_)
              obtain ⟨hg32, i31, rfl, hr33⟩ := hv30
              obtain rfl : aT = i31 := Value.ref.inj ((hT).symm.trans hg32.symm)
              refine lv_iload hx hb dX8_thread_63 (lv_at hl 4 rfl) ?_
              refine z_new (ci := 9) (fs := [.int 0, .int 0, .int 0, .int 0]) (C := RX7) (T := TX7) (N := 4) hM hI hinX7 tyX7 tyX7_ok (by decide +kernel) (by decide +kernel) (by decide +kernel) rfl (by decide +kernel) (Nat.le_of_ble_eq_true rfl) (Nat.le_of_ble_eq_true rfl) dX8_thread_65 (fun q34 H hI => ?_)
              have hI : zI D tc _ s.heap [(q34, .inr (9, [.int 0, .int 0, .int 0, .int 0]))] L κ g _ _ := hI
              refine lv_dup hx hb dX8_thread_68 rfl ?_
              refine lv_iload_n hx hb dX8_thread_69 rfl (lv_at hl 1 rfl) ?_
              refine lv_iload_n hx hb dX8_thread_70 rfl (lv_at hl 2 rfl) ?_
              refine lv_iload_n hx hb dX8_thread_71 rfl (lv_at hl 3 rfl) ?_
              refine z_cvX (Xc := [(q34, .inr (9, [.int 0, .int 0, .int 0, .int 0]))]) (wr := []) (rx := []) [0] [] rfl rfl rfl rfl (by decide) hI (va_runI (As := [.int p1, .int p2, .int p3]) (rest := [.ref q34, .int ((nI i12)), .ref aT]) ⟨hx, hb, hml, hown, hts⟩ (c_X7_init l _ _ _ _ _ _ _ q34 p1 p2 p3) (cwI 3 hts gX8_thread_X7_init rfl rfl rfl (hts (.initialized RX7) (by decide +kernel)) (hts (.methodLink RX8 97 yX7_init) (by decide +kernel)) (hts (.instanceMethod yX7_init) (by decide +kernel)) rfl (by decide +kernel) ⟨Nat.le_of_ble_eq_true rfl, Nat.le_of_ble_eq_true rfl⟩) (z_pre (Xc := [(q34, .inr (9, [.int 0, .int 0, .int 0, .int 0]))]) hK hE hI [0] rfl rfl) rfl rfl hl.1 rfl (lv_room (Nat.le_of_ble_eq_true rfl)) dX8_thread_72 ⟨Nat.le_of_ble_eq_true rfl, Nat.le_of_ble_eq_true rfl⟩) (fun u H locs hw hI => ?_)
              obtain ⟨L2, κ2, g2⟩ := u
              obtain ⟨hx2, hk35⟩ := hw
              dsimp only at hx2 hk35
              have hI : zI D tc _ s.heap [] L2 κ2 g2 _ _ := hI
              have ha36 := hx2.k hr33 (by decide)
              refine z_aast (g' := zup g2 aT ((nI i12)).toNatClampNeg (.ref q34)) hM hI ha36 rfl rfl rfl hk35 rfl rfl (vp_in_nI (by omega) (by omega)) ⟨(zup_self _ _ _ _).symm, Or.inr ⟨_, rfl, hk35⟩⟩ (fun b i h => zup_ne h) dX8_thread_75 (fun H locs hI => ?_)
              have hmd := z_made (i := i12) (by omega) hx2 hk35 ha36 (by decide)
              refine lv_iload hx hb dX8_thread_76 (lv_at hl 4 rfl) ?_
              refine vx_ret ?_
              refine W.widen (k := 2) (n := 12) (Nat.le_of_ble_eq_true rfl) (Nat.le_of_ble_eq_true rfl) ?_
              exact W.iret (v := (nI i12)) hx hb hr (fun t ht hW => ⟨⟨_, (L2, κ2, zup g2 aT ((nI i12)).toNatClampNeg (.ref q34)), rfl, ⟨i12, q34, by omega, rfl, hhas, hrg, hno, z_nl (by omega) (by assumption), hk35, hmd.1⟩, z_endG hK hI ht hW⟩, z_F hI ht⟩) (z_locs hI) dX8_thread_78
            · rw [hn28]
              rw [hn28] at hghv25
              refine lv_ifnonnull (tgt := 79) hx hb dX8_thread_56 (by decide) ?_
              refine lv_iinc (v := nI (i12 + 1)) (lv' := [(4, .int ((nI (i12 + 1)))), (0, .ref p0), (1, .int p1), (2, .int p2), (3, .int p3)]) hx hb dX8_thread_79 hl (k := 4) rfl (z_inc i12) (by decide) rfl (fun ls hl => ?_)
              refine lv_goto (tgt := 39) hx hb dX8_thread_82 (by decide) ?_
              exact ih _ _ (i12 + 1) (by first | omega | (simp only [] at *; omega)) (by first | omega | (simp only [] at *; omega)) (by first | exact fun j hj => absurd hj (Nat.not_lt_zero _) | exact z_nnul hno (by omega) (by assumption)) hI ls (lv_sub hl [1, 2, 3, 4, 0] rfl)
      exact hL39 (8 + 1) _ _ 0 (by first | omega | (simp only [] at *; omega)) (by first | omega | (simp only [] at *; omega)) (by first | exact fun j hj => absurd hj (Nat.not_lt_zero _) | exact z_nnul hno (by omega) (by assumption)) hI ls (lv_sub hl [1, 2, 3, 4, 0] rfl)
    · skip
      exact hL26 _ _ (by first | exact fun h => z_isN (by assumption) (by assumption) ⟨h.1, h.2.1⟩ | exact fun h => z_isN (by assumption) (by assumption) ⟨h.2.2.1, h.2.2.2⟩) hI ls (lv_sub hl [0, 1, 2, 3] rfl)
