set_option maxHeartbeats 4000000 in
set_option maxRecDepth 100000 in
theorem c_J9_floorMod_7cf53 (l : Launch) (D : va_G) (tc : Nat → ClassId) (z0 : Nat) (L : List Nat) (κ : Nat → Nat) (g : Nat → Nat → Value) (sz : Nat) (p0 : Int32) (p1 : Int32) (h0 : ¬ p1 = 0) : Met l yJ9_floorMod_7cf53 wsJ9_floorMod_7cf53 ({ frames := 0, cells := 0, slots := 0, locals := 0 }) (zPc D tc z0 [.int p0, .int p1] [] (L, κ, g) sz) (vp_Si (fun r : Int32 => True)) 0 0 (fun _ => False) := by
  refine va_MetF (cc := cJ9_floorMod_7cf53) (maxL := 3) (ret := (some .int)) (by decide +kernel) rfl ?_
  intro p e9 s m args below meth c s₁ B hml hv
  obtain ⟨rfl, rfl, hK, hE, hI⟩ := hv.opn
  have hx := B.exec
  have hb := B.bytes
  have hr := B.returns
  have hts := atoms_spec (ws := wsJ9_floorMod_7cf53) B.pre
  have hown : s.vm.findClass RJ9 = some m.cls := findClass_of_methodNamed B.named
  have hlocks := B.notSynchronized
  have hM : zM p s m c cJ9_floorMod_7cf53 _ wsJ9_floorMod_7cf53 RJ9 D tc := ⟨hx, hb, hts, hown, hK⟩
  skip
  have hl := lv_entry ([.int p0, .int p1]) (n := 3) (Nat.le_of_ble_eq_true rfl)
  rw [lg_entry_eq]
  generalize (lg_sl ([.int p0, .int p1]) ++ List.replicate (3 - (lg_sl ([.int p0, .int p1])).length) Slot.unset).toArray = ls at hl ⊢
  have hl : lv_has ls 3 [(0, .int p0), (1, .int p1)] := hl
  refine lv_iload_n hx hb dJ9_floorMod_7cf53_0 rfl (lv_at hl 0 rfl) ?_
  refine lv_iload_n hx hb dJ9_floorMod_7cf53_1 rfl (lv_at hl 1 rfl) ?_
  refine lv_irem hx hb dJ9_floorMod_7cf53_2 h0 ?_
  refine lv_topi (fun v1 e2 => ?_)
  refine lv_istore_n (lv' := [(2, .int v1), (0, .int p0), (1, .int p1)]) hx hb dJ9_floorMod_7cf53_3 rfl hl (by decide) rfl (fun ls hl => ?_)
  refine lv_iload_n hx hb dJ9_floorMod_7cf53_4 rfl (lv_at hl 1 rfl) ?_
  refine lv_iload_n hx hb dJ9_floorMod_7cf53_5 rfl (lv_at hl 2 rfl) ?_
  refine lv_ixor hx hb dJ9_floorMod_7cf53_6 ?_
  refine lv_topi (fun v3 e4 => ?_)
  refine lv_if_ge (tgt := 18) hx hb dJ9_floorMod_7cf53_7 (by decide) (fun c5 => ?_) (fun c5 => ?_)
  · skip
    refine lv_iload_n hx hb dJ9_floorMod_7cf53_18 rfl (lv_at hl 0 rfl) ?_
    exact W.iret (v := v1) hx hb hr (fun t ht hW => ⟨_, rfl, trivial, ht⟩) (fun q h => by cases h) dJ9_floorMod_7cf53_19
  · skip
    refine lv_iload_n hx hb dJ9_floorMod_7cf53_10 rfl (lv_at hl 0 rfl) ?_
    refine lv_if_eq (tgt := 18) hx hb dJ9_floorMod_7cf53_11 (by decide) (fun c6 => ?_) (fun c6 => ?_)
    · skip
      refine lv_iload_n hx hb dJ9_floorMod_7cf53_18 rfl (lv_at hl 0 rfl) ?_
      exact W.iret (v := v1) hx hb hr (fun t ht hW => ⟨_, rfl, trivial, ht⟩) (fun q h => by cases h) dJ9_floorMod_7cf53_19
    · skip
      refine lv_iload_n hx hb dJ9_floorMod_7cf53_14 rfl (lv_at hl 0 rfl) ?_
      refine lv_iload_n hx hb dJ9_floorMod_7cf53_15 rfl (lv_at hl 2 rfl) ?_
      refine lv_iadd hx hb dJ9_floorMod_7cf53_16 ?_
      refine lv_topi (fun v7 e8 => ?_)
      exact W.iret (v := v7) hx hb hr (fun t ht hW => ⟨_, rfl, trivial, ht⟩) (fun q h => by cases h) dJ9_floorMod_7cf53_17

set_option maxHeartbeats 4000000 in
set_option maxRecDepth 100000 in
theorem c_X11_wishes (l : Launch) (D : va_G) (tc : Nat → ClassId) (z0 : Nat) (L : List Nat) (κ : Nat → Nat) (g : Nat → Nat → Value) (sz : Nat) (p0 : Nat) (hk0 : κ p0 = 13) (lc eC nC : Nat) (mC : Int32) (cf : Nat → Nat) (lt eT nT : Nat) (mT : Int32) (tf : Nat → Nat) (hMo : zMo κ g z0 p0 lc eC nC mC cf lt eT nT mT tf) : Met l yX11_wishes wsX11_wishes ({ frames := 4, cells := 8, slots := 46, locals := 85 }) (zPc D tc z0 [.ref p0] [] (L, κ, g) sz) (va_Qv (fun (u : zS) => u = (L, κ, g)) (fun (u : zS) (t : State) => zB D tc (zA [] L sz) [] u t) (zA [] L sz)) 8 46 (zA [] L sz) := by
  refine Met.ofW (cc := cX11_wishes) (maxL := 6) (ret := none) (by decide) rfl ?_
  intro p e9 s m args below meth c s₁ B hml hv
  obtain ⟨rfl, rfl, hK, hE, hI⟩ := hv.opn
  have hx := B.exec
  have hb := B.bytes
  have hr := B.returns
  have hts := atoms_spec (ws := wsX11_wishes) B.pre
  have hown : s.vm.findClass RX11 = some m.cls := findClass_of_methodNamed B.named
  have hlocks := B.notSynchronized
  have hM : zM p s m c cX11_wishes _ wsX11_wishes RX11 D tc := ⟨hx, hb, hts, hown, hK⟩
  have hinX11 : ∀ w ∈ wsX110, w ∈ wsX11_wishes := by decide +kernel
  have hinX9 : ∀ w ∈ wsX90, w ∈ wsX11_wishes := by decide +kernel
  have hnC := hMo.bC
  have hnT := hMo.bT
  have hl := lv_entry ([.ref p0]) (n := 6) (Nat.le_of_ble_eq_true rfl)
  rw [lg_entry_eq]
  generalize (lg_sl ([.ref p0]) ++ List.replicate (6 - (lg_sl ([.ref p0])).length) Slot.unset).toArray = ls at hl ⊢
  have hl : lv_has ls 6 [(0, .ref p0)] := hl
  refine lv_aload_n hx hb dX11_wishes_0 rfl (lv_at hl 0 rfl) ?_
  refine z_get (k := 13) (j := 0) hM hI hk0 rfl rfl hinX11 rfl (by decide) (by decide +kernel) (fun _ h9 => h9) dX11_wishes_1 (fun v1 hv2 => ?_)
  obtain ⟨hg4, i3, rfl, hr5⟩ := hv2
  obtain rfl : lc = i3 := Value.ref.inj (hMo.gc.symm.trans hg4.symm)
  refine z_qFX (sel := fun u : Nat × zS => u.2) (rxf := fun u : Nat × zS => [(u.1, .inr (0, [.int (nI 0), .int (-1), .int mC, .ref lc]))]) (Xc := []) (wr := []) [] [] rfl rfl rfl rfl (by decide) hI (va_runF (As := []) (rest := []) (hK.1 1 _ rfl).2 ⟨hx, hb, hml, hown, hts⟩ (c_Jx4a65c_iterator_32c93 l D tc z0 _ κ g _ lc 1 eC 25 11 nC mC cf rfl hMo.LC) (va_cwF 0 hts gX11_wishes_Jx4a65c_iterator_32c93_f56Jx4a65c rfl rfl rfl (hE.2.2.1 (RJx4a65c, ⟨"java/util/List", "iterator", "()Ljava/util/Iterator;"⟩, yJx4a65c_iterator_32c93) (by decide +kernel)) (by decide +kernel) ⟨Nat.le_of_ble_eq_true rfl, Nat.le_of_ble_eq_true rfl⟩) (z_preV (Xc := []) hK hE hI [] rfl rfl (z_recv hK hI hMo.LC.1 rfl rfl)) rfl rfl hl.1 rfl (lv_room (Nat.le_of_ble_eq_true rfl)) dX11_wishes_4 ⟨(Nat.le_of_ble_eq_true rfl), (Nat.le_of_ble_eq_true rfl)⟩) (fun _ u H locs hw7 hI => ?_)
  obtain ⟨q6, u⟩ := u
  obtain ⟨rfl, hw7⟩ := hw7
  dsimp only at hw7 hI
  subst hw7
  have hI : zI D tc _ s.heap [(q6, .inr (0, [.int (nI 0), .int (-1), .int mC, .ref lc]))] L κ g _ _ := hI
  show W p l e9 (headSpec wsX11_wishes ({ frames := 4, cells := 8, slots := 46, locals := 85 })).room s m ([.ref p0] : List Value).toArray below meth c _ _ 1 4 (MQ below (va_Qv (fun (u : zS) => u = (L, κ, g)) (fun (u : zS) (t : State) => zB D tc (zA [] L s.heap.size) [] u t) (zA [] L s.heap.size)) ([.ref p0] : List Value).toArray s 8 46 (zA [] L s.heap.size)) (F0 m 9 ls (.ref q6 :: []))
  refine lv_astore_n (lv' := [(1, .ref q6), (0, .ref p0)]) hx hb dX11_wishes_9 rfl hl (by decide) rfl (fun ls hl => ?_)
  have hL10 : ∀ (n : Nat) (H : Heap) (locs : List Loc)   (i8 : Nat) (hi : i8 ≤ nC) (hn : nC - i8 < n) (lr9 : Int32)  (hI : zI D tc (zA [] L s.heap.size) s.heap [(q6, .inr (0, [.int (nI i8), .int lr9, .int mC, .ref lc]))] L κ g H locs) (ls : Array Slot) (hl : lv_has ls 6 [(0, .ref p0), (1, .ref q6)]), W p l e9 (headSpec wsX11_wishes ({ frames := 4, cells := 8, slots := 46, locals := 85 })).room s m ([.ref p0] : List Value).toArray below meth c H locs (1 + 1 * i8) (4 + 6 * i8) (MQ below (va_Qv (fun (u : zS) => u = (L, κ, g)) (fun (u : zS) (t : State) => zB D tc (zA [] L s.heap.size) [] u t) (zA [] L s.heap.size)) ([.ref p0] : List Value).toArray s 8 46 (zA [] L s.heap.size)) (F0 m 10 ls []) := by
    intro n
    induction n with
    | zero => intro H locs i8 hi hn lr9 hI ls hl; exact absurd hn (Nat.not_lt_zero _)
    | succ n ih10 =>
      intro H locs i8 hi hn lr9 hI ls hl
      refine lv_aload_n hx hb dX11_wishes_10 rfl (lv_at hl 1 rfl) ?_
      refine va_csFi (va_runF (As := []) (rest := []) (hK.1 0 _ rfl).2 ⟨hx, hb, hml, hown, hts⟩ (c_Jx35411_hasNext_aae02 l D tc z0 _ κ g _ lc 1 eC 25 11 nC mC cf rfl hMo.LC q6 i8 lr9 (by omega)) (va_cwF 0 hts gX11_wishes_Jx35411_hasNext_aae02_f60Jx35411 rfl rfl rfl (hE.2.2.1 (RJx35411, ⟨"java/util/Iterator", "hasNext", "()Z"⟩, yJx35411_hasNext_aae02) (by decide +kernel)) (by decide +kernel) ⟨Nat.le_of_ble_eq_true rfl, Nat.le_of_ble_eq_true rfl⟩) (z_preV (Xc := [(q6, .inr (0, [.int (nI i8), .int lr9, .int mC, .ref lc]))]) hK hE hI [0] rfl rfl (z_recvX hK hI (i := 0) rfl rfl)) rfl rfl hl.1 rfl (lv_room (Nat.le_of_ble_eq_true rfl)) dX11_wishes_11 ⟨(show (1 + 1 * i8) + 0 ≤ 8 from by omega), (show (4 + 6 * i8) + 0 ≤ 46 from by omega)⟩) (fun v11 hw10 => ?_)
      rcases hw10 with ⟨rfl, hlt12⟩ | ⟨rfl, hlt12⟩
      · skip
        refine lv_if_eq (tgt := 240) hx hb dX11_wishes_16 (by decide) (fun h9 => by first | exact absurd h9 (by decide) | exact absurd (by decide) h9) (fun _ => ?_)
        refine lv_aload_n hx hb dX11_wishes_19 rfl (lv_at hl 1 rfl) ?_
        refine z_qFX (sel := fun u : zS => u) (rxf := fun _ => [(q6, .inr (0, [.int (nI ((i8 + 1))), .int ((nI i8)), .int mC, .ref lc]))]) (Xc := [(q6, .inr (0, [.int (nI i8), .int lr9, .int mC, .ref lc]))]) (wr := []) [0] [] rfl rfl rfl rfl (by decide) hI (va_runF (As := []) (rest := []) (hK.1 0 _ rfl).2 ⟨hx, hb, hml, hown, hts⟩ (c_Jx35411_next_0502b l D tc z0 _ κ g _ lc 1 eC 25 11 nC mC cf rfl hMo.LC rfl rfl q6 i8 lr9 (by omega)) (va_cwF 0 hts gX11_wishes_Jx35411_next_0502b_f66Jx35411 rfl rfl rfl (hE.2.2.1 (RJx35411, ⟨"java/util/Iterator", "next", "()Ljava/lang/Object;"⟩, yJx35411_next_0502b) (by decide +kernel)) (by decide +kernel) ⟨Nat.le_of_ble_eq_true rfl, Nat.le_of_ble_eq_true rfl⟩) (z_preV (Xc := [(q6, .inr (0, [.int (nI i8), .int lr9, .int mC, .ref lc]))]) hK hE hI [0] rfl rfl (z_recvX hK hI (i := 0) rfl rfl)) rfl rfl hl.1 rfl (lv_room (Nat.le_of_ble_eq_true rfl)) dX11_wishes_20 ⟨(show (1 + 1 * i8) + 0 ≤ 8 from by omega), (show (4 + 6 * i8) + 0 ≤ 46 from by omega)⟩) (fun v14 u H locs hw13 hI => ?_)
        obtain ⟨rfl, rfl⟩ := hw13
        have hI : zI D tc _ s.heap [(q6, .inr (0, [.int (nI ((i8 + 1))), .int ((nI i8)), .int mC, .ref lc]))] L κ g _ _ := hI
        have hr15 : κ (cf i8) = 11 := hMo.LC.el (i := i8) (by omega)
        show W p l e9 (headSpec wsX11_wishes ({ frames := 4, cells := 8, slots := 46, locals := 85 })).room s m ([.ref p0] : List Value).toArray below meth c _ _ _ _ (MQ below (va_Qv (fun (u : zS) => u = (L, κ, g)) (fun (u : zS) (t : State) => zB D tc (zA [] L s.heap.size) [] u t) (zA [] L s.heap.size)) ([.ref p0] : List Value).toArray s 8 46 (zA [] L s.heap.size)) (F0 m 25 ls (.ref (cf i8) :: []))
        refine W.widen (k := (1 + 1 * i8)) (n := (4 + 6 * i8)) (Nat.le_refl _) (Nat.le_refl _) ?_
        refine z_castS (k := 11) hM hI hr15 rfl rfl (by decide +kernel) dX11_wishes_25 ?_
        refine lv_astore_n (lv' := [(2, .ref ((cf i8))), (0, .ref p0), (1, .ref q6)]) hx hb dX11_wishes_28 rfl hl (by decide) rfl (fun ls hl => ?_)
        refine lv_bipush (v := 6) hx hb dX11_wishes_29 (by decide) ?_
        refine z_newa (ty := .int) (ti := 0) (n := 6) hM hI (by decide +kernel) rfl rfl (by intro C h; cases h) (6, .inl (fun _ => 0)) (fun cA => rfl) (by decide) (by decide) (by decide) (show (1 + 1 * i8) + 1 ≤ 8 from by omega) (show (4 + 6 * i8) + 6 ≤ 46 from by omega) dX11_wishes_31 (fun q16 H hI => ?_)
        have hI : zI D tc _ s.heap [(q6, .inr (0, [.int (nI ((i8 + 1))), .int ((nI i8)), .int mC, .ref lc])), (q16, .inl (tc 0, 6, .inl ((fun _ => 0))))] L κ g _ _ := hI
        refine W.widen (k := (2 + 1 * i8)) (n := (10 + 6 * i8)) (by omega) (by omega) ?_
        refine lv_dup hx hb dX11_wishes_33 rfl ?_
        refine lv_iconst (v := 0) hx hb dX11_wishes_34 (by decide) ?_
        refine lv_aload_n hx hb dX11_wishes_35 rfl (lv_at hl 0 rfl) ?_
        refine vp_callSi (va_Run.run (va_runVN (As := []) (rest := [.int 0, .ref q16, .ref q16]) ⟨hx, hb, hml, hown, hts⟩ (c_X9_isRetired l D tc z0 _ κ g _ ((cf i8)) hr15) ⟨va_cnB 0 hts gX11_wishes_X9_isRetired_n208 rfl rfl rfl (hE.1 (.methodLinkNest RX11 208 yX9_isRetired "WattgovernModel") (by decide +kernel) rfl) (hts (.initialized yX9_isRetired.cls) (by decide +kernel)) (by decide +kernel) ⟨Nat.le_of_ble_eq_true rfl, Nat.le_of_ble_eq_true rfl⟩, hts (.instanceMethod yX9_isRetired) (by decide +kernel), hts (.selects RX9 yX9_isRetired yX9_isRetired) (by decide +kernel)⟩ (z_preV (Xc := []) hK hE hI [] rfl rfl (z_recv hK hI hr15 rfl rfl)) rfl rfl hl.1 rfl (lv_room (Nat.le_of_ble_eq_true rfl)) dX11_wishes_36 ⟨(show (2 + 1 * i8) + 0 ≤ 8 from by omega), (show (10 + 6 * i8) + 0 ≤ 46 from by omega)⟩)) (fun v17 hw18 => ?_)
        have hL48 : ∀ (H : Heap) (locs : List Loc) (y19 : Int32)  (a20 : Nat → Int32)  (hI : zI D tc (zA [] L s.heap.size) s.heap [(q6, .inr (0, [.int (nI ((i8 + 1))), .int ((nI i8)), .int mC, .ref lc])), (q16, .inl (tc 0, 6, .inl a20))] L κ g H locs) (ls : Array Slot) (hl : lv_has ls 6 [(0, .ref p0), (1, .ref q6), (2, .ref ((cf i8)))]), W p l e9 (headSpec wsX11_wishes ({ frames := 4, cells := 8, slots := 46, locals := 85 })).room s m ([.ref p0] : List Value).toArray below meth c H locs (2 + 1 * i8) (10 + 6 * i8) (MQ below (va_Qv (fun (u : zS) => u = (L, κ, g)) (fun (u : zS) (t : State) => zB D tc (zA [] L s.heap.size) [] u t) (zA [] L s.heap.size)) ([.ref p0] : List Value).toArray s 8 46 (zA [] L s.heap.size)) (F0 m 48 ls [.int y19, .int 0, .ref q16, .ref q16]) := by
          intro H locs y19 a20 hI ls hl
          refine z_iastX (i := 1) hM hI rfl (vp_in_c 0 6 (by decide)) dX11_wishes_48 (fun a21 H locs hI => ?_)
          have hI : zI D tc _ s.heap [(q6, .inr (0, [.int (nI ((i8 + 1))), .int ((nI i8)), .int mC, .ref lc])), (q16, .inl (tc 0, 6, .inl a21))] L κ g _ _ := hI
          refine lv_dup hx hb dX11_wishes_49 rfl ?_
          refine lv_iconst (v := 1) hx hb dX11_wishes_50 (by decide) ?_
          refine lv_aload_n hx hb dX11_wishes_51 rfl (lv_at hl 2 rfl) ?_
          refine z_getN (host := "WattgovernModel") (k := 11) (j := 16) hM hE hI hr15 rfl rfl hinX9 rfl (by decide) (by decide +kernel) (fun _ h9 => h9) dX11_wishes_52 (fun v22 hv23 => ?_)
          obtain ⟨i24, rfl, hz25⟩ := zv_b hv23
          have hL64 : ∀ (H : Heap) (locs : List Loc) (y26 : Int32)  (a27 : Nat → Int32)  (hI : zI D tc (zA [] L s.heap.size) s.heap [(q6, .inr (0, [.int (nI ((i8 + 1))), .int ((nI i8)), .int mC, .ref lc])), (q16, .inl (tc 0, 6, .inl a27))] L κ g H locs) (ls : Array Slot) (hl : lv_has ls 6 [(0, .ref p0), (1, .ref q6), (2, .ref ((cf i8)))]), W p l e9 (headSpec wsX11_wishes ({ frames := 4, cells := 8, slots := 46, locals := 85 })).room s m ([.ref p0] : List Value).toArray below meth c H locs (2 + 1 * i8) (10 + 6 * i8) (MQ below (va_Qv (fun (u : zS) => u = (L, κ, g)) (fun (u : zS) (t : State) => zB D tc (zA [] L s.heap.size) [] u t) (zA [] L s.heap.size)) ([.ref p0] : List Value).toArray s 8 46 (zA [] L s.heap.size)) (F0 m 64 ls [.int y26, .int 1, .ref q16, .ref q16]) := by
            intro H locs y26 a27 hI ls hl
            refine z_iastX (i := 1) hM hI rfl (vp_in_c 1 6 (by decide)) dX11_wishes_64 (fun a28 H locs hI => ?_)
            have hI : zI D tc _ s.heap [(q6, .inr (0, [.int (nI ((i8 + 1))), .int ((nI i8)), .int mC, .ref lc])), (q16, .inl (tc 0, 6, .inl a28))] L κ g _ _ := hI
            refine lv_dup hx hb dX11_wishes_65 rfl ?_
            refine lv_iconst (v := 2) hx hb dX11_wishes_66 (by decide) ?_
            refine lv_aload_n hx hb dX11_wishes_67 rfl (lv_at hl 0 rfl) ?_
            refine z_get (k := 13) (j := 11) hM hI hk0 rfl rfl hinX11 rfl (by decide) (by decide +kernel) (fun _ h9 => h9) dX11_wishes_68 (fun v29 hv30 => ?_)
            obtain ⟨i31, rfl⟩ := hv30
            have hL80 : ∀ (H : Heap) (locs : List Loc) (y32 : Int32)  (a33 : Nat → Int32)  (hI : zI D tc (zA [] L s.heap.size) s.heap [(q6, .inr (0, [.int (nI ((i8 + 1))), .int ((nI i8)), .int mC, .ref lc])), (q16, .inl (tc 0, 6, .inl a33))] L κ g H locs) (ls : Array Slot) (hl : lv_has ls 6 [(0, .ref p0), (1, .ref q6), (2, .ref ((cf i8)))]), W p l e9 (headSpec wsX11_wishes ({ frames := 4, cells := 8, slots := 46, locals := 85 })).room s m ([.ref p0] : List Value).toArray below meth c H locs (2 + 1 * i8) (10 + 6 * i8) (MQ below (va_Qv (fun (u : zS) => u = (L, κ, g)) (fun (u : zS) (t : State) => zB D tc (zA [] L s.heap.size) [] u t) (zA [] L s.heap.size)) ([.ref p0] : List Value).toArray s 8 46 (zA [] L s.heap.size)) (F0 m 80 ls [.int y32, .int 2, .ref q16, .ref q16]) := by
              intro H locs y32 a33 hI ls hl
              refine z_iastX (i := 1) hM hI rfl (vp_in_c 2 6 (by decide)) dX11_wishes_80 (fun a34 H locs hI => ?_)
              have hI : zI D tc _ s.heap [(q6, .inr (0, [.int (nI ((i8 + 1))), .int ((nI i8)), .int mC, .ref lc])), (q16, .inl (tc 0, 6, .inl a34))] L κ g _ _ := hI
              refine lv_dup hx hb dX11_wishes_81 rfl ?_
              refine lv_iconst (v := 3) hx hb dX11_wishes_82 (by decide) ?_
              refine lv_aload_n hx hb dX11_wishes_83 rfl (lv_at hl 2 rfl) ?_
              refine z_getN (host := "WattgovernModel") (k := 11) (j := 15) hM hE hI hr15 rfl rfl hinX9 rfl (by decide) (by decide +kernel) (fun _ h9 => h9) dX11_wishes_84 (fun v35 hv36 => ?_)
              obtain ⟨hg38, i37, rfl, hz39⟩ := zv_tb hv36
              have hL96 : ∀ (H : Heap) (locs : List Loc) (y40 : Int32)  (a41 : Nat → Int32)  (hI : zI D tc (zA [] L s.heap.size) s.heap [(q6, .inr (0, [.int (nI ((i8 + 1))), .int ((nI i8)), .int mC, .ref lc])), (q16, .inl (tc 0, 6, .inl a41))] L κ g H locs) (ls : Array Slot) (hl : lv_has ls 6 [(0, .ref p0), (1, .ref q6), (2, .ref ((cf i8)))]), W p l e9 (headSpec wsX11_wishes ({ frames := 4, cells := 8, slots := 46, locals := 85 })).room s m ([.ref p0] : List Value).toArray below meth c H locs (2 + 1 * i8) (10 + 6 * i8) (MQ below (va_Qv (fun (u : zS) => u = (L, κ, g)) (fun (u : zS) (t : State) => zB D tc (zA [] L s.heap.size) [] u t) (zA [] L s.heap.size)) ([.ref p0] : List Value).toArray s 8 46 (zA [] L s.heap.size)) (F0 m 96 ls [.int y40, .int 3, .ref q16, .ref q16]) := by
                intro H locs y40 a41 hI ls hl
                refine z_iastX (i := 1) hM hI rfl (vp_in_c 3 6 (by decide)) dX11_wishes_96 (fun a42 H locs hI => ?_)
                have hI : zI D tc _ s.heap [(q6, .inr (0, [.int (nI ((i8 + 1))), .int ((nI i8)), .int mC, .ref lc])), (q16, .inl (tc 0, 6, .inl a42))] L κ g _ _ := hI
                refine lv_dup hx hb dX11_wishes_97 rfl ?_
                refine lv_iconst (v := 4) hx hb dX11_wishes_98 (by decide) ?_
                refine lv_aload_n hx hb dX11_wishes_99 rfl (lv_at hl 0 rfl) ?_
                refine z_get (k := 13) (j := 9) hM hI hk0 rfl rfl hinX11 rfl (by decide) (by decide +kernel) (fun _ h9 => h9) dX11_wishes_100 (fun v43 hv44 => ?_)
                obtain ⟨i45, rfl⟩ := hv44
                have hL112 : ∀ (H : Heap) (locs : List Loc) (y46 : Int32)  (a47 : Nat → Int32)  (hI : zI D tc (zA [] L s.heap.size) s.heap [(q6, .inr (0, [.int (nI ((i8 + 1))), .int ((nI i8)), .int mC, .ref lc])), (q16, .inl (tc 0, 6, .inl a47))] L κ g H locs) (ls : Array Slot) (hl : lv_has ls 6 [(0, .ref p0), (1, .ref q6), (2, .ref ((cf i8)))]), W p l e9 (headSpec wsX11_wishes ({ frames := 4, cells := 8, slots := 46, locals := 85 })).room s m ([.ref p0] : List Value).toArray below meth c H locs (2 + 1 * i8) (10 + 6 * i8) (MQ below (va_Qv (fun (u : zS) => u = (L, κ, g)) (fun (u : zS) (t : State) => zB D tc (zA [] L s.heap.size) [] u t) (zA [] L s.heap.size)) ([.ref p0] : List Value).toArray s 8 46 (zA [] L s.heap.size)) (F0 m 112 ls [.int y46, .int 4, .ref q16, .ref q16]) := by
                  intro H locs y46 a47 hI ls hl
                  refine z_iastX (i := 1) hM hI rfl (vp_in_c 4 6 (by decide)) dX11_wishes_112 (fun a48 H locs hI => ?_)
                  have hI : zI D tc _ s.heap [(q6, .inr (0, [.int (nI ((i8 + 1))), .int ((nI i8)), .int mC, .ref lc])), (q16, .inl (tc 0, 6, .inl a48))] L κ g _ _ := hI
                  refine lv_dup hx hb dX11_wishes_113 rfl ?_
                  refine lv_iconst (v := 5) hx hb dX11_wishes_114 (by decide) ?_
                  refine lv_aload_n hx hb dX11_wishes_115 rfl (lv_at hl 0 rfl) ?_
                  refine z_get (k := 13) (j := 14) hM hI hk0 rfl rfl hinX11 rfl (by decide) (by decide +kernel) (fun _ h9 => h9) dX11_wishes_116 (fun v49 hv50 => ?_)
                  obtain ⟨hg52, i51, rfl⟩ := hv50
                  have hL131 : ∀ (H : Heap) (locs : List Loc) (y53 : Int32)  (a54 : Nat → Int32)  (hI : zI D tc (zA [] L s.heap.size) s.heap [(q6, .inr (0, [.int (nI ((i8 + 1))), .int ((nI i8)), .int mC, .ref lc])), (q16, .inl (tc 0, 6, .inl a54))] L κ g H locs) (ls : Array Slot) (hl : lv_has ls 6 [(0, .ref p0), (1, .ref q6), (2, .ref ((cf i8)))]), W p l e9 (headSpec wsX11_wishes ({ frames := 4, cells := 8, slots := 46, locals := 85 })).room s m ([.ref p0] : List Value).toArray below meth c H locs (2 + 1 * i8) (10 + 6 * i8) (MQ below (va_Qv (fun (u : zS) => u = (L, κ, g)) (fun (u : zS) (t : State) => zB D tc (zA [] L s.heap.size) [] u t) (zA [] L s.heap.size)) ([.ref p0] : List Value).toArray s 8 46 (zA [] L s.heap.size)) (F0 m 131 ls [.int y53, .int 5, .ref q16, .ref q16]) := by
                    intro H locs y53 a54 hI ls hl
                    refine z_iastX (i := 1) hM hI rfl (vp_in_c 5 6 (by decide)) dX11_wishes_131 (fun a55 H locs hI => ?_)
                    have hI : zI D tc _ s.heap [(q6, .inr (0, [.int (nI ((i8 + 1))), .int ((nI i8)), .int mC, .ref lc])), (q16, .inl (tc 0, 6, .inl a55))] L κ g _ _ := hI
                    refine lv_astore_n (lv' := [(3, .ref q16), (0, .ref p0), (1, .ref q6), (2, .ref ((cf i8)))]) hx hb dX11_wishes_132 rfl hl (by decide) rfl (fun ls hl => ?_)
                    refine lv_bipush (v := 9) hx hb dX11_wishes_133 (by decide) ?_
                    refine lv_istore (lv' := [(4, .int 9), (3, .ref q16), (0, .ref p0), (1, .ref q6), (2, .ref ((cf i8)))]) hx hb dX11_wishes_135 hl (by decide) rfl (fun ls hl => ?_)
                    refine lv_iconst (v := 5) hx hb dX11_wishes_137 (by decide) ?_
                    refine lv_istore (lv' := [(5, .int 5), (4, .int 9), (3, .ref q16), (0, .ref p0), (1, .ref q6), (2, .ref ((cf i8)))]) hx hb dX11_wishes_138 hl (by decide) rfl (fun ls hl => ?_)
                    have hL140 : ∀ (n : Nat) (H : Heap) (locs : List Loc) (x56 : Int32)  (i57 : Nat) (hi : i57 ≤ 6) (hn : i57 < n) (a58 : Nat → Int32)  (hI : zI D tc (zA [] L s.heap.size) s.heap [(q6, .inr (0, [.int (nI ((i8 + 1))), .int ((nI i8)), .int mC, .ref lc])), (q16, .inl (tc 0, 6, .inl a58))] L κ g H locs) (ls : Array Slot) (hl : lv_has ls 6 [(0, .ref p0), (1, .ref q6), (2, .ref ((cf i8))), (3, .ref q16), (4, .int x56), (5, .int ((nI i57 - 1)))]), W p l e9 (headSpec wsX11_wishes ({ frames := 4, cells := 8, slots := 46, locals := 85 })).room s m ([.ref p0] : List Value).toArray below meth c H locs (2 + 1 * i8) (10 + 6 * i8) (MQ below (va_Qv (fun (u : zS) => u = (L, κ, g)) (fun (u : zS) (t : State) => zB D tc (zA [] L s.heap.size) [] u t) (zA [] L s.heap.size)) ([.ref p0] : List Value).toArray s 8 46 (zA [] L s.heap.size)) (F0 m 140 ls []) := by
                      intro n
                      induction n with
                      | zero => intro H locs x56 i57 hi hn a58 hI ls hl; exact absurd hn (Nat.not_lt_zero _)
                      | succ n ih140 =>
                        intro H locs x56 i57 hi hn a58 hI ls hl
                        refine lv_iload hx hb dX11_wishes_140 (lv_at hl 5 rfl) ?_
                        refine lv_if_lt (tgt := 162) hx hb dX11_wishes_142 (by decide) (fun c59 => ?_) (fun c59 => ?_)
                        · skip
                          refine lv_aload_n hx hb dX11_wishes_162 rfl (lv_at hl 2 rfl) ?_
                          refine lv_bipush (v := 45) hx hb dX11_wishes_163 (by decide) ?_
                          refine z_putN (host := "WattgovernModel") (g' := g) (k := 11) (j := 5) hM hE hI hr15 rfl rfl hinX9 tyX9 tyX9_ok nmX9 rfl (by decide) (by decide +kernel) (fun _ h9 => h9) rfl rfl (by decide) (by decide) ⟨_, rfl, by decide⟩ (fun _ _ _ => rfl) dX11_wishes_165 (fun H locs hI => ?_)
                          refine lv_iconst (v := 5) hx hb dX11_wishes_168 (by decide) ?_
                          refine lv_istore (lv' := [(5, .int 5), (0, .ref p0), (1, .ref q6), (2, .ref ((cf i8))), (3, .ref q16), (4, .int x56)]) hx hb dX11_wishes_169 hl (by decide) rfl (fun ls hl => ?_)
                          have hL171 : ∀ (n : Nat) (H : Heap) (locs : List Loc)   (i60 : Nat) (hi : i60 ≤ 6) (hn : i60 < n) (a61 : Nat → Int32)  (hI : zI D tc (zA [] L s.heap.size) s.heap [(q6, .inr (0, [.int (nI ((i8 + 1))), .int ((nI i8)), .int mC, .ref lc])), (q16, .inl (tc 0, 6, .inl a61))] L κ g H locs) (ls : Array Slot) (hl : lv_has ls 6 [(0, .ref p0), (1, .ref q6), (2, .ref ((cf i8))), (3, .ref q16), (4, .int x56), (5, .int ((nI i60 - 1)))]), W p l e9 (headSpec wsX11_wishes ({ frames := 4, cells := 8, slots := 46, locals := 85 })).room s m ([.ref p0] : List Value).toArray below meth c H locs (2 + 1 * i8) (10 + 6 * i8) (MQ below (va_Qv (fun (u : zS) => u = (L, κ, g)) (fun (u : zS) (t : State) => zB D tc (zA [] L s.heap.size) [] u t) (zA [] L s.heap.size)) ([.ref p0] : List Value).toArray s 8 46 (zA [] L s.heap.size)) (F0 m 171 ls []) := by
                            intro n
                            induction n with
                            | zero => intro H locs i60 hi hn a61 hI ls hl; exact absurd hn (Nat.not_lt_zero _)
                            | succ n ih171 =>
                              intro H locs i60 hi hn a61 hI ls hl
                              refine lv_iload hx hb dX11_wishes_171 (lv_at hl 5 rfl) ?_
                              refine lv_if_lt (tgt := 211) hx hb dX11_wishes_173 (by decide) (fun c62 => ?_) (fun c62 => ?_)
                              · skip
                                refine lv_aload_n hx hb dX11_wishes_211 rfl (lv_at hl 2 rfl) ?_
                                refine lv_aload_n hx hb dX11_wishes_212 rfl (lv_at hl 2 rfl) ?_
                                refine z_getN (host := "WattgovernModel") (k := 11) (j := 4) hM hE hI hr15 rfl rfl hinX9 rfl (by decide) (by decide +kernel) (fun _ h9 => h9) dX11_wishes_213 (fun v63 hv64 => ?_)
                                obtain ⟨i65, rfl, hf66⟩ := hv64
                                refine lv_bipush (v := 97) hx hb dX11_wishes_216 (by decide) ?_
                                have hL234 : ∀ (H : Heap) (locs : List Loc) (y67 : Int32)  (a68 : Nat → Int32)  (hI : zI D tc (zA [] L s.heap.size) s.heap [(q6, .inr (0, [.int (nI ((i8 + 1))), .int ((nI i8)), .int mC, .ref lc])), (q16, .inl (tc 0, 6, .inl a68))] L κ g H locs) (ls : Array Slot) (hl : lv_has ls 6 [(0, .ref p0), (1, .ref q6)]), W p l e9 (headSpec wsX11_wishes ({ frames := 4, cells := 8, slots := 46, locals := 85 })).room s m ([.ref p0] : List Value).toArray below meth c H locs (2 + 1 * i8) (10 + 6 * i8) (MQ below (va_Qv (fun (u : zS) => u = (L, κ, g)) (fun (u : zS) (t : State) => zB D tc (zA [] L s.heap.size) [] u t) (zA [] L s.heap.size)) ([.ref p0] : List Value).toArray s 8 46 (zA [] L s.heap.size)) (F0 m 234 ls [.int y67, .ref ((cf i8))]) := by
                                  intro H locs y67 a68 hI ls hl
                                  refine z_putN (host := "WattgovernModel") (g' := g) (k := 11) (j := 9) hM hE hI hr15 rfl rfl hinX9 tyX9 tyX9_ok nmX9 rfl (by decide) (by decide +kernel) (fun _ h9 => h9) rfl rfl rfl rfl ⟨_, rfl⟩ (fun _ _ _ => rfl) dX11_wishes_234 (fun H locs hI => ?_)
                                  refine lv_goto (tgt := 10) hx hb dX11_wishes_237 (by decide) ?_
                                  have hI := z_part (X' := [(q6, .inr (0, [.int (nI ((i8 + 1))), .int ((nI i8)), .int mC, .ref lc]))]) [0] rfl rfl hI
                                  refine W.widen (k := (1 + 1 * ((i8 + 1)))) (n := (4 + 6 * ((i8 + 1)))) (by omega) (by omega) ?_
                                  exact ih10 _ _ ((i8 + 1)) (by first | omega | (simp only [] at *; omega)) (by first | omega | (simp only [] at *; omega)) ((nI i8)) hI ls (lv_sub hl [0, 1] rfl)
                                refine lv_icmp_ne (tgt := 233) hx hb dX11_wishes_218 (by decide) (fun c69 => ?_) (fun c69 => ?_)
                                · skip
                                  refine lv_iconst (v := 0) hx hb dX11_wishes_233 (by decide) ?_
                                  exact hL234 _ _ 0 a61 hI ls (lv_sub hl [0, 1] rfl)
                                · skip
                                  refine lv_aload_n hx hb dX11_wishes_221 rfl (lv_at hl 2 rfl) ?_
                                  refine z_getN (host := "WattgovernModel") (k := 11) (j := 8) hM hE hI hr15 rfl rfl hinX9 rfl (by decide) (by decide +kernel) (fun _ h9 => h9) dX11_wishes_222 (fun v70 hv71 => ?_)
                                  obtain ⟨i72, rfl⟩ := hv71
                                  refine lv_iload hx hb dX11_wishes_225 (lv_at hl 4 rfl) ?_
                                  refine va_mmin hx hb (hml.trans hl.1.symm) hown (hts (.methodLink RX11 186 Lib.Math.min.name) (by decide +kernel)) (hts (.static Lib.Math.min.name) (by decide +kernel)) (hts (.initialized "java/lang/Math") (by decide +kernel)) (hts (.code Lib.Math.min.name Lib.Math.min.code 2 (some .int)) (by decide +kernel)) (Nat.le_of_ble_eq_true rfl) (Nat.le_of_ble_eq_true rfl) (show (2 + 1 * i8) + 0 ≤ 8 from by omega) (show (10 + 6 * i8) + 0 ≤ 46 from by omega) dX11_wishes_227 ?_
                                  refine lv_topi (fun v73 e74 => ?_)
                                  refine lv_goto (tgt := 234) hx hb dX11_wishes_230 (by decide) ?_
                                  exact hL234 _ _ v73 a61 hI ls (lv_sub hl [0, 1] rfl)
                              · skip
                                rcases i60 with _ | j75
                                · exact absurd (by decide) c62
                                rw [nI_pred] at hl
                                refine lv_aload_n hx hb dX11_wishes_176 rfl (lv_at hl 3 rfl) ?_
                                refine lv_iload hx hb dX11_wishes_177 (lv_at hl 5 rfl) ?_
                                refine z_ialdX (i := 1) hM hI rfl (vp_in_nI (by omega) (by omega)) dX11_wishes_179 (fun v76 => ?_)
                                refine lv_iload hx hb dX11_wishes_180 (lv_at hl 4 rfl) ?_
                                have hL205 : ∀ (H : Heap) (locs : List Loc)   (a77 : Nat → Int32)  (hI : zI D tc (zA [] L s.heap.size) s.heap [(q6, .inr (0, [.int (nI ((i8 + 1))), .int ((nI i8)), .int mC, .ref lc])), (q16, .inl (tc 0, 6, .inl a77))] L κ g H locs) (ls : Array Slot) (hl : lv_has ls 6 [(0, .ref p0), (1, .ref q6), (2, .ref ((cf i8))), (3, .ref q16), (4, .int x56), (5, .int ((nI j75)))]), W p l e9 (headSpec wsX11_wishes ({ frames := 4, cells := 8, slots := 46, locals := 85 })).room s m ([.ref p0] : List Value).toArray below meth c H locs (2 + 1 * i8) (10 + 6 * i8) (MQ below (va_Qv (fun (u : zS) => u = (L, κ, g)) (fun (u : zS) (t : State) => zB D tc (zA [] L s.heap.size) [] u t) (zA [] L s.heap.size)) ([.ref p0] : List Value).toArray s 8 46 (zA [] L s.heap.size)) (F0 m 205 ls []) := by
                                  intro H locs a77 hI ls hl
                                  refine lv_iinc (v := nI j75 - 1) (lv' := [(5, .int ((nI j75 - 1))), (0, .ref p0), (1, .ref q6), (2, .ref ((cf i8))), (3, .ref q16), (4, .int x56)]) hx hb dX11_wishes_205 hl (k := 5) rfl (z_dec j75) (by decide) rfl (fun ls hl => ?_)
                                  refine lv_goto (tgt := 171) hx hb dX11_wishes_208 (by decide) ?_
                                  exact ih171 _ _ j75 (by first | omega | (simp only [] at *; omega)) (by first | omega | (simp only [] at *; omega)) a77 hI ls (lv_sub hl [1, 2, 3, 4, 5, 0] rfl)
                                refine lv_icmp_ne (tgt := 205) hx hb dX11_wishes_182 (by decide) (fun c78 => ?_) (fun c78 => ?_)
                                · skip
                                  exact hL205 _ _ a61 hI ls (lv_sub hl [0, 1, 2, 3, 4, 5] rfl)
                                · skip
                                  refine lv_iload hx hb dX11_wishes_185 (lv_at hl 4 rfl) ?_
                                  refine lv_aload_n hx hb dX11_wishes_187 rfl (lv_at hl 2 rfl) ?_
                                  refine z_getN (host := "WattgovernModel") (k := 11) (j := 8) hM hE hI hr15 rfl rfl hinX9 rfl (by decide) (by decide +kernel) (fun _ h9 => h9) dX11_wishes_188 (fun v79 hv80 => ?_)
                                  obtain ⟨i81, rfl⟩ := hv80
                                  refine lv_icmp_ge (tgt := 205) hx hb dX11_wishes_191 (by decide) (fun c82 => ?_) (fun c82 => ?_)
                                  · skip
                                    exact hL205 _ _ a61 hI ls (lv_sub hl [0, 1, 2, 3, 4, 5] rfl)
                                  · skip
                                    refine lv_aload_n hx hb dX11_wishes_194 rfl (lv_at hl 2 rfl) ?_
                                    obtain ⟨adK, adV, hst9, hR0, hR1⟩ := hE.st
                                    refine va_ldcS hx hb hown hR0 dX11_wishes_195 ?_
                                    refine lv_iload hx hb dX11_wishes_197 (lv_at hl 5 rfl) ?_
                                    refine vp_callSi (W.runV (As := [.int ((nI j75))]) (rest := [.ref ((cf i8))]) ⟨hx, hb, hml, hown, hts⟩ (c_J0_charAt_5068e l adK adV _ 0 (by decide) j75 (by omega)) (cwV 1 hts gX11_wishes_J0_charAt_5068e rfl rfl rfl (by decide +kernel) ⟨Nat.le_of_ble_eq_true rfl, Nat.le_of_ble_eq_true rfl⟩) (z_preVS hst9 hI.2.1 (vk_recv hst9.1 (by decide) hI.2.1)) rfl rfl hl.1 rfl (lv_room (Nat.le_of_ble_eq_true rfl)) dX11_wishes_199 ⟨(show (2 + 1 * i8) + 0 ≤ 8 from by omega), (show (10 + 6 * i8) + 0 ≤ 46 from by omega)⟩) (fun v84 hw85 => ?_)
                                    have hw85 : fits .char (.int v84) = true := hw85
                                    refine z_putN (host := "WattgovernModel") (g' := g) (k := 11) (j := 5) hM hE hI hr15 rfl rfl hinX9 tyX9 tyX9_ok nmX9 rfl (by decide) (by decide +kernel) (fun _ h9 => h9) rfl rfl (z_cn (by first | assumption | decide)) (by first | assumption | decide) ⟨_, rfl, (by first | assumption | decide)⟩ (fun _ _ _ => rfl) dX11_wishes_202 (fun H locs hI => ?_)
                                    exact hL205 _ _ a61 hI ls (lv_sub hl [0, 1, 2, 3, 4, 5] rfl)
                          rw [show (5 : Int32) = nI 6 - 1 from by decide] at hl
                          exact hL171 (6 + 1) _ _ 6 (by first | omega | (simp only [] at *; omega)) (by first | omega | (simp only [] at *; omega)) a58 hI ls (lv_sub hl [1, 2, 3, 4, 5, 0] rfl)
                        · skip
                          rcases i57 with _ | j86
                          · exact absurd (by decide) c59
                          rw [nI_pred] at hl
                          refine lv_iload hx hb dX11_wishes_145 (lv_at hl 4 rfl) ?_
                          refine lv_aload_n hx hb dX11_wishes_147 rfl (lv_at hl 3 rfl) ?_
                          refine lv_iload hx hb dX11_wishes_148 (lv_at hl 5 rfl) ?_
                          refine z_ialdX (i := 1) hM hI rfl (vp_in_nI (by omega) (by omega)) dX11_wishes_150 (fun v87 => ?_)
                          refine va_mmin hx hb (hml.trans hl.1.symm) hown (hts (.methodLink RX11 186 Lib.Math.min.name) (by decide +kernel)) (hts (.static Lib.Math.min.name) (by decide +kernel)) (hts (.initialized "java/lang/Math") (by decide +kernel)) (hts (.code Lib.Math.min.name Lib.Math.min.code 2 (some .int)) (by decide +kernel)) (Nat.le_of_ble_eq_true rfl) (Nat.le_of_ble_eq_true rfl) (show (2 + 1 * i8) + 0 ≤ 8 from by omega) (show (10 + 6 * i8) + 0 ≤ 46 from by omega) dX11_wishes_151 ?_
                          refine lv_topi (fun v88 e89 => ?_)
                          refine lv_istore (lv' := [(4, .int v88), (0, .ref p0), (1, .ref q6), (2, .ref ((cf i8))), (3, .ref q16), (5, .int ((nI j86)))]) hx hb dX11_wishes_154 hl (by decide) rfl (fun ls hl => ?_)
                          refine lv_iinc (v := nI j86 - 1) (lv' := [(5, .int ((nI j86 - 1))), (4, .int v88), (0, .ref p0), (1, .ref q6), (2, .ref ((cf i8))), (3, .ref q16)]) hx hb dX11_wishes_156 hl (k := 5) rfl (z_dec j86) (by decide) rfl (fun ls hl => ?_)
                          refine lv_goto (tgt := 140) hx hb dX11_wishes_159 (by decide) ?_
                          exact ih140 _ _ v88 j86 (by first | omega | (simp only [] at *; omega)) (by first | omega | (simp only [] at *; omega)) a58 hI ls (lv_sub hl [2, 3, 4, 5, 1, 0] rfl)
                    rw [show (5 : Int32) = nI 6 - 1 from by decide] at hl
                    exact hL140 (6 + 1) _ _ 9 6 (by first | omega | (simp only [] at *; omega)) (by first | omega | (simp only [] at *; omega)) a55 hI ls (lv_sub hl [3, 4, 5, 2, 1, 0] rfl)
                  refine lv_if_le (tgt := 129) hx hb dX11_wishes_119 (by decide) (fun c90 => ?_) (fun c90 => ?_)
                  · skip
                    refine lv_bipush (v := 9) hx hb dX11_wishes_129 (by decide) ?_
                    exact hL131 _ _ 9 a48 hI ls (lv_sub hl [0, 1, 2] rfl)
                  · skip
                    refine lv_aload_n hx hb dX11_wishes_122 rfl (lv_at hl 0 rfl) ?_
                    refine z_get (k := 13) (j := 15) hM hI hk0 rfl rfl hinX11 rfl (by decide) (by decide +kernel) (fun _ h9 => h9) dX11_wishes_123 (fun v91 hv92 => ?_)
                    obtain ⟨i93, rfl⟩ := hv92
                    refine lv_goto (tgt := 131) hx hb dX11_wishes_126 (by decide) ?_
                    exact hL131 _ _ i93 a48 hI ls (lv_sub hl [0, 1, 2] rfl)
                refine lv_if_ne (tgt := 110) hx hb dX11_wishes_103 (by decide) (fun c94 => ?_) (fun c94 => ?_)
                · skip
                  refine lv_bipush (v := 9) hx hb dX11_wishes_110 (by decide) ?_
                  exact hL112 _ _ 9 a42 hI ls (lv_sub hl [0, 1, 2] rfl)
                · skip
                  refine lv_iconst (v := 2) hx hb dX11_wishes_106 (by decide) ?_
                  refine lv_goto (tgt := 112) hx hb dX11_wishes_107 (by decide) ?_
                  exact hL112 _ _ 2 a42 hI ls (lv_sub hl [0, 1, 2] rfl)
              refine lv_if_eq (tgt := 94) hx hb dX11_wishes_87 (by decide) (fun c95 => ?_) (fun c95 => ?_)
              · skip
                refine lv_bipush (v := 9) hx hb dX11_wishes_94 (by decide) ?_
                exact hL96 _ _ 9 a34 hI ls (lv_sub hl [0, 1, 2] rfl)
              · skip
                refine lv_iconst (v := 2) hx hb dX11_wishes_90 (by decide) ?_
                refine lv_goto (tgt := 96) hx hb dX11_wishes_91 (by decide) ?_
                exact hL96 _ _ 2 a34 hI ls (lv_sub hl [0, 1, 2] rfl)
            refine lv_if_le (tgt := 78) hx hb dX11_wishes_71 (by decide) (fun c96 => ?_) (fun c96 => ?_)
            · skip
              refine lv_bipush (v := 9) hx hb dX11_wishes_78 (by decide) ?_
              exact hL80 _ _ 9 a28 hI ls (lv_sub hl [0, 1, 2] rfl)
            · skip
              refine lv_iconst (v := 0) hx hb dX11_wishes_74 (by decide) ?_
              refine lv_goto (tgt := 80) hx hb dX11_wishes_75 (by decide) ?_
              exact hL80 _ _ 0 a28 hI ls (lv_sub hl [0, 1, 2] rfl)
          refine lv_if_eq (tgt := 62) hx hb dX11_wishes_55 (by decide) (fun c97 => ?_) (fun c97 => ?_)
          · skip
            refine lv_bipush (v := 9) hx hb dX11_wishes_62 (by decide) ?_
            exact hL64 _ _ 9 a21 hI ls (lv_sub hl [0, 1, 2] rfl)
          · skip
            refine lv_iconst (v := 0) hx hb dX11_wishes_58 (by decide) ?_
            refine lv_goto (tgt := 64) hx hb dX11_wishes_59 (by decide) ?_
            exact hL64 _ _ 0 a21 hI ls (lv_sub hl [0, 1, 2] rfl)
        refine lv_if_eq (tgt := 46) hx hb dX11_wishes_39 (by decide) (fun c98 => ?_) (fun c98 => ?_)
        · skip
          refine lv_bipush (v := 9) hx hb dX11_wishes_46 (by decide) ?_
          exact hL48 _ _ 9 ((fun _ => 0)) hI ls (lv_sub hl [1, 2, 0] rfl)
        · skip
          refine lv_iconst (v := 0) hx hb dX11_wishes_42 (by decide) ?_
          refine lv_goto (tgt := 48) hx hb dX11_wishes_43 (by decide) ?_
          exact hL48 _ _ 0 ((fun _ => 0)) hI ls (lv_sub hl [1, 2, 0] rfl)
      · skip
        have hI := z_part (X' := []) [] rfl rfl hI
        refine lv_if_eq (tgt := 240) hx hb dX11_wishes_16 (by decide) (fun _ => ?_) (fun h9 => by first | exact absurd h9 (by decide) | exact absurd (by decide) h9)
        refine W.widen (k := 8) (n := 46) (by omega) (by omega) ?_
        exact W.vret hx hb hr (fun t ht hW => ⟨⟨(L, κ, g), rfl, rfl, z_end hK hI ht hW⟩, z_F hI ht⟩) (z_locs hI) dX11_wishes_240
  refine W.widen (k := (1 + 1 * 0)) (n := (4 + 6 * 0)) (by omega) (by omega) ?_
  exact hL10 (nC + 1) _ _ 0 (by first | omega | (simp only [] at *; omega)) (by first | omega | (simp only [] at *; omega)) (-1) hI ls (lv_sub hl [1, 0] rfl)

set_option maxHeartbeats 4000000 in
set_option maxRecDepth 100000 in
theorem c_X11_tick (l : Launch) (D : va_G) (tc : Nat → ClassId) (z0 : Nat) (L : List Nat) (κ : Nat → Nat) (g : Nat → Nat → Value) (sz : Nat) (p0 : Nat) (hk0 : κ p0 = 13) (lc eC nC : Nat) (mC : Int32) (cf : Nat → Nat) (lt eT nT : Nat) (mT : Int32) (tf : Nat → Nat) (hMo : zMo κ g z0 p0 lc eC nC mC cf lt eT nT mT tf) (t9 : Int32) (ht9 : g p0 4 = .int t9) (w9 : Int32) (hw9 : g p0 16 = .int w9) (h9 : Int32) (hh9 : g p0 14 = .int h9) : Met l yX11_tick wsX11_tick ({ frames := 5, cells := 37, slots := 162, locals := 112 }) (zPc D tc z0 [.ref p0] [] (L, κ, g) sz) (va_Qv (fun (u : zS) => ∃ g2 : Nat → Nat → Value, u = (L, κ, g2) ∧ zTk p0 p0 4 14 16 g g2 (t9 + 1) (if w9 ≤ 0 then h9 else w9) (if w9 ≤ 0 then w9 else 0)) (fun (u : zS) (t : State) => zB D tc (zA [] L sz) [] u t) (zA [] L sz)) 37 162 (zA [] L sz) := by
  refine Met.ofW (cc := cX11_tick) (maxL := 3) (ret := none) (by decide) rfl ?_
  intro p e9 s m args below meth c s₁ B hml hv
  obtain ⟨rfl, rfl, hK, hE, hI⟩ := hv.opn
  have hx := B.exec
  have hb := B.bytes
  have hr := B.returns
  have hts := atoms_spec (ws := wsX11_tick) B.pre
  have hown : s.vm.findClass RX11 = some m.cls := findClass_of_methodNamed B.named
  have hlocks := B.notSynchronized
  have hM : zM p s m c cX11_tick _ wsX11_tick RX11 D tc := ⟨hx, hb, hts, hown, hK⟩
  have hinX11 : ∀ w ∈ wsX110, w ∈ wsX11_tick := by decide +kernel
  have hinX9 : ∀ w ∈ wsX90, w ∈ wsX11_tick := by decide +kernel
  have hnC := hMo.bC
  have hnT := hMo.bT
  have hl := lv_entry ([.ref p0]) (n := 3) (Nat.le_of_ble_eq_true rfl)
  rw [lg_entry_eq]
  generalize (lg_sl ([.ref p0]) ++ List.replicate (3 - (lg_sl ([.ref p0])).length) Slot.unset).toArray = ls at hl ⊢
  have hl : lv_has ls 3 [(0, .ref p0)] := hl
  refine lv_aload_n hx hb dX11_tick_0 rfl (lv_at hl 0 rfl) ?_
  refine lv_dup hx hb dX11_tick_1 rfl ?_
  refine z_get (k := 13) (j := 4) hM hI hk0 rfl rfl hinX11 rfl (by decide) (by decide +kernel) (fun _ h9 => h9) dX11_tick_2 (fun v1 hv2 => ?_)
  obtain ⟨hg4, i3, rfl⟩ := hv2
  obtain rfl : t9 = i3 := Value.int.inj ((ht9).symm.trans hg4.symm)
  refine lv_iconst (v := 1) hx hb dX11_tick_5 (by decide) ?_
  refine lv_iadd hx hb dX11_tick_6 ?_
  refine lv_topi (fun v5 e6 => ?_)
  refine z_put (g' := (zup g p0 4 (.int v5))) (k := 13) (j := 4) hM hI hk0 rfl rfl hinX11 tyX11 tyX11_ok nmX11 rfl (by decide) (by decide +kernel) (fun _ h9 => h9) rfl rfl rfl rfl ⟨(zup_self _ _ _ _).symm, _, rfl⟩ (fun b i h => zup_ne h) dX11_tick_7 (fun H locs hI => ?_)
  have hMo := hMo.upP (j := 4) (v := .int v5) (by decide)
  refine lv_aload_n hx hb dX11_tick_10 rfl (lv_at hl 0 rfl) ?_
  refine z_get (k := 13) (j := 16) hM hI hk0 rfl rfl hinX11 rfl (by decide) (by decide +kernel) (fun _ h9 => h9) dX11_tick_11 (fun v7 hv8 => ?_)
  obtain ⟨hg10, i9, rfl⟩ := hv8
  obtain rfl : w9 = i9 := Value.int.inj ((((zup_ne (Or.inr (by decide))).trans hw9)).symm.trans hg10.symm)
  refine lv_if_le (tgt := 38) hx hb dX11_tick_14 (by decide) (fun c11 => ?_) (fun c11 => ?_)
  · skip
    refine lv_iconst (v := 0) hx hb dX11_tick_38 (by decide) ?_
    refine lv_istore_n (lv' := [(1, .int 0), (0, .ref p0)]) hx hb dX11_tick_39 rfl hl (by decide) rfl (fun ls hl => ?_)
    have hL40 : ∀ (n : Nat) (H : Heap) (locs : List Loc)   (i12 : Nat) (hi : i12 ≤ nC) (hn : nC - i12 < n)  (hI : zI D tc (zA [] L s.heap.size) s.heap [] L κ (zup g p0 4 (.int v5)) H locs) (ls : Array Slot) (hl : lv_has ls 3 [(0, .ref p0), (1, .int ((nI i12)))]), W p l e9 (headSpec wsX11_tick ({ frames := 5, cells := 37, slots := 162, locals := 112 })).room s m ([.ref p0] : List Value).toArray below meth c H locs 0 0 (MQ below (va_Qv (fun (u : zS) => ∃ g2 : Nat → Nat → Value, u = (L, κ, g2) ∧ zTk p0 p0 4 14 16 g g2 (t9 + 1) (if w9 ≤ 0 then h9 else w9) (if w9 ≤ 0 then w9 else 0)) (fun (u : zS) (t : State) => zB D tc (zA [] L s.heap.size) [] u t) (zA [] L s.heap.size)) ([.ref p0] : List Value).toArray s 37 162 (zA [] L s.heap.size)) (F0 m 40 ls []) := by
      intro n
      induction n with
      | zero => intro H locs i12 hi hn hI ls hl; exact absurd hn (Nat.not_lt_zero _)
      | succ n ih40 =>
        intro H locs i12 hi hn hI ls hl
        refine lv_iload_n hx hb dX11_tick_40 rfl (lv_at hl 1 rfl) ?_
        refine lv_aload_n hx hb dX11_tick_41 rfl (lv_at hl 0 rfl) ?_
        refine z_get (k := 13) (j := 0) hM hI hk0 rfl rfl hinX11 rfl (by decide) (by decide +kernel) (fun _ h9 => h9) dX11_tick_42 (fun v13 hv14 => ?_)
        obtain ⟨hg16, i15, rfl, hr17⟩ := hv14
        obtain rfl : lc = i15 := Value.ref.inj (hMo.gc.symm.trans hg16.symm)
        refine va_csFi (va_runF (As := []) (rest := [.int ((nI i12))]) (hK.1 1 _ rfl).2 ⟨hx, hb, hml, hown, hts⟩ (c_Jx4a65c_size_8abf5 l D tc z0 _ κ (zup g p0 4 (.int v5)) _ lc 1 eC 25 11 nC mC cf rfl hMo.LC) (va_cwF 0 hts gX11_tick_Jx4a65c_size_8abf5_f46Jx4a65c rfl rfl rfl (hE.2.2.1 (RJx4a65c, ⟨"java/util/List", "size", "()I"⟩, yJx4a65c_size_8abf5) (by decide +kernel)) (by decide +kernel) ⟨Nat.le_of_ble_eq_true rfl, Nat.le_of_ble_eq_true rfl⟩) (z_preV (Xc := []) hK hE hI [] rfl rfl (z_recv hK hI hMo.LC.1 rfl rfl)) rfl rfl hl.1 rfl (lv_room (Nat.le_of_ble_eq_true rfl)) dX11_tick_45 ⟨(Nat.le_of_ble_eq_true rfl), (Nat.le_of_ble_eq_true rfl)⟩) (fun v18 hw19 => ?_)
        obtain rfl := hw19
        refine lv_icmp_ge (tgt := 176) hx hb dX11_tick_50 (by decide) (fun c20 => ?_) (fun c20 => ?_)
        · skip
          have hgec20 : nC ≤ i12 := z_ge (by omega) (by omega) c20
          refine lv_aload_n hx hb dX11_tick_176 rfl (lv_at hl 0 rfl) ?_
          refine z_cvX (Xc := []) (wr := []) (rx := []) [] [] rfl rfl rfl rfl (by decide) hI (va_runV (As := []) (rest := []) ⟨hx, hb, hml, hown, hts⟩ (c_X11_sleeps l D tc z0 _ κ (zup g p0 4 (.int v5)) _ p0 hk0 lc eC nC mC cf lt eT nT mT tf hMo) (cwV 0 hts gX11_tick_X11_sleeps rfl rfl rfl (by decide +kernel) ⟨Nat.le_of_ble_eq_true rfl, Nat.le_of_ble_eq_true rfl⟩) (z_preV (Xc := []) hK hE hI [] rfl rfl (z_recv hK hI hk0 rfl rfl)) rfl rfl hl.1 rfl (lv_room (Nat.le_of_ble_eq_true rfl)) dX11_tick_177 ⟨(Nat.le_of_ble_eq_true rfl), (Nat.le_of_ble_eq_true rfl)⟩) (fun u H locs hw22 hI => ?_)
          obtain rfl := hw22
          have hI : zI D tc _ s.heap [] L κ (zup g p0 4 (.int v5)) _ _ := hI
          refine lv_aload_n hx hb dX11_tick_180 rfl (lv_at hl 0 rfl) ?_
          refine z_cvX (Xc := []) (wr := []) (rx := []) [] [] rfl rfl rfl rfl (by decide) hI (va_runV (As := []) (rest := []) ⟨hx, hb, hml, hown, hts⟩ (c_X11_wishes l D tc z0 _ κ (zup g p0 4 (.int v5)) _ p0 hk0 lc eC nC mC cf lt eT nT mT tf hMo) (cwV 0 hts gX11_tick_X11_wishes rfl rfl rfl (by decide +kernel) ⟨Nat.le_of_ble_eq_true rfl, Nat.le_of_ble_eq_true rfl⟩) (z_preV (Xc := []) hK hE hI [] rfl rfl (z_recv hK hI hk0 rfl rfl)) rfl rfl hl.1 rfl (lv_room (Nat.le_of_ble_eq_true rfl)) dX11_tick_181 ⟨(Nat.le_of_ble_eq_true rfl), (Nat.le_of_ble_eq_true rfl)⟩) (fun u H locs hw24 hI => ?_)
          obtain rfl := hw24
          have hI : zI D tc _ s.heap [] L κ (zup g p0 4 (.int v5)) _ _ := hI
          refine lv_aload_n hx hb dX11_tick_184 rfl (lv_at hl 0 rfl) ?_
          refine z_cvX (Xc := []) (wr := []) (rx := []) [] [] rfl rfl rfl rfl (by decide) hI (va_runV (As := []) (rest := []) ⟨hx, hb, hml, hown, hts⟩ (c_X11_rails l D tc z0 _ κ (zup g p0 4 (.int v5)) _ p0 hk0 lc eC nC mC cf lt eT nT mT tf hMo) (cwV 0 hts gX11_tick_X11_rails rfl rfl rfl (by decide +kernel) ⟨Nat.le_of_ble_eq_true rfl, Nat.le_of_ble_eq_true rfl⟩) (z_preV (Xc := []) hK hE hI [] rfl rfl (z_recv hK hI hk0 rfl rfl)) rfl rfl hl.1 rfl (lv_room (Nat.le_of_ble_eq_true rfl)) dX11_tick_185 ⟨(Nat.le_of_ble_eq_true rfl), (Nat.le_of_ble_eq_true rfl)⟩) (fun u H locs hw26 hI => ?_)
          obtain rfl := hw26
          have hI : zI D tc _ s.heap [] L κ (zup g p0 4 (.int v5)) _ _ := hI
          refine lv_aload_n hx hb dX11_tick_188 rfl (lv_at hl 0 rfl) ?_
          refine z_cvX (Xc := []) (wr := []) (rx := []) [] [] rfl rfl rfl rfl (by decide) hI (va_runV (As := []) (rest := []) ⟨hx, hb, hml, hown, hts⟩ (c_X11_works l D tc z0 _ κ (zup g p0 4 (.int v5)) _ p0 hk0 lc eC nC mC cf lt eT nT mT tf hMo) (cwV 0 hts gX11_tick_X11_works rfl rfl rfl (by decide +kernel) ⟨Nat.le_of_ble_eq_true rfl, Nat.le_of_ble_eq_true rfl⟩) (z_preV (Xc := []) hK hE hI [] rfl rfl (z_recv hK hI hk0 rfl rfl)) rfl rfl hl.1 rfl (lv_room (Nat.le_of_ble_eq_true rfl)) dX11_tick_189 ⟨(Nat.le_of_ble_eq_true rfl), (Nat.le_of_ble_eq_true rfl)⟩) (fun u H locs hw28 hI => ?_)
          obtain rfl := hw28
          have hI : zI D tc _ s.heap [] L κ (zup g p0 4 (.int v5)) _ _ := hI
          refine lv_aload_n hx hb dX11_tick_192 rfl (lv_at hl 0 rfl) ?_
          refine z_cvX (Xc := []) (wr := []) (rx := []) [] [] rfl rfl rfl rfl (by decide) hI (va_runV (As := []) (rest := []) ⟨hx, hb, hml, hown, hts⟩ (c_X11_heats l D tc z0 _ κ (zup g p0 4 (.int v5)) _ p0 hk0 lc eC nC mC cf lt eT nT mT tf hMo) (cwV 0 hts gX11_tick_X11_heats rfl rfl rfl (by decide +kernel) ⟨Nat.le_of_ble_eq_true rfl, Nat.le_of_ble_eq_true rfl⟩) (z_preV (Xc := []) hK hE hI [] rfl rfl (z_recv hK hI hk0 rfl rfl)) rfl rfl hl.1 rfl (lv_room (Nat.le_of_ble_eq_true rfl)) dX11_tick_193 ⟨(Nat.le_of_ble_eq_true rfl), (Nat.le_of_ble_eq_true rfl)⟩) (fun u H locs hw30 hI => ?_)
          obtain rfl := hw30
          have hI : zI D tc _ s.heap [] L κ (zup g p0 4 (.int v5)) _ _ := hI
          refine W.widen (k := 37) (n := 162) (Nat.le_of_ble_eq_true rfl) (Nat.le_of_ble_eq_true rfl) ?_
          exact W.vret hx hb hr (fun t ht hW => ⟨⟨(L, κ, (zup g p0 4 (.int v5))), rfl, ⟨_, rfl, (by subst_vars; first | exact zTkM_A c11 | exact zTkM_B c11 hh9 hw9)⟩, z_end hK hI ht hW⟩, z_F hI ht⟩) (z_locs hI) dX11_tick_196
        · skip
          have hltc20 : i12 < nC := z_lt (by omega) c20
          refine lv_aload_n hx hb dX11_tick_53 rfl (lv_at hl 0 rfl) ?_
          refine z_get (k := 13) (j := 0) hM hI hk0 rfl rfl hinX11 rfl (by decide) (by decide +kernel) (fun _ h9 => h9) dX11_tick_54 (fun v31 hv32 => ?_)
          obtain ⟨hg34, i33, rfl, hr35⟩ := hv32
          obtain rfl : lc = i33 := Value.ref.inj (hMo.gc.symm.trans hg34.symm)
          refine lv_iload_n hx hb dX11_tick_57 rfl (lv_at hl 1 rfl) ?_
          refine va_csFq (va_runF (As := [.int ((nI i12))]) (rest := []) (hK.1 1 _ rfl).2 ⟨hx, hb, hml, hown, hts⟩ (c_Jx4a65c_get_915e3 l D tc z0 _ κ (zup g p0 4 (.int v5)) _ lc 1 eC 25 11 nC mC cf rfl hMo.LC rfl rfl i12 (by omega)) (va_cwF 1 hts gX11_tick_Jx4a65c_get_915e3_f101Jx4a65c rfl rfl rfl (hE.2.2.1 (RJx4a65c, ⟨"java/util/List", "get", "(I)Ljava/lang/Object;"⟩, yJx4a65c_get_915e3) (by decide +kernel)) (by decide +kernel) ⟨Nat.le_of_ble_eq_true rfl, Nat.le_of_ble_eq_true rfl⟩) (z_preV (Xc := []) hK hE hI [] rfl rfl (z_recv hK hI hMo.LC.1 rfl rfl)) rfl rfl hl.1 rfl (lv_room (Nat.le_of_ble_eq_true rfl)) dX11_tick_58 ⟨(Nat.le_of_ble_eq_true rfl), (Nat.le_of_ble_eq_true rfl)⟩) (fun r36 hw37 => ?_)
          obtain rfl := hw37
          have hr38 : κ (cf i12) = 11 := hMo.LC.el (i := i12) (by omega)
          show W p l e9 (headSpec wsX11_tick ({ frames := 5, cells := 37, slots := 162, locals := 112 })).room s m ([.ref p0] : List Value).toArray below meth c _ _ 0 0 (MQ below (va_Qv (fun (u : zS) => ∃ g2 : Nat → Nat → Value, u = (L, κ, g2) ∧ zTk p0 p0 4 14 16 g g2 (t9 + 1) (if w9 ≤ 0 then h9 else w9) (if w9 ≤ 0 then w9 else 0)) (fun (u : zS) (t : State) => zB D tc (zA [] L s.heap.size) [] u t) (zA [] L s.heap.size)) ([.ref p0] : List Value).toArray s 37 162 (zA [] L s.heap.size)) (F0 m 63 ls (.ref (cf i12) :: []))
          refine z_castS (k := 11) hM hI hr38 rfl rfl (by decide +kernel) dX11_tick_63 ?_
          refine lv_astore_n (lv' := [(2, .ref ((cf i12))), (0, .ref p0), (1, .int ((nI i12)))]) hx hb dX11_tick_66 rfl hl (by decide) rfl (fun ls hl => ?_)
          refine lv_aload_n hx hb dX11_tick_67 rfl (lv_at hl 1 rfl) ?_
          refine z_get (k := 13) (j := 3) hM hI hk0 rfl rfl hinX11 rfl (by decide) (by decide +kernel) (fun _ h9 => h9) dX11_tick_68 (fun v39 hv40 => ?_)
          obtain ⟨hg42, i41, rfl, hr43⟩ := hv40
          refine lv_iload_n hx hb dX11_tick_71 rfl (lv_at hl 2 rfl) ?_
          refine lv_aload_n hx hb dX11_tick_72 rfl (lv_at hl 0 rfl) ?_
          refine vp_callSi (va_Run.run (va_runVN (As := []) (rest := [.int ((nI i12)), .ref i41]) ⟨hx, hb, hml, hown, hts⟩ (c_X9_degrees l D tc z0 _ κ (zup g p0 4 (.int v5)) _ ((cf i12)) hr38) ⟨va_cnB 0 hts gX11_tick_X9_degrees_n133 rfl rfl rfl (hE.1 (.methodLinkNest RX11 133 yX9_degrees "WattgovernModel") (by decide +kernel) rfl) (hts (.initialized yX9_degrees.cls) (by decide +kernel)) (by decide +kernel) ⟨Nat.le_of_ble_eq_true rfl, Nat.le_of_ble_eq_true rfl⟩, hts (.instanceMethod yX9_degrees) (by decide +kernel), hts (.selects RX9 yX9_degrees yX9_degrees) (by decide +kernel)⟩ (z_preV (Xc := []) hK hE hI [] rfl rfl (z_recv hK hI hr38 rfl rfl)) rfl rfl hl.1 rfl (lv_room (Nat.le_of_ble_eq_true rfl)) dX11_tick_73 ⟨(Nat.le_of_ble_eq_true rfl), (Nat.le_of_ble_eq_true rfl)⟩)) (fun v44 hw45 => ?_)
          refine z_iast (g' := (zup g p0 4 (.int v5))) hM hI hr43 rfl rfl (vp_in_nI (by omega) (by omega)) ⟨_, rfl⟩ (fun _ _ _ => rfl) dX11_tick_76 (fun H locs hI => ?_)
          refine lv_aload_n hx hb dX11_tick_77 rfl (lv_at hl 1 rfl) ?_
          refine z_get (k := 13) (j := 4) hM hI hk0 rfl rfl hinX11 rfl (by decide) (by decide +kernel) (fun _ h9 => h9) dX11_tick_78 (fun v46 hv47 => ?_)
          obtain ⟨hg49, i48, rfl⟩ := hv47
          refine lv_iconst (v := 4) hx hb dX11_tick_81 (by decide) ?_
          refine lv_irem hx hb dX11_tick_82 (by decide) ?_
          refine lv_topi (fun v50 e51 => ?_)
          have hL107 : ∀ (H : Heap) (locs : List Loc)    (hI : zI D tc (zA [] L s.heap.size) s.heap [] L κ (zup g p0 4 (.int v5)) H locs) (ls : Array Slot) (hl : lv_has ls 3 [(0, .ref p0), (1, .int ((nI i12))), (2, .ref ((cf i12)))]), W p l e9 (headSpec wsX11_tick ({ frames := 5, cells := 37, slots := 162, locals := 112 })).room s m ([.ref p0] : List Value).toArray below meth c H locs 0 0 (MQ below (va_Qv (fun (u : zS) => ∃ g2 : Nat → Nat → Value, u = (L, κ, g2) ∧ zTk p0 p0 4 14 16 g g2 (t9 + 1) (if w9 ≤ 0 then h9 else w9) (if w9 ≤ 0 then w9 else 0)) (fun (u : zS) (t : State) => zB D tc (zA [] L s.heap.size) [] u t) (zA [] L s.heap.size)) ([.ref p0] : List Value).toArray s 37 162 (zA [] L s.heap.size)) (F0 m 107 ls []) := by
            intro H locs hI ls hl
            refine lv_aload_n hx hb dX11_tick_107 rfl (lv_at hl 2 rfl) ?_
            refine lv_aload_n hx hb dX11_tick_108 rfl (lv_at hl 0 rfl) ?_
            refine z_get (k := 13) (j := 3) hM hI hk0 rfl rfl hinX11 rfl (by decide) (by decide +kernel) (fun _ h9 => h9) dX11_tick_109 (fun v52 hv53 => ?_)
            obtain ⟨hg55, i54, rfl, hr56⟩ := hv53
            refine lv_iload_n hx hb dX11_tick_112 rfl (lv_at hl 1 rfl) ?_
            refine z_iald hM hI hr56 rfl rfl (vp_in_nI (by omega) (by omega)) dX11_tick_113 (fun v57 hv58 => ?_)
            refine lv_bipush (v := 100) hx hb dX11_tick_114 (by decide) ?_
            have hL142 : ∀ (H : Heap) (locs : List Loc) (y59 : Int32) (hz60 : y59 = 0 ∨ y59 = 1)  (hI : zI D tc (zA [] L s.heap.size) s.heap [] L κ (zup g p0 4 (.int v5)) H locs) (ls : Array Slot) (hl : lv_has ls 3 [(0, .ref p0), (1, .int ((nI i12))), (2, .ref ((cf i12)))]), W p l e9 (headSpec wsX11_tick ({ frames := 5, cells := 37, slots := 162, locals := 112 })).room s m ([.ref p0] : List Value).toArray below meth c H locs 0 0 (MQ below (va_Qv (fun (u : zS) => ∃ g2 : Nat → Nat → Value, u = (L, κ, g2) ∧ zTk p0 p0 4 14 16 g g2 (t9 + 1) (if w9 ≤ 0 then h9 else w9) (if w9 ≤ 0 then w9 else 0)) (fun (u : zS) (t : State) => zB D tc (zA [] L s.heap.size) [] u t) (zA [] L s.heap.size)) ([.ref p0] : List Value).toArray s 37 162 (zA [] L s.heap.size)) (F0 m 142 ls [.int y59, .ref ((cf i12))]) := by
              intro H locs y59 hz60 hI ls hl
              refine z_putN (host := "WattgovernModel") (g' := (zup g p0 4 (.int v5))) (k := 11) (j := 16) hM hE hI hr38 rfl rfl hinX9 tyX9 tyX9_ok nmX9 rfl (by decide) (by decide +kernel) (fun _ h9 => h9) rfl rfl (z_bn (by first | assumption | exact Or.inl rfl | exact Or.inr rfl)) (z_bf (by first | assumption | exact Or.inl rfl | exact Or.inr rfl)) (z_bv (by first | assumption | exact Or.inl rfl | exact Or.inr rfl)) (fun _ _ _ => rfl) dX11_tick_142 (fun H locs hI => ?_)
              refine lv_aload_n hx hb dX11_tick_145 rfl (lv_at hl 2 rfl) ?_
              refine lv_dup hx hb dX11_tick_146 rfl ?_
              refine z_getN (host := "WattgovernModel") (k := 11) (j := 13) hM hE hI hr38 rfl rfl hinX9 rfl (by decide) (by decide +kernel) (fun _ h9 => h9) dX11_tick_147 (fun v61 hv62 => ?_)
              obtain ⟨i63, rfl⟩ := hv62
              refine lv_aload_n hx hb dX11_tick_150 rfl (lv_at hl 0 rfl) ?_
              refine z_get (k := 13) (j := 3) hM hI hk0 rfl rfl hinX11 rfl (by decide) (by decide +kernel) (fun _ h9 => h9) dX11_tick_151 (fun v64 hv65 => ?_)
              obtain ⟨hg67, i66, rfl, hr68⟩ := hv65
              refine lv_iload_n hx hb dX11_tick_154 rfl (lv_at hl 1 rfl) ?_
              refine z_iald hM hI hr68 rfl rfl (vp_in_nI (by omega) (by omega)) dX11_tick_155 (fun v69 hv70 => ?_)
              refine lv_bipush (v := 85) hx hb dX11_tick_156 (by decide) ?_
              have hL166 : ∀ (H : Heap) (locs : List Loc) (y71 : Int32)   (hI : zI D tc (zA [] L s.heap.size) s.heap [] L κ (zup g p0 4 (.int v5)) H locs) (ls : Array Slot) (hl : lv_has ls 3 [(0, .ref p0), (1, .int ((nI i12)))]), W p l e9 (headSpec wsX11_tick ({ frames := 5, cells := 37, slots := 162, locals := 112 })).room s m ([.ref p0] : List Value).toArray below meth c H locs 0 0 (MQ below (va_Qv (fun (u : zS) => ∃ g2 : Nat → Nat → Value, u = (L, κ, g2) ∧ zTk p0 p0 4 14 16 g g2 (t9 + 1) (if w9 ≤ 0 then h9 else w9) (if w9 ≤ 0 then w9 else 0)) (fun (u : zS) (t : State) => zB D tc (zA [] L s.heap.size) [] u t) (zA [] L s.heap.size)) ([.ref p0] : List Value).toArray s 37 162 (zA [] L s.heap.size)) (F0 m 166 ls [.int y71, .int i63, .ref ((cf i12))]) := by
                intro H locs y71 hI ls hl
                refine lv_iadd hx hb dX11_tick_166 ?_
                refine lv_topi (fun v72 e73 => ?_)
                refine z_putN (host := "WattgovernModel") (g' := (zup g p0 4 (.int v5))) (k := 11) (j := 13) hM hE hI hr38 rfl rfl hinX9 tyX9 tyX9_ok nmX9 rfl (by decide) (by decide +kernel) (fun _ h9 => h9) rfl rfl rfl rfl ⟨_, rfl⟩ (fun _ _ _ => rfl) dX11_tick_167 (fun H locs hI => ?_)
                refine lv_iinc (v := nI (i12 + 1)) (lv' := [(1, .int ((nI (i12 + 1)))), (0, .ref p0)]) hx hb dX11_tick_170 hl (k := 1) rfl (z_inc i12) (by decide) rfl (fun ls hl => ?_)
                refine lv_goto (tgt := 40) hx hb dX11_tick_173 (by decide) ?_
                exact ih40 _ _ ((i12 + 1)) (by first | omega | (simp only [] at *; omega)) (by first | omega | (simp only [] at *; omega)) hI ls (lv_sub hl [1, 0] rfl)
              refine lv_icmp_lt (tgt := 165) hx hb dX11_tick_158 (by decide) (fun c74 => ?_) (fun c74 => ?_)
              · skip
                refine lv_iconst (v := 0) hx hb dX11_tick_165 (by decide) ?_
                exact hL166 _ _ 0 hI ls (lv_sub hl [0, 1] rfl)
              · skip
                refine lv_iconst (v := 1) hx hb dX11_tick_161 (by decide) ?_
                refine lv_goto (tgt := 166) hx hb dX11_tick_162 (by decide) ?_
                exact hL166 _ _ 1 hI ls (lv_sub hl [0, 1] rfl)
            have hL137 : ∀ (H : Heap) (locs : List Loc)    (hI : zI D tc (zA [] L s.heap.size) s.heap [] L κ (zup g p0 4 (.int v5)) H locs) (ls : Array Slot) (hl : lv_has ls 3 [(0, .ref p0), (1, .int ((nI i12))), (2, .ref ((cf i12)))]), W p l e9 (headSpec wsX11_tick ({ frames := 5, cells := 37, slots := 162, locals := 112 })).room s m ([.ref p0] : List Value).toArray below meth c H locs 0 0 (MQ below (va_Qv (fun (u : zS) => ∃ g2 : Nat → Nat → Value, u = (L, κ, g2) ∧ zTk p0 p0 4 14 16 g g2 (t9 + 1) (if w9 ≤ 0 then h9 else w9) (if w9 ≤ 0 then w9 else 0)) (fun (u : zS) (t : State) => zB D tc (zA [] L s.heap.size) [] u t) (zA [] L s.heap.size)) ([.ref p0] : List Value).toArray s 37 162 (zA [] L s.heap.size)) (F0 m 137 ls [.ref ((cf i12))]) := by
              intro H locs hI ls hl
              refine lv_iconst (v := 1) hx hb dX11_tick_137 (by decide) ?_
              refine lv_goto (tgt := 142) hx hb dX11_tick_138 (by decide) ?_
              exact hL142 _ _ 1 (by first | assumption | exact Or.inl rfl | exact Or.inr rfl) hI ls (lv_sub hl [0, 1, 2] rfl)
            refine lv_icmp_ge (tgt := 137) hx hb dX11_tick_116 (by decide) (fun c75 => ?_) (fun c75 => ?_)
            · skip
              exact hL137 _ _ hI ls (lv_sub hl [0, 1, 2] rfl)
            · skip
              refine lv_aload_n hx hb dX11_tick_119 rfl (lv_at hl 2 rfl) ?_
              refine z_getN (host := "WattgovernModel") (k := 11) (j := 16) hM hE hI hr38 rfl rfl hinX9 rfl (by decide) (by decide +kernel) (fun _ h9 => h9) dX11_tick_120 (fun v76 hv77 => ?_)
              obtain ⟨i78, rfl, hz79⟩ := zv_b hv77
              have hL141 : ∀ (H : Heap) (locs : List Loc)    (hI : zI D tc (zA [] L s.heap.size) s.heap [] L κ (zup g p0 4 (.int v5)) H locs) (ls : Array Slot) (hl : lv_has ls 3 [(0, .ref p0), (1, .int ((nI i12))), (2, .ref ((cf i12)))]), W p l e9 (headSpec wsX11_tick ({ frames := 5, cells := 37, slots := 162, locals := 112 })).room s m ([.ref p0] : List Value).toArray below meth c H locs 0 0 (MQ below (va_Qv (fun (u : zS) => ∃ g2 : Nat → Nat → Value, u = (L, κ, g2) ∧ zTk p0 p0 4 14 16 g g2 (t9 + 1) (if w9 ≤ 0 then h9 else w9) (if w9 ≤ 0 then w9 else 0)) (fun (u : zS) (t : State) => zB D tc (zA [] L s.heap.size) [] u t) (zA [] L s.heap.size)) ([.ref p0] : List Value).toArray s 37 162 (zA [] L s.heap.size)) (F0 m 141 ls [.ref ((cf i12))]) := by
                intro H locs hI ls hl
                refine lv_iconst (v := 0) hx hb dX11_tick_141 (by decide) ?_
                exact hL142 _ _ 0 (by first | assumption | exact Or.inl rfl | exact Or.inr rfl) hI ls (lv_sub hl [0, 1, 2] rfl)
              refine lv_if_eq (tgt := 141) hx hb dX11_tick_123 (by decide) (fun c80 => ?_) (fun c80 => ?_)
              · skip
                exact hL141 _ _ hI ls (lv_sub hl [0, 1, 2] rfl)
              · skip
                refine lv_aload_n hx hb dX11_tick_126 rfl (lv_at hl 0 rfl) ?_
                refine z_get (k := 13) (j := 3) hM hI hk0 rfl rfl hinX11 rfl (by decide) (by decide +kernel) (fun _ h9 => h9) dX11_tick_127 (fun v81 hv82 => ?_)
                obtain ⟨hg84, i83, rfl, hr85⟩ := hv82
                refine lv_iload_n hx hb dX11_tick_130 rfl (lv_at hl 1 rfl) ?_
                refine z_iald hM hI hr85 rfl rfl (vp_in_nI (by omega) (by omega)) dX11_tick_131 (fun v86 hv87 => ?_)
                refine lv_bipush (v := 90) hx hb dX11_tick_132 (by decide) ?_
                refine lv_icmp_lt (tgt := 141) hx hb dX11_tick_134 (by decide) (fun c88 => ?_) (fun c88 => ?_)
                · skip
                  exact hL141 _ _ hI ls (lv_sub hl [0, 1, 2] rfl)
                · skip
                  exact hL137 _ _ hI ls (lv_sub hl [0, 1, 2] rfl)
          refine lv_if_ne (tgt := 107) hx hb dX11_tick_83 (by decide) (fun c89 => ?_) (fun c89 => ?_)
          · skip
            exact hL107 _ _ hI ls (lv_sub hl [1, 2, 0] rfl)
          · skip
            refine lv_aload_n hx hb dX11_tick_86 rfl (lv_at hl 0 rfl) ?_
            refine lv_aload_n hx hb dX11_tick_87 rfl (lv_at hl 1 rfl) ?_
            refine z_get (k := 13) (j := 3) hM hI hk0 rfl rfl hinX11 rfl (by decide) (by decide +kernel) (fun _ h9 => h9) dX11_tick_88 (fun v90 hv91 => ?_)
            obtain ⟨hg93, i92, rfl, hr94⟩ := hv91
            refine lv_iload_n hx hb dX11_tick_91 rfl (lv_at hl 2 rfl) ?_
            refine z_iald hM hI hr94 rfl rfl (vp_in_nI (by omega) (by omega)) dX11_tick_92 (fun v95 hv96 => ?_)
            refine lv_aload_n hx hb dX11_tick_93 rfl (lv_at hl 1 rfl) ?_
            refine z_get (k := 13) (j := 3) hM hI hk0 rfl rfl hinX11 rfl (by decide) (by decide +kernel) (fun _ h9 => h9) dX11_tick_94 (fun v97 hv98 => ?_)
            obtain ⟨hg100, i99, rfl, hr101⟩ := hv98
            refine lv_iload_n hx hb dX11_tick_97 rfl (lv_at hl 2 rfl) ?_
            refine z_iald hM hI hr101 rfl rfl (vp_in_nI (by omega) (by omega)) dX11_tick_98 (fun v102 hv103 => ?_)
            refine lv_iconst (v := 2) hx hb dX11_tick_99 (by decide) ?_
            refine vp_callSi (W.runS (As := [.int v102, .int 2]) (rest := [.int v95, .ref ((cf i12))]) ⟨hx, hb, hml, hown, hts⟩ (c_J9_floorMod_7cf53 l D tc z0 _ κ (zup g p0 4 (.int v5)) _ v102 2 (by decide)) (va_cwS 2 hts gX11_tick_J9_floorMod_7cf53 rfl rfl rfl (by decide +kernel) ⟨Nat.le_of_ble_eq_true rfl, Nat.le_of_ble_eq_true rfl⟩) (z_pre hK hE hI [] rfl rfl) rfl rfl hl.1 rfl (lv_room (Nat.le_of_ble_eq_true rfl)) dX11_tick_100 ⟨(Nat.le_of_ble_eq_true rfl), (Nat.le_of_ble_eq_true rfl)⟩) (fun v104 hw105 => ?_)
            refine lv_isub hx hb dX11_tick_103 ?_
            refine lv_topi (fun v106 e107 => ?_)
            refine z_putN (host := "WattgovernModel") (g' := (zup g p0 4 (.int v5))) (k := 11) (j := 14) hM hE hI hr38 rfl rfl hinX9 tyX9 tyX9_ok nmX9 rfl (by decide) (by decide +kernel) (fun _ h9 => h9) rfl rfl rfl rfl ⟨_, rfl⟩ (fun _ _ _ => rfl) dX11_tick_104 (fun H locs hI => ?_)
            exact hL107 _ _ hI ls (lv_sub hl [1, 2, 0] rfl)
    exact hL40 (nC + 1) _ _ 0 (by first | omega | (simp only [] at *; omega)) (by first | omega | (simp only [] at *; omega)) hI ls (lv_sub hl [1, 0] rfl)
  · skip
    refine lv_aload_n hx hb dX11_tick_17 rfl (lv_at hl 0 rfl) ?_
    refine lv_aload_n hx hb dX11_tick_18 rfl (lv_at hl 0 rfl) ?_
    refine z_get (k := 13) (j := 16) hM hI hk0 rfl rfl hinX11 rfl (by decide) (by decide +kernel) (fun _ h9 => h9) dX11_tick_19 (fun v108 hv109 => ?_)
    obtain ⟨hg111, i110, rfl⟩ := hv109
    obtain rfl : w9 = i110 := Value.int.inj ((((zup_ne (Or.inr (by decide))).trans hw9)).symm.trans hg111.symm)
    refine z_put (g' := (zup (zup g p0 4 (.int v5)) p0 14 (.int w9))) (k := 13) (j := 14) hM hI hk0 rfl rfl hinX11 tyX11 tyX11_ok nmX11 rfl (by decide) (by decide +kernel) (fun _ h9 => h9) rfl rfl rfl rfl ⟨(zup_self _ _ _ _).symm, _, rfl⟩ (fun b i h => zup_ne h) dX11_tick_22 (fun H locs hI => ?_)
    have hMo := hMo.upP (j := 14) (v := .int w9) (by decide)
    refine lv_aload_n hx hb dX11_tick_25 rfl (lv_at hl 0 rfl) ?_
    refine lv_aload_n hx hb dX11_tick_26 rfl (lv_at hl 0 rfl) ?_
    refine z_get (k := 13) (j := 17) hM hI hk0 rfl rfl hinX11 rfl (by decide) (by decide +kernel) (fun _ h9 => h9) dX11_tick_27 (fun v112 hv113 => ?_)
    obtain ⟨i114, rfl⟩ := hv113
    refine z_put (g' := (zup (zup g p0 4 (.int v5)) p0 14 (.int w9))) (k := 13) (j := 15) hM hI hk0 rfl rfl hinX11 tyX11 tyX11_ok nmX11 rfl (by decide) (by decide +kernel) (fun _ h9 => h9) rfl rfl rfl rfl ⟨_, rfl⟩ (fun _ _ _ => rfl) dX11_tick_30 (fun H locs hI => ?_)
    refine lv_aload_n hx hb dX11_tick_33 rfl (lv_at hl 0 rfl) ?_
    refine lv_iconst (v := 0) hx hb dX11_tick_34 (by decide) ?_
    refine z_put (g' := (zup (zup (zup g p0 4 (.int v5)) p0 14 (.int w9)) p0 16 (.int 0))) (k := 13) (j := 16) hM hI hk0 rfl rfl hinX11 tyX11 tyX11_ok nmX11 rfl (by decide) (by decide +kernel) (fun _ h9 => h9) rfl rfl rfl rfl ⟨(zup_self _ _ _ _).symm, _, rfl⟩ (fun b i h => zup_ne h) dX11_tick_35 (fun H locs hI => ?_)
    have hMo := hMo.upP (j := 16) (v := .int 0) (by decide)
    refine lv_iconst (v := 0) hx hb dX11_tick_38 (by decide) ?_
    refine lv_istore_n (lv' := [(1, .int 0), (0, .ref p0)]) hx hb dX11_tick_39 rfl hl (by decide) rfl (fun ls hl => ?_)
    have hL40 : ∀ (n : Nat) (H : Heap) (locs : List Loc)   (i115 : Nat) (hi : i115 ≤ nC) (hn : nC - i115 < n)  (hI : zI D tc (zA [] L s.heap.size) s.heap [] L κ (zup (zup (zup g p0 4 (.int v5)) p0 14 (.int w9)) p0 16 (.int 0)) H locs) (ls : Array Slot) (hl : lv_has ls 3 [(0, .ref p0), (1, .int ((nI i115)))]), W p l e9 (headSpec wsX11_tick ({ frames := 5, cells := 37, slots := 162, locals := 112 })).room s m ([.ref p0] : List Value).toArray below meth c H locs 0 0 (MQ below (va_Qv (fun (u : zS) => ∃ g2 : Nat → Nat → Value, u = (L, κ, g2) ∧ zTk p0 p0 4 14 16 g g2 (t9 + 1) (if w9 ≤ 0 then h9 else w9) (if w9 ≤ 0 then w9 else 0)) (fun (u : zS) (t : State) => zB D tc (zA [] L s.heap.size) [] u t) (zA [] L s.heap.size)) ([.ref p0] : List Value).toArray s 37 162 (zA [] L s.heap.size)) (F0 m 40 ls []) := by
      intro n
      induction n with
      | zero => intro H locs i115 hi hn hI ls hl; exact absurd hn (Nat.not_lt_zero _)
      | succ n ih40 =>
        intro H locs i115 hi hn hI ls hl
        refine lv_iload_n hx hb dX11_tick_40 rfl (lv_at hl 1 rfl) ?_
        refine lv_aload_n hx hb dX11_tick_41 rfl (lv_at hl 0 rfl) ?_
        refine z_get (k := 13) (j := 0) hM hI hk0 rfl rfl hinX11 rfl (by decide) (by decide +kernel) (fun _ h9 => h9) dX11_tick_42 (fun v116 hv117 => ?_)
        obtain ⟨hg119, i118, rfl, hr120⟩ := hv117
        obtain rfl : lc = i118 := Value.ref.inj (hMo.gc.symm.trans hg119.symm)
        refine va_csFi (va_runF (As := []) (rest := [.int ((nI i115))]) (hK.1 1 _ rfl).2 ⟨hx, hb, hml, hown, hts⟩ (c_Jx4a65c_size_8abf5 l D tc z0 _ κ (zup (zup (zup g p0 4 (.int v5)) p0 14 (.int w9)) p0 16 (.int 0)) _ lc 1 eC 25 11 nC mC cf rfl hMo.LC) (va_cwF 0 hts gX11_tick_Jx4a65c_size_8abf5_f46Jx4a65c rfl rfl rfl (hE.2.2.1 (RJx4a65c, ⟨"java/util/List", "size", "()I"⟩, yJx4a65c_size_8abf5) (by decide +kernel)) (by decide +kernel) ⟨Nat.le_of_ble_eq_true rfl, Nat.le_of_ble_eq_true rfl⟩) (z_preV (Xc := []) hK hE hI [] rfl rfl (z_recv hK hI hMo.LC.1 rfl rfl)) rfl rfl hl.1 rfl (lv_room (Nat.le_of_ble_eq_true rfl)) dX11_tick_45 ⟨(Nat.le_of_ble_eq_true rfl), (Nat.le_of_ble_eq_true rfl)⟩) (fun v121 hw122 => ?_)
        obtain rfl := hw122
        refine lv_icmp_ge (tgt := 176) hx hb dX11_tick_50 (by decide) (fun c123 => ?_) (fun c123 => ?_)
        · skip
          have hgec123 : nC ≤ i115 := z_ge (by omega) (by omega) c123
          refine lv_aload_n hx hb dX11_tick_176 rfl (lv_at hl 0 rfl) ?_
          refine z_cvX (Xc := []) (wr := []) (rx := []) [] [] rfl rfl rfl rfl (by decide) hI (va_runV (As := []) (rest := []) ⟨hx, hb, hml, hown, hts⟩ (c_X11_sleeps l D tc z0 _ κ (zup (zup (zup g p0 4 (.int v5)) p0 14 (.int w9)) p0 16 (.int 0)) _ p0 hk0 lc eC nC mC cf lt eT nT mT tf hMo) (cwV 0 hts gX11_tick_X11_sleeps rfl rfl rfl (by decide +kernel) ⟨Nat.le_of_ble_eq_true rfl, Nat.le_of_ble_eq_true rfl⟩) (z_preV (Xc := []) hK hE hI [] rfl rfl (z_recv hK hI hk0 rfl rfl)) rfl rfl hl.1 rfl (lv_room (Nat.le_of_ble_eq_true rfl)) dX11_tick_177 ⟨(Nat.le_of_ble_eq_true rfl), (Nat.le_of_ble_eq_true rfl)⟩) (fun u H locs hw125 hI => ?_)
          obtain rfl := hw125
          have hI : zI D tc _ s.heap [] L κ (zup (zup (zup g p0 4 (.int v5)) p0 14 (.int w9)) p0 16 (.int 0)) _ _ := hI
          refine lv_aload_n hx hb dX11_tick_180 rfl (lv_at hl 0 rfl) ?_
          refine z_cvX (Xc := []) (wr := []) (rx := []) [] [] rfl rfl rfl rfl (by decide) hI (va_runV (As := []) (rest := []) ⟨hx, hb, hml, hown, hts⟩ (c_X11_wishes l D tc z0 _ κ (zup (zup (zup g p0 4 (.int v5)) p0 14 (.int w9)) p0 16 (.int 0)) _ p0 hk0 lc eC nC mC cf lt eT nT mT tf hMo) (cwV 0 hts gX11_tick_X11_wishes rfl rfl rfl (by decide +kernel) ⟨Nat.le_of_ble_eq_true rfl, Nat.le_of_ble_eq_true rfl⟩) (z_preV (Xc := []) hK hE hI [] rfl rfl (z_recv hK hI hk0 rfl rfl)) rfl rfl hl.1 rfl (lv_room (Nat.le_of_ble_eq_true rfl)) dX11_tick_181 ⟨(Nat.le_of_ble_eq_true rfl), (Nat.le_of_ble_eq_true rfl)⟩) (fun u H locs hw127 hI => ?_)
          obtain rfl := hw127
          have hI : zI D tc _ s.heap [] L κ (zup (zup (zup g p0 4 (.int v5)) p0 14 (.int w9)) p0 16 (.int 0)) _ _ := hI
          refine lv_aload_n hx hb dX11_tick_184 rfl (lv_at hl 0 rfl) ?_
          refine z_cvX (Xc := []) (wr := []) (rx := []) [] [] rfl rfl rfl rfl (by decide) hI (va_runV (As := []) (rest := []) ⟨hx, hb, hml, hown, hts⟩ (c_X11_rails l D tc z0 _ κ (zup (zup (zup g p0 4 (.int v5)) p0 14 (.int w9)) p0 16 (.int 0)) _ p0 hk0 lc eC nC mC cf lt eT nT mT tf hMo) (cwV 0 hts gX11_tick_X11_rails rfl rfl rfl (by decide +kernel) ⟨Nat.le_of_ble_eq_true rfl, Nat.le_of_ble_eq_true rfl⟩) (z_preV (Xc := []) hK hE hI [] rfl rfl (z_recv hK hI hk0 rfl rfl)) rfl rfl hl.1 rfl (lv_room (Nat.le_of_ble_eq_true rfl)) dX11_tick_185 ⟨(Nat.le_of_ble_eq_true rfl), (Nat.le_of_ble_eq_true rfl)⟩) (fun u H locs hw129 hI => ?_)
          obtain rfl := hw129
          have hI : zI D tc _ s.heap [] L κ (zup (zup (zup g p0 4 (.int v5)) p0 14 (.int w9)) p0 16 (.int 0)) _ _ := hI
          refine lv_aload_n hx hb dX11_tick_188 rfl (lv_at hl 0 rfl) ?_
          refine z_cvX (Xc := []) (wr := []) (rx := []) [] [] rfl rfl rfl rfl (by decide) hI (va_runV (As := []) (rest := []) ⟨hx, hb, hml, hown, hts⟩ (c_X11_works l D tc z0 _ κ (zup (zup (zup g p0 4 (.int v5)) p0 14 (.int w9)) p0 16 (.int 0)) _ p0 hk0 lc eC nC mC cf lt eT nT mT tf hMo) (cwV 0 hts gX11_tick_X11_works rfl rfl rfl (by decide +kernel) ⟨Nat.le_of_ble_eq_true rfl, Nat.le_of_ble_eq_true rfl⟩) (z_preV (Xc := []) hK hE hI [] rfl rfl (z_recv hK hI hk0 rfl rfl)) rfl rfl hl.1 rfl (lv_room (Nat.le_of_ble_eq_true rfl)) dX11_tick_189 ⟨(Nat.le_of_ble_eq_true rfl), (Nat.le_of_ble_eq_true rfl)⟩) (fun u H locs hw131 hI => ?_)
          obtain rfl := hw131
          have hI : zI D tc _ s.heap [] L κ (zup (zup (zup g p0 4 (.int v5)) p0 14 (.int w9)) p0 16 (.int 0)) _ _ := hI
          refine lv_aload_n hx hb dX11_tick_192 rfl (lv_at hl 0 rfl) ?_
          refine z_cvX (Xc := []) (wr := []) (rx := []) [] [] rfl rfl rfl rfl (by decide) hI (va_runV (As := []) (rest := []) ⟨hx, hb, hml, hown, hts⟩ (c_X11_heats l D tc z0 _ κ (zup (zup (zup g p0 4 (.int v5)) p0 14 (.int w9)) p0 16 (.int 0)) _ p0 hk0 lc eC nC mC cf lt eT nT mT tf hMo) (cwV 0 hts gX11_tick_X11_heats rfl rfl rfl (by decide +kernel) ⟨Nat.le_of_ble_eq_true rfl, Nat.le_of_ble_eq_true rfl⟩) (z_preV (Xc := []) hK hE hI [] rfl rfl (z_recv hK hI hk0 rfl rfl)) rfl rfl hl.1 rfl (lv_room (Nat.le_of_ble_eq_true rfl)) dX11_tick_193 ⟨(Nat.le_of_ble_eq_true rfl), (Nat.le_of_ble_eq_true rfl)⟩) (fun u H locs hw133 hI => ?_)
          obtain rfl := hw133
          have hI : zI D tc _ s.heap [] L κ (zup (zup (zup g p0 4 (.int v5)) p0 14 (.int w9)) p0 16 (.int 0)) _ _ := hI
          refine W.widen (k := 37) (n := 162) (Nat.le_of_ble_eq_true rfl) (Nat.le_of_ble_eq_true rfl) ?_
          exact W.vret hx hb hr (fun t ht hW => ⟨⟨(L, κ, (zup (zup (zup g p0 4 (.int v5)) p0 14 (.int w9)) p0 16 (.int 0))), rfl, ⟨_, rfl, (by subst_vars; first | exact zTkM_A c11 | exact zTkM_B c11 hh9 hw9)⟩, z_end hK hI ht hW⟩, z_F hI ht⟩) (z_locs hI) dX11_tick_196
        · skip
          have hltc123 : i115 < nC := z_lt (by omega) c123
          refine lv_aload_n hx hb dX11_tick_53 rfl (lv_at hl 0 rfl) ?_
          refine z_get (k := 13) (j := 0) hM hI hk0 rfl rfl hinX11 rfl (by decide) (by decide +kernel) (fun _ h9 => h9) dX11_tick_54 (fun v134 hv135 => ?_)
          obtain ⟨hg137, i136, rfl, hr138⟩ := hv135
          obtain rfl : lc = i136 := Value.ref.inj (hMo.gc.symm.trans hg137.symm)
          refine lv_iload_n hx hb dX11_tick_57 rfl (lv_at hl 1 rfl) ?_
          refine va_csFq (va_runF (As := [.int ((nI i115))]) (rest := []) (hK.1 1 _ rfl).2 ⟨hx, hb, hml, hown, hts⟩ (c_Jx4a65c_get_915e3 l D tc z0 _ κ (zup (zup (zup g p0 4 (.int v5)) p0 14 (.int w9)) p0 16 (.int 0)) _ lc 1 eC 25 11 nC mC cf rfl hMo.LC rfl rfl i115 (by omega)) (va_cwF 1 hts gX11_tick_Jx4a65c_get_915e3_f101Jx4a65c rfl rfl rfl (hE.2.2.1 (RJx4a65c, ⟨"java/util/List", "get", "(I)Ljava/lang/Object;"⟩, yJx4a65c_get_915e3) (by decide +kernel)) (by decide +kernel) ⟨Nat.le_of_ble_eq_true rfl, Nat.le_of_ble_eq_true rfl⟩) (z_preV (Xc := []) hK hE hI [] rfl rfl (z_recv hK hI hMo.LC.1 rfl rfl)) rfl rfl hl.1 rfl (lv_room (Nat.le_of_ble_eq_true rfl)) dX11_tick_58 ⟨(Nat.le_of_ble_eq_true rfl), (Nat.le_of_ble_eq_true rfl)⟩) (fun r139 hw140 => ?_)
          obtain rfl := hw140
          have hr141 : κ (cf i115) = 11 := hMo.LC.el (i := i115) (by omega)
          show W p l e9 (headSpec wsX11_tick ({ frames := 5, cells := 37, slots := 162, locals := 112 })).room s m ([.ref p0] : List Value).toArray below meth c _ _ 0 0 (MQ below (va_Qv (fun (u : zS) => ∃ g2 : Nat → Nat → Value, u = (L, κ, g2) ∧ zTk p0 p0 4 14 16 g g2 (t9 + 1) (if w9 ≤ 0 then h9 else w9) (if w9 ≤ 0 then w9 else 0)) (fun (u : zS) (t : State) => zB D tc (zA [] L s.heap.size) [] u t) (zA [] L s.heap.size)) ([.ref p0] : List Value).toArray s 37 162 (zA [] L s.heap.size)) (F0 m 63 ls (.ref (cf i115) :: []))
          refine z_castS (k := 11) hM hI hr141 rfl rfl (by decide +kernel) dX11_tick_63 ?_
          refine lv_astore_n (lv' := [(2, .ref ((cf i115))), (0, .ref p0), (1, .int ((nI i115)))]) hx hb dX11_tick_66 rfl hl (by decide) rfl (fun ls hl => ?_)
          refine lv_aload_n hx hb dX11_tick_67 rfl (lv_at hl 1 rfl) ?_
          refine z_get (k := 13) (j := 3) hM hI hk0 rfl rfl hinX11 rfl (by decide) (by decide +kernel) (fun _ h9 => h9) dX11_tick_68 (fun v142 hv143 => ?_)
          obtain ⟨hg145, i144, rfl, hr146⟩ := hv143
          refine lv_iload_n hx hb dX11_tick_71 rfl (lv_at hl 2 rfl) ?_
          refine lv_aload_n hx hb dX11_tick_72 rfl (lv_at hl 0 rfl) ?_
          refine vp_callSi (va_Run.run (va_runVN (As := []) (rest := [.int ((nI i115)), .ref i144]) ⟨hx, hb, hml, hown, hts⟩ (c_X9_degrees l D tc z0 _ κ (zup (zup (zup g p0 4 (.int v5)) p0 14 (.int w9)) p0 16 (.int 0)) _ ((cf i115)) hr141) ⟨va_cnB 0 hts gX11_tick_X9_degrees_n133 rfl rfl rfl (hE.1 (.methodLinkNest RX11 133 yX9_degrees "WattgovernModel") (by decide +kernel) rfl) (hts (.initialized yX9_degrees.cls) (by decide +kernel)) (by decide +kernel) ⟨Nat.le_of_ble_eq_true rfl, Nat.le_of_ble_eq_true rfl⟩, hts (.instanceMethod yX9_degrees) (by decide +kernel), hts (.selects RX9 yX9_degrees yX9_degrees) (by decide +kernel)⟩ (z_preV (Xc := []) hK hE hI [] rfl rfl (z_recv hK hI hr141 rfl rfl)) rfl rfl hl.1 rfl (lv_room (Nat.le_of_ble_eq_true rfl)) dX11_tick_73 ⟨(Nat.le_of_ble_eq_true rfl), (Nat.le_of_ble_eq_true rfl)⟩)) (fun v147 hw148 => ?_)
          refine z_iast (g' := (zup (zup (zup g p0 4 (.int v5)) p0 14 (.int w9)) p0 16 (.int 0))) hM hI hr146 rfl rfl (vp_in_nI (by omega) (by omega)) ⟨_, rfl⟩ (fun _ _ _ => rfl) dX11_tick_76 (fun H locs hI => ?_)
          refine lv_aload_n hx hb dX11_tick_77 rfl (lv_at hl 1 rfl) ?_
          refine z_get (k := 13) (j := 4) hM hI hk0 rfl rfl hinX11 rfl (by decide) (by decide +kernel) (fun _ h9 => h9) dX11_tick_78 (fun v149 hv150 => ?_)
          obtain ⟨hg152, i151, rfl⟩ := hv150
          refine lv_iconst (v := 4) hx hb dX11_tick_81 (by decide) ?_
          refine lv_irem hx hb dX11_tick_82 (by decide) ?_
          refine lv_topi (fun v153 e154 => ?_)
          have hL107 : ∀ (H : Heap) (locs : List Loc)    (hI : zI D tc (zA [] L s.heap.size) s.heap [] L κ (zup (zup (zup g p0 4 (.int v5)) p0 14 (.int w9)) p0 16 (.int 0)) H locs) (ls : Array Slot) (hl : lv_has ls 3 [(0, .ref p0), (1, .int ((nI i115))), (2, .ref ((cf i115)))]), W p l e9 (headSpec wsX11_tick ({ frames := 5, cells := 37, slots := 162, locals := 112 })).room s m ([.ref p0] : List Value).toArray below meth c H locs 0 0 (MQ below (va_Qv (fun (u : zS) => ∃ g2 : Nat → Nat → Value, u = (L, κ, g2) ∧ zTk p0 p0 4 14 16 g g2 (t9 + 1) (if w9 ≤ 0 then h9 else w9) (if w9 ≤ 0 then w9 else 0)) (fun (u : zS) (t : State) => zB D tc (zA [] L s.heap.size) [] u t) (zA [] L s.heap.size)) ([.ref p0] : List Value).toArray s 37 162 (zA [] L s.heap.size)) (F0 m 107 ls []) := by
            intro H locs hI ls hl
            refine lv_aload_n hx hb dX11_tick_107 rfl (lv_at hl 2 rfl) ?_
            refine lv_aload_n hx hb dX11_tick_108 rfl (lv_at hl 0 rfl) ?_
            refine z_get (k := 13) (j := 3) hM hI hk0 rfl rfl hinX11 rfl (by decide) (by decide +kernel) (fun _ h9 => h9) dX11_tick_109 (fun v155 hv156 => ?_)
            obtain ⟨hg158, i157, rfl, hr159⟩ := hv156
            refine lv_iload_n hx hb dX11_tick_112 rfl (lv_at hl 1 rfl) ?_
            refine z_iald hM hI hr159 rfl rfl (vp_in_nI (by omega) (by omega)) dX11_tick_113 (fun v160 hv161 => ?_)
            refine lv_bipush (v := 100) hx hb dX11_tick_114 (by decide) ?_
            have hL142 : ∀ (H : Heap) (locs : List Loc) (y162 : Int32) (hz163 : y162 = 0 ∨ y162 = 1)  (hI : zI D tc (zA [] L s.heap.size) s.heap [] L κ (zup (zup (zup g p0 4 (.int v5)) p0 14 (.int w9)) p0 16 (.int 0)) H locs) (ls : Array Slot) (hl : lv_has ls 3 [(0, .ref p0), (1, .int ((nI i115))), (2, .ref ((cf i115)))]), W p l e9 (headSpec wsX11_tick ({ frames := 5, cells := 37, slots := 162, locals := 112 })).room s m ([.ref p0] : List Value).toArray below meth c H locs 0 0 (MQ below (va_Qv (fun (u : zS) => ∃ g2 : Nat → Nat → Value, u = (L, κ, g2) ∧ zTk p0 p0 4 14 16 g g2 (t9 + 1) (if w9 ≤ 0 then h9 else w9) (if w9 ≤ 0 then w9 else 0)) (fun (u : zS) (t : State) => zB D tc (zA [] L s.heap.size) [] u t) (zA [] L s.heap.size)) ([.ref p0] : List Value).toArray s 37 162 (zA [] L s.heap.size)) (F0 m 142 ls [.int y162, .ref ((cf i115))]) := by
              intro H locs y162 hz163 hI ls hl
              refine z_putN (host := "WattgovernModel") (g' := (zup (zup (zup g p0 4 (.int v5)) p0 14 (.int w9)) p0 16 (.int 0))) (k := 11) (j := 16) hM hE hI hr141 rfl rfl hinX9 tyX9 tyX9_ok nmX9 rfl (by decide) (by decide +kernel) (fun _ h9 => h9) rfl rfl (z_bn (by first | assumption | exact Or.inl rfl | exact Or.inr rfl)) (z_bf (by first | assumption | exact Or.inl rfl | exact Or.inr rfl)) (z_bv (by first | assumption | exact Or.inl rfl | exact Or.inr rfl)) (fun _ _ _ => rfl) dX11_tick_142 (fun H locs hI => ?_)
              refine lv_aload_n hx hb dX11_tick_145 rfl (lv_at hl 2 rfl) ?_
              refine lv_dup hx hb dX11_tick_146 rfl ?_
              refine z_getN (host := "WattgovernModel") (k := 11) (j := 13) hM hE hI hr141 rfl rfl hinX9 rfl (by decide) (by decide +kernel) (fun _ h9 => h9) dX11_tick_147 (fun v164 hv165 => ?_)
              obtain ⟨i166, rfl⟩ := hv165
              refine lv_aload_n hx hb dX11_tick_150 rfl (lv_at hl 0 rfl) ?_
              refine z_get (k := 13) (j := 3) hM hI hk0 rfl rfl hinX11 rfl (by decide) (by decide +kernel) (fun _ h9 => h9) dX11_tick_151 (fun v167 hv168 => ?_)
              obtain ⟨hg170, i169, rfl, hr171⟩ := hv168
              refine lv_iload_n hx hb dX11_tick_154 rfl (lv_at hl 1 rfl) ?_
              refine z_iald hM hI hr171 rfl rfl (vp_in_nI (by omega) (by omega)) dX11_tick_155 (fun v172 hv173 => ?_)
              refine lv_bipush (v := 85) hx hb dX11_tick_156 (by decide) ?_
              have hL166 : ∀ (H : Heap) (locs : List Loc) (y174 : Int32)   (hI : zI D tc (zA [] L s.heap.size) s.heap [] L κ (zup (zup (zup g p0 4 (.int v5)) p0 14 (.int w9)) p0 16 (.int 0)) H locs) (ls : Array Slot) (hl : lv_has ls 3 [(0, .ref p0), (1, .int ((nI i115)))]), W p l e9 (headSpec wsX11_tick ({ frames := 5, cells := 37, slots := 162, locals := 112 })).room s m ([.ref p0] : List Value).toArray below meth c H locs 0 0 (MQ below (va_Qv (fun (u : zS) => ∃ g2 : Nat → Nat → Value, u = (L, κ, g2) ∧ zTk p0 p0 4 14 16 g g2 (t9 + 1) (if w9 ≤ 0 then h9 else w9) (if w9 ≤ 0 then w9 else 0)) (fun (u : zS) (t : State) => zB D tc (zA [] L s.heap.size) [] u t) (zA [] L s.heap.size)) ([.ref p0] : List Value).toArray s 37 162 (zA [] L s.heap.size)) (F0 m 166 ls [.int y174, .int i166, .ref ((cf i115))]) := by
                intro H locs y174 hI ls hl
                refine lv_iadd hx hb dX11_tick_166 ?_
                refine lv_topi (fun v175 e176 => ?_)
                refine z_putN (host := "WattgovernModel") (g' := (zup (zup (zup g p0 4 (.int v5)) p0 14 (.int w9)) p0 16 (.int 0))) (k := 11) (j := 13) hM hE hI hr141 rfl rfl hinX9 tyX9 tyX9_ok nmX9 rfl (by decide) (by decide +kernel) (fun _ h9 => h9) rfl rfl rfl rfl ⟨_, rfl⟩ (fun _ _ _ => rfl) dX11_tick_167 (fun H locs hI => ?_)
                refine lv_iinc (v := nI (i115 + 1)) (lv' := [(1, .int ((nI (i115 + 1)))), (0, .ref p0)]) hx hb dX11_tick_170 hl (k := 1) rfl (z_inc i115) (by decide) rfl (fun ls hl => ?_)
                refine lv_goto (tgt := 40) hx hb dX11_tick_173 (by decide) ?_
                exact ih40 _ _ ((i115 + 1)) (by first | omega | (simp only [] at *; omega)) (by first | omega | (simp only [] at *; omega)) hI ls (lv_sub hl [1, 0] rfl)
              refine lv_icmp_lt (tgt := 165) hx hb dX11_tick_158 (by decide) (fun c177 => ?_) (fun c177 => ?_)
              · skip
                refine lv_iconst (v := 0) hx hb dX11_tick_165 (by decide) ?_
                exact hL166 _ _ 0 hI ls (lv_sub hl [0, 1] rfl)
              · skip
                refine lv_iconst (v := 1) hx hb dX11_tick_161 (by decide) ?_
                refine lv_goto (tgt := 166) hx hb dX11_tick_162 (by decide) ?_
                exact hL166 _ _ 1 hI ls (lv_sub hl [0, 1] rfl)
            have hL137 : ∀ (H : Heap) (locs : List Loc)    (hI : zI D tc (zA [] L s.heap.size) s.heap [] L κ (zup (zup (zup g p0 4 (.int v5)) p0 14 (.int w9)) p0 16 (.int 0)) H locs) (ls : Array Slot) (hl : lv_has ls 3 [(0, .ref p0), (1, .int ((nI i115))), (2, .ref ((cf i115)))]), W p l e9 (headSpec wsX11_tick ({ frames := 5, cells := 37, slots := 162, locals := 112 })).room s m ([.ref p0] : List Value).toArray below meth c H locs 0 0 (MQ below (va_Qv (fun (u : zS) => ∃ g2 : Nat → Nat → Value, u = (L, κ, g2) ∧ zTk p0 p0 4 14 16 g g2 (t9 + 1) (if w9 ≤ 0 then h9 else w9) (if w9 ≤ 0 then w9 else 0)) (fun (u : zS) (t : State) => zB D tc (zA [] L s.heap.size) [] u t) (zA [] L s.heap.size)) ([.ref p0] : List Value).toArray s 37 162 (zA [] L s.heap.size)) (F0 m 137 ls [.ref ((cf i115))]) := by
              intro H locs hI ls hl
              refine lv_iconst (v := 1) hx hb dX11_tick_137 (by decide) ?_
              refine lv_goto (tgt := 142) hx hb dX11_tick_138 (by decide) ?_
              exact hL142 _ _ 1 (by first | assumption | exact Or.inl rfl | exact Or.inr rfl) hI ls (lv_sub hl [0, 1, 2] rfl)
            refine lv_icmp_ge (tgt := 137) hx hb dX11_tick_116 (by decide) (fun c178 => ?_) (fun c178 => ?_)
            · skip
              exact hL137 _ _ hI ls (lv_sub hl [0, 1, 2] rfl)
            · skip
              refine lv_aload_n hx hb dX11_tick_119 rfl (lv_at hl 2 rfl) ?_
              refine z_getN (host := "WattgovernModel") (k := 11) (j := 16) hM hE hI hr141 rfl rfl hinX9 rfl (by decide) (by decide +kernel) (fun _ h9 => h9) dX11_tick_120 (fun v179 hv180 => ?_)
              obtain ⟨i181, rfl, hz182⟩ := zv_b hv180
              have hL141 : ∀ (H : Heap) (locs : List Loc)    (hI : zI D tc (zA [] L s.heap.size) s.heap [] L κ (zup (zup (zup g p0 4 (.int v5)) p0 14 (.int w9)) p0 16 (.int 0)) H locs) (ls : Array Slot) (hl : lv_has ls 3 [(0, .ref p0), (1, .int ((nI i115))), (2, .ref ((cf i115)))]), W p l e9 (headSpec wsX11_tick ({ frames := 5, cells := 37, slots := 162, locals := 112 })).room s m ([.ref p0] : List Value).toArray below meth c H locs 0 0 (MQ below (va_Qv (fun (u : zS) => ∃ g2 : Nat → Nat → Value, u = (L, κ, g2) ∧ zTk p0 p0 4 14 16 g g2 (t9 + 1) (if w9 ≤ 0 then h9 else w9) (if w9 ≤ 0 then w9 else 0)) (fun (u : zS) (t : State) => zB D tc (zA [] L s.heap.size) [] u t) (zA [] L s.heap.size)) ([.ref p0] : List Value).toArray s 37 162 (zA [] L s.heap.size)) (F0 m 141 ls [.ref ((cf i115))]) := by
                intro H locs hI ls hl
                refine lv_iconst (v := 0) hx hb dX11_tick_141 (by decide) ?_
                exact hL142 _ _ 0 (by first | assumption | exact Or.inl rfl | exact Or.inr rfl) hI ls (lv_sub hl [0, 1, 2] rfl)
              refine lv_if_eq (tgt := 141) hx hb dX11_tick_123 (by decide) (fun c183 => ?_) (fun c183 => ?_)
              · skip
                exact hL141 _ _ hI ls (lv_sub hl [0, 1, 2] rfl)
              · skip
                refine lv_aload_n hx hb dX11_tick_126 rfl (lv_at hl 0 rfl) ?_
                refine z_get (k := 13) (j := 3) hM hI hk0 rfl rfl hinX11 rfl (by decide) (by decide +kernel) (fun _ h9 => h9) dX11_tick_127 (fun v184 hv185 => ?_)
                obtain ⟨hg187, i186, rfl, hr188⟩ := hv185
                refine lv_iload_n hx hb dX11_tick_130 rfl (lv_at hl 1 rfl) ?_
                refine z_iald hM hI hr188 rfl rfl (vp_in_nI (by omega) (by omega)) dX11_tick_131 (fun v189 hv190 => ?_)
                refine lv_bipush (v := 90) hx hb dX11_tick_132 (by decide) ?_
                refine lv_icmp_lt (tgt := 141) hx hb dX11_tick_134 (by decide) (fun c191 => ?_) (fun c191 => ?_)
                · skip
                  exact hL141 _ _ hI ls (lv_sub hl [0, 1, 2] rfl)
                · skip
                  exact hL137 _ _ hI ls (lv_sub hl [0, 1, 2] rfl)
          refine lv_if_ne (tgt := 107) hx hb dX11_tick_83 (by decide) (fun c192 => ?_) (fun c192 => ?_)
          · skip
            exact hL107 _ _ hI ls (lv_sub hl [1, 2, 0] rfl)
          · skip
            refine lv_aload_n hx hb dX11_tick_86 rfl (lv_at hl 0 rfl) ?_
            refine lv_aload_n hx hb dX11_tick_87 rfl (lv_at hl 1 rfl) ?_
            refine z_get (k := 13) (j := 3) hM hI hk0 rfl rfl hinX11 rfl (by decide) (by decide +kernel) (fun _ h9 => h9) dX11_tick_88 (fun v193 hv194 => ?_)
            obtain ⟨hg196, i195, rfl, hr197⟩ := hv194
            refine lv_iload_n hx hb dX11_tick_91 rfl (lv_at hl 2 rfl) ?_
            refine z_iald hM hI hr197 rfl rfl (vp_in_nI (by omega) (by omega)) dX11_tick_92 (fun v198 hv199 => ?_)
            refine lv_aload_n hx hb dX11_tick_93 rfl (lv_at hl 1 rfl) ?_
            refine z_get (k := 13) (j := 3) hM hI hk0 rfl rfl hinX11 rfl (by decide) (by decide +kernel) (fun _ h9 => h9) dX11_tick_94 (fun v200 hv201 => ?_)
            obtain ⟨hg203, i202, rfl, hr204⟩ := hv201
            refine lv_iload_n hx hb dX11_tick_97 rfl (lv_at hl 2 rfl) ?_
            refine z_iald hM hI hr204 rfl rfl (vp_in_nI (by omega) (by omega)) dX11_tick_98 (fun v205 hv206 => ?_)
            refine lv_iconst (v := 2) hx hb dX11_tick_99 (by decide) ?_
            refine vp_callSi (W.runS (As := [.int v205, .int 2]) (rest := [.int v198, .ref ((cf i115))]) ⟨hx, hb, hml, hown, hts⟩ (c_J9_floorMod_7cf53 l D tc z0 _ κ (zup (zup (zup g p0 4 (.int v5)) p0 14 (.int w9)) p0 16 (.int 0)) _ v205 2 (by decide)) (va_cwS 2 hts gX11_tick_J9_floorMod_7cf53 rfl rfl rfl (by decide +kernel) ⟨Nat.le_of_ble_eq_true rfl, Nat.le_of_ble_eq_true rfl⟩) (z_pre hK hE hI [] rfl rfl) rfl rfl hl.1 rfl (lv_room (Nat.le_of_ble_eq_true rfl)) dX11_tick_100 ⟨(Nat.le_of_ble_eq_true rfl), (Nat.le_of_ble_eq_true rfl)⟩) (fun v207 hw208 => ?_)
            refine lv_isub hx hb dX11_tick_103 ?_
            refine lv_topi (fun v209 e210 => ?_)
            refine z_putN (host := "WattgovernModel") (g' := (zup (zup (zup g p0 4 (.int v5)) p0 14 (.int w9)) p0 16 (.int 0))) (k := 11) (j := 14) hM hE hI hr141 rfl rfl hinX9 tyX9 tyX9_ok nmX9 rfl (by decide) (by decide +kernel) (fun _ h9 => h9) rfl rfl rfl rfl ⟨_, rfl⟩ (fun _ _ _ => rfl) dX11_tick_104 (fun H locs hI => ?_)
            exact hL107 _ _ hI ls (lv_sub hl [1, 2, 0] rfl)
    exact hL40 (nC + 1) _ _ 0 (by first | omega | (simp only [] at *; omega)) (by first | omega | (simp only [] at *; omega)) hI ls (lv_sub hl [1, 0] rfl)

set_option maxHeartbeats 4000000 in
set_option maxRecDepth 100000 in
theorem c_X11_pass (l : Launch) (D : va_G) (tc : Nat → ClassId) (z0 : Nat) (L : List Nat) (κ : Nat → Nat) (g : Nat → Nat → Value) (sz : Nat) (p0 : Nat) (hk0 : κ p0 = 13) (i1 : Nat) (lc eC nC : Nat) (mC : Int32) (cf : Nat → Nat) (lt eT nT : Nat) (mT : Int32) (tf : Nat → Nat) (hMo : zMo κ g z0 p0 lc eC nC mC cf lt eT nT mT tf) (h1i : 1 ≤ i1) (hi100 : i1 ≤ 100) (t9 : Int32) (ht9 : g p0 4 = .int t9) (w9 : Int32) (hw9 : g p0 16 = .int w9) (h9 : Int32) (hh9 : g p0 14 = .int h9) (hle : t9 + nI i1 ≤ 9999) : Met l yX11_pass wsX11_pass ({ frames := 6, cells := (37 * i1), slots := (162 * i1), locals := 134 }) (zPc D tc z0 [.ref p0, .int ((nI i1))] [] (L, κ, g) sz) (va_Qi (fun (r : Int32) (u : zS) => r = t9 + nI i1 ∧ ∃ g2 : Nat → Nat → Value, u = (L, κ, g2) ∧ zTk p0 p0 4 14 16 (zup g p0 12 (.int 0)) g2 (t9 + nI i1) (if w9 ≤ 0 then h9 else w9) (if w9 ≤ 0 then w9 else 0)) (fun (u : zS) (t : State) => zB D tc (zA [] L sz) [] u t) (zA [] L sz)) (37 * i1) (162 * i1) (zA [] L sz) := by
  refine Met.ofW (cc := cX11_pass) (maxL := 3) (ret := (some .int)) (by decide) rfl ?_
  intro p e9 s m args below meth c s₁ B hml hv
  obtain ⟨rfl, rfl, hK, hE, hI⟩ := hv.opn
  have hx := B.exec
  have hb := B.bytes
  have hr := B.returns
  have hts := atoms_spec (ws := wsX11_pass) B.pre
  have hown : s.vm.findClass RX11 = some m.cls := findClass_of_methodNamed B.named
  have hlocks := B.notSynchronized
  have hM : zM p s m c cX11_pass _ wsX11_pass RX11 D tc := ⟨hx, hb, hts, hown, hK⟩
  have hinX11 : ∀ w ∈ wsX110, w ∈ wsX11_pass := by decide +kernel
  have hnC := hMo.bC
  have hnT := hMo.bT
  have hl := lv_entry ([.ref p0, .int ((nI i1))]) (n := 3) (Nat.le_of_ble_eq_true rfl)
  rw [lg_entry_eq]
  generalize (lg_sl ([.ref p0, .int ((nI i1))]) ++ List.replicate (3 - (lg_sl ([.ref p0, .int ((nI i1))])).length) Slot.unset).toArray = ls at hl ⊢
  have hl : lv_has ls 3 [(0, .ref p0), (1, .int ((nI i1)))] := hl
  refine lv_aload_n hx hb dX11_pass_0 rfl (lv_at hl 0 rfl) ?_
  refine lv_iload_n hx hb dX11_pass_1 rfl (lv_at hl 1 rfl) ?_
  refine lv_iconst (v := 1) hx hb dX11_pass_2 (by decide) ?_
  refine lv_bipush (v := 100) hx hb dX11_pass_3 (by decide) ?_
  refine vp_callSi (W.runS (As := [.int ((nI i1)), .int 1, .int 100]) (rest := [.ref p0]) ⟨hx, hb, hml, hown, hts⟩ (c_X11_in l D tc z0 _ κ g _ ((nI i1)) 1 100) (va_cwS 3 hts gX11_pass_X11_in rfl rfl rfl (by decide +kernel) ⟨Nat.le_of_ble_eq_true rfl, Nat.le_of_ble_eq_true rfl⟩) (z_pre hK hE hI [] rfl rfl) rfl rfl hl.1 rfl (lv_room (Nat.le_of_ble_eq_true rfl)) dX11_pass_5 ⟨(show 0 + 0 ≤ (37 * i1) from by omega), (show 0 + 0 ≤ (162 * i1) from by omega)⟩) (fun v1 hw2 => ?_)
  obtain ⟨hw2, hz3⟩ := hw2
  obtain rfl : v1 = 1 := hz3.elim (fun h => absurd (hw2.mp h) (fun q => q ⟨nI_le (a := 1) (by omega) (by omega), nI_le (b := 100) (by omega) (by omega)⟩)) id
  refine lv_if_ne (tgt := 15) hx hb dX11_pass_8 (by decide) (fun _ => ?_) (fun h9 => by first | exact absurd h9 (by decide) | exact absurd (by decide) h9)
  refine lv_aload_n hx hb dX11_pass_15 rfl (lv_at hl 0 rfl) ?_
  refine z_get (k := 13) (j := 4) hM hI hk0 rfl rfl hinX11 rfl (by decide) (by decide +kernel) (fun _ h9 => h9) dX11_pass_16 (fun v4 hv5 => ?_)
  obtain ⟨hg7, i6, rfl⟩ := hv5
  obtain rfl : t9 = i6 := Value.int.inj ((ht9).symm.trans hg7.symm)
  refine lv_iload_n hx hb dX11_pass_19 rfl (lv_at hl 1 rfl) ?_
  refine lv_iadd hx hb dX11_pass_20 ?_
  refine lv_topi (fun v8 e10 => ?_)
  refine lv_sipush (v := 9999) hx hb dX11_pass_21 (by decide) ?_
  refine lv_icmp_le (tgt := 31) hx hb dX11_pass_24 (by decide) (fun c11 => ?_) (fun c11 => ?_)
  · skip
    refine lv_iconst (v := 0) hx hb dX11_pass_31 (by decide) ?_
    refine z_ciX (Xc := []) (wr := []) (rx := []) [] [] rfl rfl rfl rfl (by decide) hI (va_runV (As := [.int 0]) (rest := []) ⟨hx, hb, hml, hown, hts⟩ (c_X11_fails l D tc z0 _ κ g _ p0 hk0 0) (cwV 1 hts gX11_pass_X11_fails rfl rfl rfl (by decide +kernel) ⟨Nat.le_of_ble_eq_true rfl, Nat.le_of_ble_eq_true rfl⟩) (z_preV (Xc := []) hK hE hI [] rfl rfl (z_recv hK hI hk0 rfl rfl)) rfl rfl hl.1 rfl (lv_room (Nat.le_of_ble_eq_true rfl)) dX11_pass_32 ⟨(show 0 + 0 ≤ (37 * i1) from by omega), (show 0 + 0 ≤ (162 * i1) from by omega)⟩) (fun v12 u H locs hw13 hI => ?_)
    obtain ⟨hw13, rfl⟩ := hw13
    have hI : zI D tc _ s.heap [] L κ (zup g p0 12 (.int 0)) _ _ := hI
    have hMo := hMo.upP (j := 12) (v := .int 0) (by decide)
    obtain rfl : v12 = 0 := hw13.trans (by decide)
    refine lv_if_eq (tgt := 40) hx hb dX11_pass_35 (by decide) (fun _ => ?_) (fun h9 => by first | exact absurd h9 (by decide) | exact absurd (by decide) h9)
    refine lv_iconst (v := 0) hx hb dX11_pass_40 (by decide) ?_
    refine lv_istore_n (lv' := [(2, .int 0), (0, .ref p0), (1, .int ((nI i1)))]) hx hb dX11_pass_41 rfl hl (by decide) rfl (fun ls hl => ?_)
    have hL42 : ∀ (n : Nat) (H : Heap) (locs : List Loc)   (i14 : Nat) (hi : i14 ≤ i1) (hn : i1 - i14 < n) (g15 : Nat → Nat → Value) (hk9 : zTk p0 p0 4 14 16 (zup g p0 12 (.int 0)) g15 (t9 + nI i14) (if i14 = 0 ∨ w9 ≤ 0 then h9 else w9) (if i14 = 0 ∨ w9 ≤ 0 then w9 else 0)) (hMo : zMo κ g15 z0 p0 lc eC nC mC cf lt eT nT mT tf)  (hI : zI D tc (zA [] L s.heap.size) s.heap [] L κ g15 H locs) (ls : Array Slot) (hl : lv_has ls 3 [(0, .ref p0), (1, .int ((nI i1))), (2, .int ((nI i14)))]), W p l e9 (headSpec wsX11_pass ({ frames := 6, cells := (37 * i1), slots := (162 * i1), locals := 134 })).room s m ([.ref p0, .int ((nI i1))] : List Value).toArray below meth c H locs (0 + 37 * i14) (0 + 162 * i14) (MQ below (va_Qi (fun (r : Int32) (u : zS) => r = t9 + nI i1 ∧ ∃ g2 : Nat → Nat → Value, u = (L, κ, g2) ∧ zTk p0 p0 4 14 16 (zup g p0 12 (.int 0)) g2 (t9 + nI i1) (if w9 ≤ 0 then h9 else w9) (if w9 ≤ 0 then w9 else 0)) (fun (u : zS) (t : State) => zB D tc (zA [] L s.heap.size) [] u t) (zA [] L s.heap.size)) ([.ref p0, .int ((nI i1))] : List Value).toArray s (37 * i1) (162 * i1) (zA [] L s.heap.size)) (F0 m 42 ls []) := by
      intro n
      induction n with
      | zero => intro H locs i14 hi hn g15 hk9 hMo hI ls hl; exact absurd hn (Nat.not_lt_zero _)
      | succ n ih42 =>
        intro H locs i14 hi hn g15 hk9 hMo hI ls hl
        refine lv_iload_n hx hb dX11_pass_42 rfl (lv_at hl 2 rfl) ?_
        refine lv_iload_n hx hb dX11_pass_43 rfl (lv_at hl 1 rfl) ?_
        refine lv_icmp_ge (tgt := 57) hx hb dX11_pass_44 (by decide) (fun c16 => ?_) (fun c16 => ?_)
        · skip
          have hgec16 : i1 ≤ i14 := z_ge (by omega) (by omega) c16
          refine lv_aload_n hx hb dX11_pass_57 rfl (lv_at hl 0 rfl) ?_
          refine z_get (k := 13) (j := 4) hM hI hk0 rfl rfl hinX11 rfl (by decide) (by decide +kernel) (fun _ h9 => h9) dX11_pass_58 (fun v17 hv18 => ?_)
          obtain ⟨hg20, i19, rfl⟩ := hv18
          refine W.widen (k := (37 * i1)) (n := (162 * i1)) (by omega) (by omega) ?_
          exact W.iret (v := i19) hx hb hr (fun t ht hW => ⟨⟨_, (L, κ, g15), rfl, (zTkM_end h1i (by omega) (by omega) hk9 hg20), z_end hK hI ht hW⟩, z_F hI ht⟩) (z_locs hI) dX11_pass_61
        · skip
          have hltc16 : i14 < i1 := z_lt (by omega) c16
          refine lv_aload_n hx hb dX11_pass_47 rfl (lv_at hl 0 rfl) ?_
          refine z_cvX (Xc := []) (wr := []) (rx := []) [] [] rfl rfl rfl rfl (by decide) hI (va_runV (As := []) (rest := []) ⟨hx, hb, hml, hown, hts⟩ (c_X11_tick l D tc z0 _ κ g15 _ p0 hk0 lc eC nC mC cf lt eT nT mT tf hMo _ hk9.1 _ hk9.2.2.1 _ hk9.2.1) (cwV 0 hts gX11_pass_X11_tick rfl rfl rfl (by decide +kernel) ⟨Nat.le_of_ble_eq_true rfl, Nat.le_of_ble_eq_true rfl⟩) (z_preV (Xc := []) hK hE hI [] rfl rfl (z_recv hK hI hk0 rfl rfl)) rfl rfl hl.1 rfl (lv_room (Nat.le_of_ble_eq_true rfl)) dX11_pass_48 ⟨(show (0 + 37 * i14) + 37 ≤ (37 * i1) from by omega), (show (0 + 162 * i14) + 162 ≤ (162 * i1) from by omega)⟩) (fun u H locs hw22 hI => ?_)
          obtain ⟨g8, rfl, hk8⟩ := hw22
          have hI : zI D tc _ s.heap [] L κ g8 _ _ := hI
          refine W.widen (k := (37 + 37 * i14)) (n := (162 + 162 * i14)) (by omega) (by omega) ?_
          refine lv_iinc (v := nI (i14 + 1)) (lv' := [(2, .int ((nI (i14 + 1)))), (0, .ref p0), (1, .int ((nI i1)))]) hx hb dX11_pass_51 hl (k := 2) rfl (z_inc i14) (by decide) rfl (fun ls hl => ?_)
          refine lv_goto (tgt := 42) hx hb dX11_pass_54 (by decide) ?_
          refine W.widen (k := (0 + 37 * ((i14 + 1)))) (n := (0 + 162 * ((i14 + 1)))) (by omega) (by omega) ?_
          exact ih42 _ _ ((i14 + 1)) (by first | omega | (simp only [] at *; omega)) (by first | omega | (simp only [] at *; omega)) g8 (zTkM_step hk9 hk8) (hMo.tk hk8) hI ls (lv_sub hl [1, 2, 0] rfl)
    refine W.widen (k := (0 + 37 * 0)) (n := (0 + 162 * 0)) (by omega) (by omega) ?_
    exact hL42 (i1 + 1) _ _ 0 (by first | omega | (simp only [] at *; omega)) (by first | omega | (simp only [] at *; omega)) (zup g p0 12 (.int 0)) (zTk_0 ((zup_j (by decide)).trans ht9) ((zup_j (by decide)).trans hh9) ((zup_j (by decide)).trans hw9)) hMo hI ls (lv_sub hl [1, 2, 0] rfl)
  · skip
    exact absurd (by subst_vars; exact hle) c11

