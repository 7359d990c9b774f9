set_option maxHeartbeats 4000000 in
set_option maxRecDepth 100000 in
theorem c_X11_running (l : Launch) (D : va_G) (tc : Nat → ClassId) (z0 : Nat) (L : List Nat) (κ : Nat → Nat) (g : Nat → Nat → Value) (sz : Nat) (p0 : Nat) (hk0 : κ p0 = 13) (p1 : Int32) (lc eC nC : Nat) (mC : Int32) (cf : Nat → Nat) (lt eT nT : Nat) (mT : Int32) (tf : Nat → Nat) (hMo : zMo κ g z0 p0 lc eC nC mC cf lt eT nT mT tf) : Met l yX11_running wsX11_running ({ frames := 3, cells := 1, slots := 4, locals := 61 }) (zPc D tc z0 [.ref p0, .int p1] [] (L, κ, g) sz) (va_Qq (fun (r : Option Nat) (u : zS) => (∀ a : Nat, r = some a → κ a = 12) ∧ u = (L, κ, g)) (fun (u : zS) (t : State) => zB D tc (zA [] L sz) [] u t) (zA [] L sz)) 1 4 (zA [] L sz) := by
  refine Met.ofW (cc := cX11_running) (maxL := 4) (ret := (some (.object "WattgovernModel$Task"))) (by decide) rfl ?_
  intro p e9 s m args below meth c s₁ B hml hv
  obtain ⟨rfl, rfl, hK, hE, hI⟩ := hv.opn
  have hx := B.exec
  have hb := B.bytes
  have hr := B.returns
  have hts := atoms_spec (ws := wsX11_running) B.pre
  have hown : s.vm.findClass RX11 = some m.cls := findClass_of_methodNamed B.named
  have hlocks := B.notSynchronized
  have hM : zM p s m c cX11_running _ wsX11_running RX11 D tc := ⟨hx, hb, hts, hown, hK⟩
  have hinX11 : ∀ w ∈ wsX110, w ∈ wsX11_running := by decide +kernel
  have hinX10 : ∀ w ∈ wsX100, w ∈ wsX11_running := by decide +kernel
  have hnC := hMo.bC
  have hnT := hMo.bT
  have hl := lv_entry ([.ref p0, .int p1]) (n := 4) (Nat.le_of_ble_eq_true rfl)
  rw [lg_entry_eq]
  generalize (lg_sl ([.ref p0, .int p1]) ++ List.replicate (4 - (lg_sl ([.ref p0, .int p1])).length) Slot.unset).toArray = ls at hl ⊢
  have hl : lv_has ls 4 [(0, .ref p0), (1, .int p1)] := hl
  refine lv_aload_n hx hb dX11_running_0 rfl (lv_at hl 0 rfl) ?_
  refine z_get (k := 13) (j := 1) hM hI hk0 rfl rfl hinX11 rfl (by decide) (by decide +kernel) (fun _ h9 => h9) dX11_running_1 (fun v1 hv2 => ?_)
  obtain ⟨hg4, i3, rfl, hr5⟩ := hv2
  obtain rfl : lt = i3 := Value.ref.inj (hMo.gt.symm.trans hg4.symm)
  refine z_qFX (sel := fun u : Nat × zS => u.2) (rxf := fun u : Nat × zS => [(u.1, .inr (0, [.int (nI 0), .int (-1), .int mT, .ref lt]))]) (Xc := []) (wr := []) [] [] rfl rfl rfl rfl (by decide) hI (va_runF (As := []) (rest := []) (hK.1 1 _ rfl).2 ⟨hx, hb, hml, hown, hts⟩ (c_Jx4a65c_iterator_32c93 l D tc z0 _ κ g _ lt 14 eT 26 12 nT mT tf rfl hMo.LT) (va_cwF 0 hts gX11_running_Jx4a65c_iterator_32c93_f56Jx4a65c rfl rfl rfl (hE.2.2.1 (RJx4a65c, ⟨"java/util/List", "iterator", "()Ljava/util/Iterator;"⟩, yJx4a65c_iterator_32c93) (by decide +kernel)) (by decide +kernel) ⟨Nat.le_of_ble_eq_true rfl, Nat.le_of_ble_eq_true rfl⟩) (z_preV (Xc := []) hK hE hI [] rfl rfl (z_recv hK hI hMo.LT.1 rfl rfl)) rfl rfl hl.1 rfl (lv_room (Nat.le_of_ble_eq_true rfl)) dX11_running_4 ⟨(Nat.le_of_ble_eq_true rfl), (Nat.le_of_ble_eq_true rfl)⟩) (fun _ u H locs hw7 hI => ?_)
  obtain ⟨q6, u⟩ := u
  obtain ⟨rfl, hw7⟩ := hw7
  dsimp only at hw7 hI
  subst hw7
  have hI : zI D tc _ s.heap [(q6, .inr (0, [.int (nI 0), .int (-1), .int mT, .ref lt]))] L κ g _ _ := hI
  show W p l e9 (headSpec wsX11_running ({ frames := 3, cells := 1, slots := 4, locals := 61 })).room s m ([.ref p0, .int p1] : List Value).toArray below meth c _ _ 1 4 (MQ below (va_Qq (fun (r : Option Nat) (u : zS) => (∀ a : Nat, r = some a → κ a = 12) ∧ u = (L, κ, g)) (fun (u : zS) (t : State) => zB D tc (zA [] L s.heap.size) [] u t) (zA [] L s.heap.size)) ([.ref p0, .int p1] : List Value).toArray s 1 4 (zA [] L s.heap.size)) (F0 m 9 ls (.ref q6 :: []))
  refine lv_astore_n (lv' := [(2, .ref q6), (0, .ref p0), (1, .int p1)]) hx hb dX11_running_9 rfl hl (by decide) rfl (fun ls hl => ?_)
  have hL10 : ∀ (n : Nat) (H : Heap) (locs : List Loc)   (i8 : Nat) (hi : i8 ≤ nT) (hn : nT - i8 < n) (lr9 : Int32)  (hI : zI D tc (zA [] L s.heap.size) s.heap [(q6, .inr (0, [.int (nI i8), .int lr9, .int mT, .ref lt]))] L κ g H locs) (ls : Array Slot) (hl : lv_has ls 4 [(1, .int p1), (2, .ref q6)]), W p l e9 (headSpec wsX11_running ({ frames := 3, cells := 1, slots := 4, locals := 61 })).room s m ([.ref p0, .int p1] : List Value).toArray below meth c H locs 1 4 (MQ below (va_Qq (fun (r : Option Nat) (u : zS) => (∀ a : Nat, r = some a → κ a = 12) ∧ u = (L, κ, g)) (fun (u : zS) (t : State) => zB D tc (zA [] L s.heap.size) [] u t) (zA [] L s.heap.size)) ([.ref p0, .int p1] : List Value).toArray s 1 4 (zA [] L s.heap.size)) (F0 m 10 ls []) := by
    intro n
    induction n with
    | zero => intro H locs i8 hi hn lr9 hI ls hl; exact absurd hn (Nat.not_lt_zero _)
    | succ n ih10 =>
      intro H locs i8 hi hn lr9 hI ls hl
      refine lv_aload_n hx hb dX11_running_10 rfl (lv_at hl 1 rfl) ?_
      refine va_csFi (va_runF (As := []) (rest := []) (hK.1 0 _ rfl).2 ⟨hx, hb, hml, hown, hts⟩ (c_Jx35411_hasNext_aae02 l D tc z0 _ κ g _ lt 14 eT 26 12 nT mT tf rfl hMo.LT q6 i8 lr9 (by omega)) (va_cwF 0 hts gX11_running_Jx35411_hasNext_aae02_f60Jx35411 rfl rfl rfl (hE.2.2.1 (RJx35411, ⟨"java/util/Iterator", "hasNext", "()Z"⟩, yJx35411_hasNext_aae02) (by decide +kernel)) (by decide +kernel) ⟨Nat.le_of_ble_eq_true rfl, Nat.le_of_ble_eq_true rfl⟩) (z_preV (Xc := [(q6, .inr (0, [.int (nI i8), .int lr9, .int mT, .ref lt]))]) hK hE hI [0] rfl rfl (z_recvX hK hI (i := 0) rfl rfl)) rfl rfl hl.1 rfl (lv_room (Nat.le_of_ble_eq_true rfl)) dX11_running_11 ⟨(Nat.le_of_ble_eq_true rfl), (Nat.le_of_ble_eq_true rfl)⟩) (fun v11 hw10 => ?_)
      rcases hw10 with ⟨rfl, hlt12⟩ | ⟨rfl, hlt12⟩
      · skip
        refine lv_if_eq (tgt := 49) hx hb dX11_running_16 (by decide) (fun h9 => by first | exact absurd h9 (by decide) | exact absurd (by decide) h9) (fun _ => ?_)
        refine lv_aload_n hx hb dX11_running_19 rfl (lv_at hl 1 rfl) ?_
        refine z_qFX (sel := fun u : zS => u) (rxf := fun _ => [(q6, .inr (0, [.int (nI ((i8 + 1))), .int ((nI i8)), .int mT, .ref lt]))]) (Xc := [(q6, .inr (0, [.int (nI i8), .int lr9, .int mT, .ref lt]))]) (wr := []) [0] [] rfl rfl rfl rfl (by decide) hI (va_runF (As := []) (rest := []) (hK.1 0 _ rfl).2 ⟨hx, hb, hml, hown, hts⟩ (c_Jx35411_next_0502b l D tc z0 _ κ g _ lt 14 eT 26 12 nT mT tf rfl hMo.LT rfl rfl q6 i8 lr9 (by omega)) (va_cwF 0 hts gX11_running_Jx35411_next_0502b_f66Jx35411 rfl rfl rfl (hE.2.2.1 (RJx35411, ⟨"java/util/Iterator", "next", "()Ljava/lang/Object;"⟩, yJx35411_next_0502b) (by decide +kernel)) (by decide +kernel) ⟨Nat.le_of_ble_eq_true rfl, Nat.le_of_ble_eq_true rfl⟩) (z_preV (Xc := [(q6, .inr (0, [.int (nI i8), .int lr9, .int mT, .ref lt]))]) hK hE hI [0] rfl rfl (z_recvX hK hI (i := 0) rfl rfl)) rfl rfl hl.1 rfl (lv_room (Nat.le_of_ble_eq_true rfl)) dX11_running_20 ⟨(Nat.le_of_ble_eq_true rfl), (Nat.le_of_ble_eq_true rfl)⟩) (fun v14 u H locs hw13 hI => ?_)
        obtain ⟨rfl, rfl⟩ := hw13
        have hI : zI D tc _ s.heap [(q6, .inr (0, [.int (nI ((i8 + 1))), .int ((nI i8)), .int mT, .ref lt]))] L κ g _ _ := hI
        have hr15 : κ (tf i8) = 12 := hMo.LT.el (i := i8) (by omega)
        show W p l e9 (headSpec wsX11_running ({ frames := 3, cells := 1, slots := 4, locals := 61 })).room s m ([.ref p0, .int p1] : List Value).toArray below meth c _ _ _ _ (MQ below (va_Qq (fun (r : Option Nat) (u : zS) => (∀ a : Nat, r = some a → κ a = 12) ∧ u = (L, κ, g)) (fun (u : zS) (t : State) => zB D tc (zA [] L s.heap.size) [] u t) (zA [] L s.heap.size)) ([.ref p0, .int p1] : List Value).toArray s 1 4 (zA [] L s.heap.size)) (F0 m 25 ls (.ref (tf i8) :: []))
        refine W.widen (k := 1) (n := 4) (Nat.le_refl _) (Nat.le_refl _) ?_
        refine z_castS (k := 12) hM hI hr15 rfl rfl (by decide +kernel) dX11_running_25 ?_
        refine lv_astore_n (lv' := [(3, .ref ((tf i8))), (1, .int p1), (2, .ref q6)]) hx hb dX11_running_28 rfl hl (by decide) rfl (fun ls hl => ?_)
        refine lv_aload_n hx hb dX11_running_29 rfl (lv_at hl 0 rfl) ?_
        refine z_getN (host := "WattgovernModel") (k := 12) (j := 1) hM hE hI hr15 rfl rfl hinX10 rfl (by decide) (by decide +kernel) (fun _ h9 => h9) dX11_running_30 (fun v16 hv17 => ?_)
        obtain ⟨hg19, i18, rfl⟩ := hv17
        refine lv_iload_n hx hb dX11_running_33 rfl (lv_at hl 1 rfl) ?_
        refine lv_icmp_ne (tgt := 46) hx hb dX11_running_34 (by decide) (fun c20 => ?_) (fun c20 => ?_)
        · skip
          refine lv_goto (tgt := 10) hx hb dX11_running_46 (by decide) ?_
          exact ih10 _ _ ((i8 + 1)) (by first | omega | (simp only [] at *; omega)) (by first | omega | (simp only [] at *; omega)) ((nI i8)) hI ls (lv_sub hl [1, 2] rfl)
        · skip
          refine lv_aload_n hx hb dX11_running_37 rfl (lv_at hl 0 rfl) ?_
          refine z_getN (host := "WattgovernModel") (k := 12) (j := 2) hM hE hI hr15 rfl rfl hinX10 rfl (by decide) (by decide +kernel) (fun _ h9 => h9) dX11_running_38 (fun v21 hv22 => ?_)
          obtain ⟨i23, rfl⟩ := hv22
          refine lv_if_le (tgt := 46) hx hb dX11_running_41 (by decide) (fun c24 => ?_) (fun c24 => ?_)
          · skip
            refine lv_goto (tgt := 10) hx hb dX11_running_46 (by decide) ?_
            exact ih10 _ _ ((i8 + 1)) (by first | omega | (simp only [] at *; omega)) (by first | omega | (simp only [] at *; omega)) ((nI i8)) hI ls (lv_sub hl [1, 2] rfl)
          · skip
            refine lv_aload_n hx hb dX11_running_44 rfl (lv_at hl 0 rfl) ?_
            have hI := z_drop hI
            refine W.widen (k := 1) (n := 4) (Nat.le_of_ble_eq_true rfl) (Nat.le_of_ble_eq_true rfl) ?_
            exact W.aret (v := .ref ((tf i8))) hx hb hr (Or.inl ⟨_, rfl⟩) (Or.inr ⟨_, rfl⟩) (fun t ht hW => ⟨⟨some (tf i8), (L, κ, g), rfl, ⟨(fun _ h => by cases h; exact hr15), rfl⟩, z_end hK hI ht hW⟩, z_F hI ht⟩) (z_locs hI) dX11_running_45
      · skip
        have hI := z_part (X' := []) [] rfl rfl hI
        refine lv_if_eq (tgt := 49) hx hb dX11_running_16 (by decide) (fun _ => ?_) (fun h9 => by first | exact absurd h9 (by decide) | exact absurd (by decide) h9)
        refine lv_null hx hb dX11_running_49 ?_
        refine W.widen (k := 1) (n := 4) (Nat.le_of_ble_eq_true rfl) (Nat.le_of_ble_eq_true rfl) ?_
        exact W.aret (v := .null) hx hb hr (Or.inl ⟨_, rfl⟩) (Or.inl rfl) (fun t ht hW => ⟨⟨none, (L, κ, g), rfl, ⟨(fun _ h => by cases h), rfl⟩, z_end hK hI ht hW⟩, z_F hI ht⟩) (z_locs hI) dX11_running_50
  exact hL10 (nT + 1) _ _ 0 (by first | omega | (simp only [] at *; omega)) (by first | omega | (simp only [] at *; omega)) (-1) hI ls (lv_sub hl [2, 0] rfl)

set_option maxHeartbeats 4000000 in
set_option maxRecDepth 100000 in
theorem c_X11_waits (l : Launch) (D : va_G) (tc : Nat → ClassId) (z0 : Nat) (L : List Nat) (κ : Nat → Nat) (g : Nat → Nat → Value) (sz : Nat) (p0 : Nat) (hk0 : κ p0 = 13) (p1 : Int32) (lc eC nC : Nat) (mC : Int32) (cf : Nat → Nat) (lt eT nT : Nat) (mT : Int32) (tf : Nat → Nat) (hMo : zMo κ g z0 p0 lc eC nC mC cf lt eT nT mT tf) : Met l yX11_waits wsX11_waits ({ frames := 3, cells := 1, slots := 4, locals := 61 }) (zPc D tc z0 [.ref p0, .int p1] [] (L, κ, g) sz) (va_Qi (fun (r : Int32) (u : zS) => u = (L, κ, g)) (fun (u : zS) (t : State) => zB D tc (zA [] L sz) [] u t) (zA [] L sz)) 1 4 (zA [] L sz) := by
  refine Met.ofW (cc := cX11_waits) (maxL := 5) (ret := (some .int)) (by decide) rfl ?_
  intro p e9 s m args below meth c s₁ B hml hv
  obtain ⟨rfl, rfl, hK, hE, hI⟩ := hv.opn
  have hx := B.exec
  have hb := B.bytes
  have hr := B.returns
  have hts := atoms_spec (ws := wsX11_waits) B.pre
  have hown : s.vm.findClass RX11 = some m.cls := findClass_of_methodNamed B.named
  have hlocks := B.notSynchronized
  have hM : zM p s m c cX11_waits _ wsX11_waits RX11 D tc := ⟨hx, hb, hts, hown, hK⟩
  have hinX11 : ∀ w ∈ wsX110, w ∈ wsX11_waits := by decide +kernel
  have hinX10 : ∀ w ∈ wsX100, w ∈ wsX11_waits := by decide +kernel
  have hnC := hMo.bC
  have hnT := hMo.bT
  have hl := lv_entry ([.ref p0, .int p1]) (n := 5) (Nat.le_of_ble_eq_true rfl)
  rw [lg_entry_eq]
  generalize (lg_sl ([.ref p0, .int p1]) ++ List.replicate (5 - (lg_sl ([.ref p0, .int p1])).length) Slot.unset).toArray = ls at hl ⊢
  have hl : lv_has ls 5 [(0, .ref p0), (1, .int p1)] := hl
  refine lv_iconst (v := 0) hx hb dX11_waits_0 (by decide) ?_
  refine lv_istore_n (lv' := [(2, .int 0), (0, .ref p0), (1, .int p1)]) hx hb dX11_waits_1 rfl hl (by decide) rfl (fun ls hl => ?_)
  refine lv_aload_n hx hb dX11_waits_2 rfl (lv_at hl 1 rfl) ?_
  refine z_get (k := 13) (j := 1) hM hI hk0 rfl rfl hinX11 rfl (by decide) (by decide +kernel) (fun _ h9 => h9) dX11_waits_3 (fun v1 hv2 => ?_)
  obtain ⟨hg4, i3, rfl, hr5⟩ := hv2
  obtain rfl : lt = i3 := Value.ref.inj (hMo.gt.symm.trans hg4.symm)
  refine z_qFX (sel := fun u : Nat × zS => u.2) (rxf := fun u : Nat × zS => [(u.1, .inr (0, [.int (nI 0), .int (-1), .int mT, .ref lt]))]) (Xc := []) (wr := []) [] [] rfl rfl rfl rfl (by decide) hI (va_runF (As := []) (rest := []) (hK.1 1 _ rfl).2 ⟨hx, hb, hml, hown, hts⟩ (c_Jx4a65c_iterator_32c93 l D tc z0 _ κ g _ lt 14 eT 26 12 nT mT tf rfl hMo.LT) (va_cwF 0 hts gX11_waits_Jx4a65c_iterator_32c93_f56Jx4a65c rfl rfl rfl (hE.2.2.1 (RJx4a65c, ⟨"java/util/List", "iterator", "()Ljava/util/Iterator;"⟩, yJx4a65c_iterator_32c93) (by decide +kernel)) (by decide +kernel) ⟨Nat.le_of_ble_eq_true rfl, Nat.le_of_ble_eq_true rfl⟩) (z_preV (Xc := []) hK hE hI [] rfl rfl (z_recv hK hI hMo.LT.1 rfl rfl)) rfl rfl hl.1 rfl (lv_room (Nat.le_of_ble_eq_true rfl)) dX11_waits_6 ⟨(Nat.le_of_ble_eq_true rfl), (Nat.le_of_ble_eq_true rfl)⟩) (fun _ u H locs hw7 hI => ?_)
  obtain ⟨q6, u⟩ := u
  obtain ⟨rfl, hw7⟩ := hw7
  dsimp only at hw7 hI
  subst hw7
  have hI : zI D tc _ s.heap [(q6, .inr (0, [.int (nI 0), .int (-1), .int mT, .ref lt]))] L κ g _ _ := hI
  show W p l e9 (headSpec wsX11_waits ({ frames := 3, cells := 1, slots := 4, locals := 61 })).room s m ([.ref p0, .int p1] : List Value).toArray below meth c _ _ 1 4 (MQ below (va_Qi (fun (r : Int32) (u : zS) => u = (L, κ, g)) (fun (u : zS) (t : State) => zB D tc (zA [] L s.heap.size) [] u t) (zA [] L s.heap.size)) ([.ref p0, .int p1] : List Value).toArray s 1 4 (zA [] L s.heap.size)) (F0 m 11 ls (.ref q6 :: []))
  refine lv_astore_n (lv' := [(3, .ref q6), (2, .int 0), (0, .ref p0), (1, .int p1)]) hx hb dX11_waits_11 rfl hl (by decide) rfl (fun ls hl => ?_)
  have hL12 : ∀ (n : Nat) (H : Heap) (locs : List Loc) (x8 : Int32)  (i9 : Nat) (hi : i9 ≤ nT) (hn : nT - i9 < n) (lr10 : Int32)  (hI : zI D tc (zA [] L s.heap.size) s.heap [(q6, .inr (0, [.int (nI i9), .int lr10, .int mT, .ref lt]))] L κ g H locs) (ls : Array Slot) (hl : lv_has ls 5 [(1, .int p1), (2, .int x8), (3, .ref q6)]), W p l e9 (headSpec wsX11_waits ({ frames := 3, cells := 1, slots := 4, locals := 61 })).room s m ([.ref p0, .int p1] : List Value).toArray below meth c H locs 1 4 (MQ below (va_Qi (fun (r : Int32) (u : zS) => u = (L, κ, g)) (fun (u : zS) (t : State) => zB D tc (zA [] L s.heap.size) [] u t) (zA [] L s.heap.size)) ([.ref p0, .int p1] : List Value).toArray s 1 4 (zA [] L s.heap.size)) (F0 m 12 ls []) := by
    intro n
    induction n with
    | zero => intro H locs x8 i9 hi hn lr10 hI ls hl; exact absurd hn (Nat.not_lt_zero _)
    | succ n ih12 =>
      intro H locs x8 i9 hi hn lr10 hI ls hl
      refine lv_aload_n hx hb dX11_waits_12 rfl (lv_at hl 2 rfl) ?_
      refine va_csFi (va_runF (As := []) (rest := []) (hK.1 0 _ rfl).2 ⟨hx, hb, hml, hown, hts⟩ (c_Jx35411_hasNext_aae02 l D tc z0 _ κ g _ lt 14 eT 26 12 nT mT tf rfl hMo.LT q6 i9 lr10 (by omega)) (va_cwF 0 hts gX11_waits_Jx35411_hasNext_aae02_f60Jx35411 rfl rfl rfl (hE.2.2.1 (RJx35411, ⟨"java/util/Iterator", "hasNext", "()Z"⟩, yJx35411_hasNext_aae02) (by decide +kernel)) (by decide +kernel) ⟨Nat.le_of_ble_eq_true rfl, Nat.le_of_ble_eq_true rfl⟩) (z_preV (Xc := [(q6, .inr (0, [.int (nI i9), .int lr10, .int mT, .ref lt]))]) hK hE hI [0] rfl rfl (z_recvX hK hI (i := 0) rfl rfl)) rfl rfl hl.1 rfl (lv_room (Nat.le_of_ble_eq_true rfl)) dX11_waits_13 ⟨(Nat.le_of_ble_eq_true rfl), (Nat.le_of_ble_eq_true rfl)⟩) (fun v12 hw11 => ?_)
      rcases hw11 with ⟨rfl, hlt13⟩ | ⟨rfl, hlt13⟩
      · skip
        refine lv_if_eq (tgt := 60) hx hb dX11_waits_18 (by decide) (fun h9 => by first | exact absurd h9 (by decide) | exact absurd (by decide) h9) (fun _ => ?_)
        refine lv_aload_n hx hb dX11_waits_21 rfl (lv_at hl 2 rfl) ?_
        refine z_qFX (sel := fun u : zS => u) (rxf := fun _ => [(q6, .inr (0, [.int (nI ((i9 + 1))), .int ((nI i9)), .int mT, .ref lt]))]) (Xc := [(q6, .inr (0, [.int (nI i9), .int lr10, .int mT, .ref lt]))]) (wr := []) [0] [] rfl rfl rfl rfl (by decide) hI (va_runF (As := []) (rest := []) (hK.1 0 _ rfl).2 ⟨hx, hb, hml, hown, hts⟩ (c_Jx35411_next_0502b l D tc z0 _ κ g _ lt 14 eT 26 12 nT mT tf rfl hMo.LT rfl rfl q6 i9 lr10 (by omega)) (va_cwF 0 hts gX11_waits_Jx35411_next_0502b_f66Jx35411 rfl rfl rfl (hE.2.2.1 (RJx35411, ⟨"java/util/Iterator", "next", "()Ljava/lang/Object;"⟩, yJx35411_next_0502b) (by decide +kernel)) (by decide +kernel) ⟨Nat.le_of_ble_eq_true rfl, Nat.le_of_ble_eq_true rfl⟩) (z_preV (Xc := [(q6, .inr (0, [.int (nI i9), .int lr10, .int mT, .ref lt]))]) hK hE hI [0] rfl rfl (z_recvX hK hI (i := 0) rfl rfl)) rfl rfl hl.1 rfl (lv_room (Nat.le_of_ble_eq_true rfl)) dX11_waits_22 ⟨(Nat.le_of_ble_eq_true rfl), (Nat.le_of_ble_eq_true rfl)⟩) (fun v15 u H locs hw14 hI => ?_)
        obtain ⟨rfl, rfl⟩ := hw14
        have hI : zI D tc _ s.heap [(q6, .inr (0, [.int (nI ((i9 + 1))), .int ((nI i9)), .int mT, .ref lt]))] L κ g _ _ := hI
        have hr16 : κ (tf i9) = 12 := hMo.LT.el (i := i9) (by omega)
        show W p l e9 (headSpec wsX11_waits ({ frames := 3, cells := 1, slots := 4, locals := 61 })).room s m ([.ref p0, .int p1] : List Value).toArray below meth c _ _ _ _ (MQ below (va_Qi (fun (r : Int32) (u : zS) => u = (L, κ, g)) (fun (u : zS) (t : State) => zB D tc (zA [] L s.heap.size) [] u t) (zA [] L s.heap.size)) ([.ref p0, .int p1] : List Value).toArray s 1 4 (zA [] L s.heap.size)) (F0 m 27 ls (.ref (tf i9) :: []))
        refine W.widen (k := 1) (n := 4) (Nat.le_refl _) (Nat.le_refl _) ?_
        refine z_castS (k := 12) hM hI hr16 rfl rfl (by decide +kernel) dX11_waits_27 ?_
        refine lv_astore (lv' := [(4, .ref ((tf i9))), (1, .int p1), (2, .int x8), (3, .ref q6)]) hx hb dX11_waits_30 hl (by decide) rfl (fun ls hl => ?_)
        refine lv_iload_n hx hb dX11_waits_32 rfl (lv_at hl 2 rfl) ?_
        refine lv_aload hx hb dX11_waits_33 (lv_at hl 0 rfl) ?_
        refine z_getN (host := "WattgovernModel") (k := 12) (j := 1) hM hE hI hr16 rfl rfl hinX10 rfl (by decide) (by decide +kernel) (fun _ h9 => h9) dX11_waits_35 (fun v17 hv18 => ?_)
        obtain ⟨hg20, i19, rfl⟩ := hv18
        refine lv_iload_n hx hb dX11_waits_38 rfl (lv_at hl 1 rfl) ?_
        refine lv_icmp_ne (tgt := 54) hx hb dX11_waits_39 (by decide) (fun c21 => ?_) (fun c21 => ?_)
        · skip
          refine lv_iconst (v := 0) hx hb dX11_waits_54 (by decide) ?_
          refine lv_iadd hx hb dX11_waits_55 ?_
          refine lv_topi (fun v22 e23 => ?_)
          refine lv_istore_n (lv' := [(2, .int v22), (4, .ref ((tf i9))), (1, .int p1), (3, .ref q6)]) hx hb dX11_waits_56 rfl hl (by decide) rfl (fun ls hl => ?_)
          refine lv_goto (tgt := 12) hx hb dX11_waits_57 (by decide) ?_
          exact ih12 _ _ v22 ((i9 + 1)) (by first | omega | (simp only [] at *; omega)) (by first | omega | (simp only [] at *; omega)) ((nI i9)) hI ls (lv_sub hl [2, 0, 3] rfl)
        · skip
          refine lv_aload hx hb dX11_waits_42 (lv_at hl 0 rfl) ?_
          refine z_getN (host := "WattgovernModel") (k := 12) (j := 2) hM hE hI hr16 rfl rfl hinX10 rfl (by decide) (by decide +kernel) (fun _ h9 => h9) dX11_waits_44 (fun v24 hv25 => ?_)
          obtain ⟨i26, rfl⟩ := hv25
          refine lv_if_le (tgt := 54) hx hb dX11_waits_47 (by decide) (fun c27 => ?_) (fun c27 => ?_)
          · skip
            refine lv_iconst (v := 0) hx hb dX11_waits_54 (by decide) ?_
            refine lv_iadd hx hb dX11_waits_55 ?_
            refine lv_topi (fun v28 e29 => ?_)
            refine lv_istore_n (lv' := [(2, .int v28), (4, .ref ((tf i9))), (1, .int p1), (3, .ref q6)]) hx hb dX11_waits_56 rfl hl (by decide) rfl (fun ls hl => ?_)
            refine lv_goto (tgt := 12) hx hb dX11_waits_57 (by decide) ?_
            exact ih12 _ _ v28 ((i9 + 1)) (by first | omega | (simp only [] at *; omega)) (by first | omega | (simp only [] at *; omega)) ((nI i9)) hI ls (lv_sub hl [2, 0, 3] rfl)
          · skip
            refine lv_iconst (v := 1) hx hb dX11_waits_50 (by decide) ?_
            refine lv_goto (tgt := 55) hx hb dX11_waits_51 (by decide) ?_
            refine lv_iadd hx hb dX11_waits_55 ?_
            refine lv_topi (fun v30 e31 => ?_)
            refine lv_istore_n (lv' := [(2, .int v30), (4, .ref ((tf i9))), (1, .int p1), (3, .ref q6)]) hx hb dX11_waits_56 rfl hl (by decide) rfl (fun ls hl => ?_)
            refine lv_goto (tgt := 12) hx hb dX11_waits_57 (by decide) ?_
            exact ih12 _ _ v30 ((i9 + 1)) (by first | omega | (simp only [] at *; omega)) (by first | omega | (simp only [] at *; omega)) ((nI i9)) hI ls (lv_sub hl [2, 0, 3] rfl)
      · skip
        have hI := z_part (X' := []) [] rfl rfl hI
        refine lv_if_eq (tgt := 60) hx hb dX11_waits_18 (by decide) (fun _ => ?_) (fun h9 => by first | exact absurd h9 (by decide) | exact absurd (by decide) h9)
        refine lv_iload_n hx hb dX11_waits_60 rfl (lv_at hl 1 rfl) ?_
        refine W.widen (k := 1) (n := 4) (Nat.le_of_ble_eq_true rfl) (Nat.le_of_ble_eq_true rfl) ?_
        exact W.iret (v := x8) hx hb hr (fun t ht hW => ⟨⟨_, (L, κ, g), rfl, rfl, z_end hK hI ht hW⟩, z_F hI ht⟩) (z_locs hI) dX11_waits_61
  exact hL12 (nT + 1) _ _ 0 0 (by first | omega | (simp only [] at *; omega)) (by first | omega | (simp only [] at *; omega)) (-1) hI ls (lv_sub hl [3, 1, 0] rfl)

set_option maxHeartbeats 4000000 in
set_option maxRecDepth 100000 in
theorem c_X11_wakes (l : Launch) (D : va_G) (tc : Nat → ClassId) (z0 : Nat) (L : List Nat) (κ : Nat → Nat) (g : Nat → Nat → Value) (sz : Nat) (p0 : Nat) (hk0 : κ p0 = 13) (i1 : Nat) (lc eC nC : Nat) (mC : Int32) (cf : Nat → Nat) (lt eT nT : Nat) (mT : Int32) (tf : Nat → Nat) (hMo : zMo κ g z0 p0 lc eC nC mC cf lt eT nT mT tf) (hi1 : i1 < nC) : Met l yX11_wakes wsX11_wakes ({ frames := 3, cells := 1, slots := 4, locals := 64 }) (zPc D tc z0 [.ref p0, .int ((nI i1))] [] (L, κ, g) sz) (va_Qv (fun (u : zS) => u = (L, κ, g)) (fun (u : zS) (t : State) => zB D tc (zA [] L sz) [] u t) (zA [] L sz)) 1 4 (zA [] L sz) := by
  refine Met.ofW (cc := cX11_wakes) (maxL := 5) (ret := none) (by decide) rfl ?_
  intro p e9 s m args below meth c s₁ B hml hv
  obtain ⟨rfl, rfl, hK, hE, hI⟩ := hv.opn
  have hx := B.exec
  have hb := B.bytes
  have hr := B.returns
  have hts := atoms_spec (ws := wsX11_wakes) B.pre
  have hown : s.vm.findClass RX11 = some m.cls := findClass_of_methodNamed B.named
  have hlocks := B.notSynchronized
  have hM : zM p s m c cX11_wakes _ wsX11_wakes RX11 D tc := ⟨hx, hb, hts, hown, hK⟩
  have hinX11 : ∀ w ∈ wsX110, w ∈ wsX11_wakes := by decide +kernel
  have hinX9 : ∀ w ∈ wsX90, w ∈ wsX11_wakes := by decide +kernel
  have hinX10 : ∀ w ∈ wsX100, w ∈ wsX11_wakes := by decide +kernel
  have hnC := hMo.bC
  have hnT := hMo.bT
  have hl := lv_entry ([.ref p0, .int ((nI i1))]) (n := 5) (Nat.le_of_ble_eq_true rfl)
  rw [lg_entry_eq]
  generalize (lg_sl ([.ref p0, .int ((nI i1))]) ++ List.replicate (5 - (lg_sl ([.ref p0, .int ((nI i1))])).length) Slot.unset).toArray = ls at hl ⊢
  have hl : lv_has ls 5 [(0, .ref p0), (1, .int ((nI i1)))] := hl
  refine lv_aload_n hx hb dX11_wakes_0 rfl (lv_at hl 0 rfl) ?_
  refine z_get (k := 13) (j := 0) hM hI hk0 rfl rfl hinX11 rfl (by decide) (by decide +kernel) (fun _ h9 => h9) dX11_wakes_1 (fun v1 hv2 => ?_)
  obtain ⟨hg4, i3, rfl, hr5⟩ := hv2
  obtain rfl : lc = i3 := Value.ref.inj (hMo.gc.symm.trans hg4.symm)
  refine lv_iload_n hx hb dX11_wakes_4 rfl (lv_at hl 1 rfl) ?_
  refine va_csFq (va_runF (As := [.int ((nI i1))]) (rest := []) (hK.1 1 _ rfl).2 ⟨hx, hb, hml, hown, hts⟩ (c_Jx4a65c_get_915e3 l D tc z0 _ κ g _ lc 1 eC 25 11 nC mC cf rfl hMo.LC rfl rfl i1 (by omega)) (va_cwF 1 hts gX11_wakes_Jx4a65c_get_915e3_f101Jx4a65c rfl rfl rfl (hE.2.2.1 (RJx4a65c, ⟨"java/util/List", "get", "(I)Ljava/lang/Object;"⟩, yJx4a65c_get_915e3) (by decide +kernel)) (by decide +kernel) ⟨Nat.le_of_ble_eq_true rfl, Nat.le_of_ble_eq_true rfl⟩) (z_preV (Xc := []) hK hE hI [] rfl rfl (z_recv hK hI hMo.LC.1 rfl rfl)) rfl rfl hl.1 rfl (lv_room (Nat.le_of_ble_eq_true rfl)) dX11_wakes_5 ⟨(Nat.le_of_ble_eq_true rfl), (Nat.le_of_ble_eq_true rfl)⟩) (fun r6 hw7 => ?_)
  obtain rfl := hw7
  have hr8 : κ (cf i1) = 11 := hMo.LC.el (i := i1) (by omega)
  show W p l e9 (headSpec wsX11_wakes ({ frames := 3, cells := 1, slots := 4, locals := 64 })).room s m ([.ref p0, .int ((nI i1))] : List Value).toArray below meth c _ _ 0 0 (MQ below (va_Qv (fun (u : zS) => u = (L, κ, g)) (fun (u : zS) (t : State) => zB D tc (zA [] L s.heap.size) [] u t) (zA [] L s.heap.size)) ([.ref p0, .int ((nI i1))] : List Value).toArray s 1 4 (zA [] L s.heap.size)) (F0 m 10 ls (.ref (cf i1) :: []))
  refine z_castS (k := 11) hM hI hr8 rfl rfl (by decide +kernel) dX11_wakes_10 ?_
  refine lv_astore_n (lv' := [(2, .ref ((cf i1))), (0, .ref p0), (1, .int ((nI i1)))]) hx hb dX11_wakes_13 rfl hl (by decide) rfl (fun ls hl => ?_)
  refine lv_aload_n hx hb dX11_wakes_14 rfl (lv_at hl 0 rfl) ?_
  refine lv_bipush (v := 97) hx hb dX11_wakes_15 (by decide) ?_
  refine z_putN (host := "WattgovernModel") (g' := g) (k := 11) (j := 4) hM hE hI hr8 rfl rfl hinX9 tyX9 tyX9_ok nmX9 rfl (by decide) (by decide +kernel) (fun _ h9 => h9) rfl rfl (by decide) (by decide) ⟨_, rfl, by decide⟩ (fun _ _ _ => rfl) dX11_wakes_17 (fun H locs hI => ?_)
  refine lv_aload_n hx hb dX11_wakes_20 rfl (lv_at hl 0 rfl) ?_
  refine lv_iconst (v := 0) hx hb dX11_wakes_21 (by decide) ?_
  refine z_putN (host := "WattgovernModel") (g' := g) (k := 11) (j := 11) hM hE hI hr8 rfl rfl hinX9 tyX9 tyX9_ok nmX9 rfl (by decide) (by decide +kernel) (fun _ h9 => h9) rfl rfl rfl rfl ⟨_, rfl⟩ (fun _ _ _ => rfl) dX11_wakes_22 (fun H locs hI => ?_)
  refine lv_aload_n hx hb dX11_wakes_25 rfl (lv_at hl 0 rfl) ?_
  refine z_getN (host := "WattgovernModel") (k := 11) (j := 18) hM hE hI hr8 rfl rfl hinX9 rfl (by decide) (by decide +kernel) (fun _ h9 => h9) dX11_wakes_26 (fun v9 hv10 => ?_)
  obtain ⟨i11, rfl, hz12⟩ := zv_b hv10
  refine lv_if_eq (tgt := 88) hx hb dX11_wakes_29 (by decide) (fun c13 => ?_) (fun c13 => ?_)
  · skip
    refine W.widen (k := 1) (n := 4) (Nat.le_of_ble_eq_true rfl) (Nat.le_of_ble_eq_true rfl) ?_
    exact W.vret hx hb hr (fun t ht hW => ⟨⟨(L, κ, g), rfl, rfl, z_end hK hI ht hW⟩, z_F hI ht⟩) (z_locs hI) dX11_wakes_88
  · skip
    refine lv_aload_n hx hb dX11_wakes_32 rfl (lv_at hl 1 rfl) ?_
    refine z_get (k := 13) (j := 1) hM hI hk0 rfl rfl hinX11 rfl (by decide) (by decide +kernel) (fun _ h9 => h9) dX11_wakes_33 (fun v14 hv15 => ?_)
    obtain ⟨hg17, i16, rfl, hr18⟩ := hv15
    obtain rfl : lt = i16 := Value.ref.inj (hMo.gt.symm.trans hg17.symm)
    refine z_qFX (sel := fun u : Nat × zS => u.2) (rxf := fun u : Nat × zS => [(u.1, .inr (0, [.int (nI 0), .int (-1), .int mT, .ref lt]))]) (Xc := []) (wr := []) [] [] rfl rfl rfl rfl (by decide) hI (va_runF (As := []) (rest := []) (hK.1 1 _ rfl).2 ⟨hx, hb, hml, hown, hts⟩ (c_Jx4a65c_iterator_32c93 l D tc z0 _ κ g _ lt 14 eT 26 12 nT mT tf rfl hMo.LT) (va_cwF 0 hts gX11_wakes_Jx4a65c_iterator_32c93_f56Jx4a65c rfl rfl rfl (hE.2.2.1 (RJx4a65c, ⟨"java/util/List", "iterator", "()Ljava/util/Iterator;"⟩, yJx4a65c_iterator_32c93) (by decide +kernel)) (by decide +kernel) ⟨Nat.le_of_ble_eq_true rfl, Nat.le_of_ble_eq_true rfl⟩) (z_preV (Xc := []) hK hE hI [] rfl rfl (z_recv hK hI hMo.LT.1 rfl rfl)) rfl rfl hl.1 rfl (lv_room (Nat.le_of_ble_eq_true rfl)) dX11_wakes_36 ⟨(Nat.le_of_ble_eq_true rfl), (Nat.le_of_ble_eq_true rfl)⟩) (fun _ u H locs hw20 hI => ?_)
    obtain ⟨q19, u⟩ := u
    obtain ⟨rfl, hw20⟩ := hw20
    dsimp only at hw20 hI
    subst hw20
    have hI : zI D tc _ s.heap [(q19, .inr (0, [.int (nI 0), .int (-1), .int mT, .ref lt]))] L κ g _ _ := hI
    show W p l e9 (headSpec wsX11_wakes ({ frames := 3, cells := 1, slots := 4, locals := 64 })).room s m ([.ref p0, .int ((nI i1))] : List Value).toArray below meth c _ _ 1 4 (MQ below (va_Qv (fun (u : zS) => u = (L, κ, g)) (fun (u : zS) (t : State) => zB D tc (zA [] L s.heap.size) [] u t) (zA [] L s.heap.size)) ([.ref p0, .int ((nI i1))] : List Value).toArray s 1 4 (zA [] L s.heap.size)) (F0 m 41 ls (.ref q19 :: []))
    refine lv_astore_n (lv' := [(3, .ref q19), (2, .ref ((cf i1))), (0, .ref p0), (1, .int ((nI i1)))]) hx hb dX11_wakes_41 rfl hl (by decide) rfl (fun ls hl => ?_)
    have hL42 : ∀ (n : Nat) (H : Heap) (locs : List Loc)   (i21 : Nat) (hi : i21 ≤ nT) (hn : nT - i21 < n) (lr22 : Int32)  (hI : zI D tc (zA [] L s.heap.size) s.heap [(q19, .inr (0, [.int (nI i21), .int lr22, .int mT, .ref lt]))] L κ g H locs) (ls : Array Slot) (hl : lv_has ls 5 [(1, .int ((nI i1))), (3, .ref q19)]), W p l e9 (headSpec wsX11_wakes ({ frames := 3, cells := 1, slots := 4, locals := 64 })).room s m ([.ref p0, .int ((nI i1))] : List Value).toArray below meth c H locs 1 4 (MQ below (va_Qv (fun (u : zS) => u = (L, κ, g)) (fun (u : zS) (t : State) => zB D tc (zA [] L s.heap.size) [] u t) (zA [] L s.heap.size)) ([.ref p0, .int ((nI i1))] : List Value).toArray s 1 4 (zA [] L s.heap.size)) (F0 m 42 ls []) := by
      intro n
      induction n with
      | zero => intro H locs i21 hi hn lr22 hI ls hl; exact absurd hn (Nat.not_lt_zero _)
      | succ n ih42 =>
        intro H locs i21 hi hn lr22 hI ls hl
        refine lv_aload_n hx hb dX11_wakes_42 rfl (lv_at hl 1 rfl) ?_
        refine va_csFi (va_runF (As := []) (rest := []) (hK.1 0 _ rfl).2 ⟨hx, hb, hml, hown, hts⟩ (c_Jx35411_hasNext_aae02 l D tc z0 _ κ g _ lt 14 eT 26 12 nT mT tf rfl hMo.LT q19 i21 lr22 (by omega)) (va_cwF 0 hts gX11_wakes_Jx35411_hasNext_aae02_f60Jx35411 rfl rfl rfl (hE.2.2.1 (RJx35411, ⟨"java/util/Iterator", "hasNext", "()Z"⟩, yJx35411_hasNext_aae02) (by decide +kernel)) (by decide +kernel) ⟨Nat.le_of_ble_eq_true rfl, Nat.le_of_ble_eq_true rfl⟩) (z_preV (Xc := [(q19, .inr (0, [.int (nI i21), .int lr22, .int mT, .ref lt]))]) hK hE hI [0] rfl rfl (z_recvX hK hI (i := 0) rfl rfl)) rfl rfl hl.1 rfl (lv_room (Nat.le_of_ble_eq_true rfl)) dX11_wakes_43 ⟨(Nat.le_of_ble_eq_true rfl), (Nat.le_of_ble_eq_true rfl)⟩) (fun v24 hw23 => ?_)
        rcases hw23 with ⟨rfl, hlt25⟩ | ⟨rfl, hlt25⟩
        · skip
          refine lv_if_eq (tgt := 88) hx hb dX11_wakes_48 (by decide) (fun h9 => by first | exact absurd h9 (by decide) | exact absurd (by decide) h9) (fun _ => ?_)
          refine lv_aload_n hx hb dX11_wakes_51 rfl (lv_at hl 1 rfl) ?_
          refine z_qFX (sel := fun u : zS => u) (rxf := fun _ => [(q19, .inr (0, [.int (nI ((i21 + 1))), .int ((nI i21)), .int mT, .ref lt]))]) (Xc := [(q19, .inr (0, [.int (nI i21), .int lr22, .int mT, .ref lt]))]) (wr := []) [0] [] rfl rfl rfl rfl (by decide) hI (va_runF (As := []) (rest := []) (hK.1 0 _ rfl).2 ⟨hx, hb, hml, hown, hts⟩ (c_Jx35411_next_0502b l D tc z0 _ κ g _ lt 14 eT 26 12 nT mT tf rfl hMo.LT rfl rfl q19 i21 lr22 (by omega)) (va_cwF 0 hts gX11_wakes_Jx35411_next_0502b_f66Jx35411 rfl rfl rfl (hE.2.2.1 (RJx35411, ⟨"java/util/Iterator", "next", "()Ljava/lang/Object;"⟩, yJx35411_next_0502b) (by decide +kernel)) (by decide +kernel) ⟨Nat.le_of_ble_eq_true rfl, Nat.le_of_ble_eq_true rfl⟩) (z_preV (Xc := [(q19, .inr (0, [.int (nI i21), .int lr22, .int mT, .ref lt]))]) hK hE hI [0] rfl rfl (z_recvX hK hI (i := 0) rfl rfl)) rfl rfl hl.1 rfl (lv_room (Nat.le_of_ble_eq_true rfl)) dX11_wakes_52 ⟨(Nat.le_of_ble_eq_true rfl), (Nat.le_of_ble_eq_true rfl)⟩) (fun v27 u H locs hw26 hI => ?_)
          obtain ⟨rfl, rfl⟩ := hw26
          have hI : zI D tc _ s.heap [(q19, .inr (0, [.int (nI ((i21 + 1))), .int ((nI i21)), .int mT, .ref lt]))] L κ g _ _ := hI
          have hr28 : κ (tf i21) = 12 := hMo.LT.el (i := i21) (by omega)
          show W p l e9 (headSpec wsX11_wakes ({ frames := 3, cells := 1, slots := 4, locals := 64 })).room s m ([.ref p0, .int ((nI i1))] : List Value).toArray below meth c _ _ _ _ (MQ below (va_Qv (fun (u : zS) => u = (L, κ, g)) (fun (u : zS) (t : State) => zB D tc (zA [] L s.heap.size) [] u t) (zA [] L s.heap.size)) ([.ref p0, .int ((nI i1))] : List Value).toArray s 1 4 (zA [] L s.heap.size)) (F0 m 57 ls (.ref (tf i21) :: []))
          refine W.widen (k := 1) (n := 4) (Nat.le_refl _) (Nat.le_refl _) ?_
          refine z_castS (k := 12) hM hI hr28 rfl rfl (by decide +kernel) dX11_wakes_57 ?_
          refine lv_astore (lv' := [(4, .ref ((tf i21))), (1, .int ((nI i1))), (3, .ref q19)]) hx hb dX11_wakes_60 hl (by decide) rfl (fun ls hl => ?_)
          refine lv_aload hx hb dX11_wakes_62 (lv_at hl 0 rfl) ?_
          refine lv_aload hx hb dX11_wakes_64 (lv_at hl 0 rfl) ?_
          refine z_getN (host := "WattgovernModel") (k := 12) (j := 1) hM hE hI hr28 rfl rfl hinX10 rfl (by decide) (by decide +kernel) (fun _ h9 => h9) dX11_wakes_66 (fun v29 hv30 => ?_)
          obtain ⟨hg32, i31, rfl⟩ := hv30
          refine lv_iload_n hx hb dX11_wakes_69 rfl (lv_at hl 1 rfl) ?_
          refine lv_icmp_ne (tgt := 77) hx hb dX11_wakes_70 (by decide) (fun c33 => ?_) (fun c33 => ?_)
          · skip
            refine lv_aload hx hb dX11_wakes_77 (lv_at hl 0 rfl) ?_
            refine z_getN (host := "WattgovernModel") (k := 12) (j := 3) hM hE hI hr28 rfl rfl hinX10 rfl (by decide) (by decide +kernel) (fun _ h9 => h9) dX11_wakes_79 (fun v34 hv35 => ?_)
            obtain ⟨i36, rfl⟩ := hv35
            refine z_putN (host := "WattgovernModel") (g' := g) (k := 12) (j := 3) hM hE hI hr28 rfl rfl hinX10 tyX10 tyX10_ok nmX10 rfl (by decide) (by decide +kernel) (fun _ h9 => h9) rfl rfl rfl rfl ⟨_, rfl⟩ (fun _ _ _ => rfl) dX11_wakes_82 (fun H locs hI => ?_)
            refine lv_goto (tgt := 42) hx hb dX11_wakes_85 (by decide) ?_
            exact ih42 _ _ ((i21 + 1)) (by first | omega | (simp only [] at *; omega)) (by first | omega | (simp only [] at *; omega)) ((nI i21)) hI ls (lv_sub hl [1, 2] rfl)
          · skip
            refine lv_iconst (v := 5) hx hb dX11_wakes_73 (by decide) ?_
            refine lv_goto (tgt := 82) hx hb dX11_wakes_74 (by decide) ?_
            refine z_putN (host := "WattgovernModel") (g' := g) (k := 12) (j := 3) hM hE hI hr28 rfl rfl hinX10 tyX10 tyX10_ok nmX10 rfl (by decide) (by decide +kernel) (fun _ h9 => h9) rfl rfl rfl rfl ⟨_, rfl⟩ (fun _ _ _ => rfl) dX11_wakes_82 (fun H locs hI => ?_)
            refine lv_goto (tgt := 42) hx hb dX11_wakes_85 (by decide) ?_
            exact ih42 _ _ ((i21 + 1)) (by first | omega | (simp only [] at *; omega)) (by first | omega | (simp only [] at *; omega)) ((nI i21)) hI ls (lv_sub hl [1, 2] rfl)
        · skip
          have hI := z_part (X' := []) [] rfl rfl hI
          refine lv_if_eq (tgt := 88) hx hb dX11_wakes_48 (by decide) (fun _ => ?_) (fun h9 => by first | exact absurd h9 (by decide) | exact absurd (by decide) h9)
          refine W.widen (k := 1) (n := 4) (Nat.le_of_ble_eq_true rfl) (Nat.le_of_ble_eq_true rfl) ?_
          exact W.vret hx hb hr (fun t ht hW => ⟨⟨(L, κ, g), rfl, rfl, z_end hK hI ht hW⟩, z_F hI ht⟩) (z_locs hI) dX11_wakes_88
    exact hL42 (nT + 1) _ _ 0 (by first | omega | (simp only [] at *; omega)) (by first | omega | (simp only [] at *; omega)) (-1) hI ls (lv_sub hl [3, 0] rfl)

set_option maxHeartbeats 4000000 in
set_option maxRecDepth 100000 in
theorem c_X11_supplies (l : Launch) (D : va_G) (tc : Nat → ClassId) (z0 : Nat) (L : List Nat) (κ : Nat → Nat) (g : Nat → Nat → Value) (sz : Nat) (p0 : Nat) (hk0 : κ p0 = 13) : Met l yX11_supplies wsX11_supplies ({ frames := 1, cells := 0, slots := 0, locals := 22 }) (zPc D tc z0 [.ref p0] [] (L, κ, g) sz) (va_Qv (fun (u : zS) => u = (L, κ, g)) (fun (u : zS) (t : State) => zB D tc (zA [] L sz) [] u t) (zA [] L sz)) 0 0 (zA [] L sz) := by
  refine Met.ofW (cc := cX11_supplies) (maxL := 4) (ret := none) (by decide) rfl ?_
  intro p e9 s m args below meth c s₁ B hml hv
  obtain ⟨rfl, rfl, hK, hE, hI⟩ := hv.opn
  have hx := B.exec
  have hb := B.bytes
  have hr := B.returns
  have hts := atoms_spec (ws := wsX11_supplies) B.pre
  have hown : s.vm.findClass RX11 = some m.cls := findClass_of_methodNamed B.named
  have hlocks := B.notSynchronized
  have hM : zM p s m c cX11_supplies _ wsX11_supplies RX11 D tc := ⟨hx, hb, hts, hown, hK⟩
  have hinX11 : ∀ w ∈ wsX110, w ∈ wsX11_supplies := by decide +kernel
  have hl := lv_entry ([.ref p0]) (n := 4) (Nat.le_of_ble_eq_true rfl)
  rw [lg_entry_eq]
  generalize (lg_sl ([.ref p0]) ++ List.replicate (4 - (lg_sl ([.ref p0])).length) Slot.unset).toArray = ls at hl ⊢
  have hl : lv_has ls 4 [(0, .ref p0)] := hl
  refine lv_aload_n hx hb dX11_supplies_0 rfl (lv_at hl 0 rfl) ?_
  refine z_get (k := 13) (j := 7) hM hI hk0 rfl rfl hinX11 rfl (by decide) (by decide +kernel) (fun _ h9 => h9) dX11_supplies_1 (fun v1 hv2 => ?_)
  obtain ⟨hg4, i3, rfl⟩ := hv2
  refine lv_aload_n hx hb dX11_supplies_4 rfl (lv_at hl 0 rfl) ?_
  refine z_get (k := 13) (j := 10) hM hI hk0 rfl rfl hinX11 rfl (by decide) (by decide +kernel) (fun _ h9 => h9) dX11_supplies_5 (fun v5 hv6 => ?_)
  obtain ⟨i7, rfl⟩ := hv6
  refine va_mmin hx hb (hml.trans hl.1.symm) hown (hts (.methodLink RX11 186 Lib.Math.min.name) (by decide +kernel)) (hts (.static Lib.Math.min.name) (by decide +kernel)) (hts (.initialized "java/lang/Math") (by decide +kernel)) (hts (.code Lib.Math.min.name Lib.Math.min.code 2 (some .int)) (by decide +kernel)) (Nat.le_of_ble_eq_true rfl) (Nat.le_of_ble_eq_true rfl) (Nat.le_of_ble_eq_true rfl) (Nat.le_of_ble_eq_true rfl) dX11_supplies_8 ?_
  refine lv_topi (fun v8 e9 => ?_)
  refine lv_istore_n (lv' := [(1, .int v8), (0, .ref p0)]) hx hb dX11_supplies_11 rfl hl (by decide) rfl (fun ls hl => ?_)
  refine lv_aload_n hx hb dX11_supplies_12 rfl (lv_at hl 1 rfl) ?_
  refine z_get (k := 13) (j := 8) hM hI hk0 rfl rfl hinX11 rfl (by decide) (by decide +kernel) (fun _ h9 => h9) dX11_supplies_13 (fun v10 hv11 => ?_)
  obtain ⟨i12, rfl⟩ := hv11
  refine lv_aload_n hx hb dX11_supplies_16 rfl (lv_at hl 1 rfl) ?_
  refine z_get (k := 13) (j := 10) hM hI hk0 rfl rfl hinX11 rfl (by decide) (by decide +kernel) (fun _ h9 => h9) dX11_supplies_17 (fun v13 hv14 => ?_)
  obtain ⟨i15, rfl⟩ := hv14
  refine lv_iload_n hx hb dX11_supplies_20 rfl (lv_at hl 0 rfl) ?_
  refine lv_isub hx hb dX11_supplies_21 ?_
  refine lv_topi (fun v16 e17 => ?_)
  refine va_mmin hx hb (hml.trans hl.1.symm) hown (hts (.methodLink RX11 186 Lib.Math.min.name) (by decide +kernel)) (hts (.static Lib.Math.min.name) (by decide +kernel)) (hts (.initialized "java/lang/Math") (by decide +kernel)) (hts (.code Lib.Math.min.name Lib.Math.min.code 2 (some .int)) (by decide +kernel)) (Nat.le_of_ble_eq_true rfl) (Nat.le_of_ble_eq_true rfl) (Nat.le_of_ble_eq_true rfl) (Nat.le_of_ble_eq_true rfl) dX11_supplies_22 ?_
  refine lv_topi (fun v18 e19 => ?_)
  refine lv_istore_n (lv' := [(2, .int v18), (1, .int v8), (0, .ref p0)]) hx hb dX11_supplies_25 rfl hl (by decide) rfl (fun ls hl => ?_)
  refine lv_aload_n hx hb dX11_supplies_26 rfl (lv_at hl 2 rfl) ?_
  refine lv_aload_n hx hb dX11_supplies_27 rfl (lv_at hl 2 rfl) ?_
  refine z_get (k := 13) (j := 10) hM hI hk0 rfl rfl hinX11 rfl (by decide) (by decide +kernel) (fun _ h9 => h9) dX11_supplies_28 (fun v20 hv21 => ?_)
  obtain ⟨i22, rfl⟩ := hv21
  refine lv_iload_n hx hb dX11_supplies_31 rfl (lv_at hl 1 rfl) ?_
  refine lv_isub hx hb dX11_supplies_32 ?_
  refine lv_topi (fun v23 e24 => ?_)
  refine lv_iload_n hx hb dX11_supplies_33 rfl (lv_at hl 0 rfl) ?_
  refine lv_isub hx hb dX11_supplies_34 ?_
  refine lv_topi (fun v25 e26 => ?_)
  refine z_put (g' := g) (k := 13) (j := 11) hM hI hk0 rfl rfl hinX11 tyX11 tyX11_ok nmX11 rfl (by decide) (by decide +kernel) (fun _ h9 => h9) rfl rfl rfl rfl ⟨_, rfl⟩ (fun _ _ _ => rfl) dX11_supplies_35 (fun H locs hI => ?_)
  refine lv_aload_n hx hb dX11_supplies_38 rfl (lv_at hl 2 rfl) ?_
  refine lv_dup hx hb dX11_supplies_39 rfl ?_
  refine z_get (k := 13) (j := 8) hM hI hk0 rfl rfl hinX11 rfl (by decide) (by decide +kernel) (fun _ h9 => h9) dX11_supplies_40 (fun v27 hv28 => ?_)
  obtain ⟨i29, rfl⟩ := hv28
  refine lv_iload_n hx hb dX11_supplies_43 rfl (lv_at hl 0 rfl) ?_
  refine lv_isub hx hb dX11_supplies_44 ?_
  refine lv_topi (fun v30 e31 => ?_)
  refine z_put (g' := g) (k := 13) (j := 8) hM hI hk0 rfl rfl hinX11 tyX11 tyX11_ok nmX11 rfl (by decide) (by decide +kernel) (fun _ h9 => h9) rfl rfl rfl rfl ⟨_, rfl⟩ (fun _ _ _ => rfl) dX11_supplies_45 (fun H locs hI => ?_)
  refine lv_bipush (v := 30) hx hb dX11_supplies_48 (by decide) ?_
  refine lv_aload_n hx hb dX11_supplies_50 rfl (lv_at hl 2 rfl) ?_
  refine z_get (k := 13) (j := 7) hM hI hk0 rfl rfl hinX11 rfl (by decide) (by decide +kernel) (fun _ h9 => h9) dX11_supplies_51 (fun v32 hv33 => ?_)
  obtain ⟨hg35, i34, rfl⟩ := hv33
  refine lv_iload_n hx hb dX11_supplies_54 rfl (lv_at hl 1 rfl) ?_
  refine lv_isub hx hb dX11_supplies_55 ?_
  refine lv_topi (fun v36 e37 => ?_)
  refine lv_sipush (v := 5000) hx hb dX11_supplies_56 (by decide) ?_
  refine lv_aload_n hx hb dX11_supplies_59 rfl (lv_at hl 2 rfl) ?_
  refine z_get (k := 13) (j := 8) hM hI hk0 rfl rfl hinX11 rfl (by decide) (by decide +kernel) (fun _ h9 => h9) dX11_supplies_60 (fun v38 hv39 => ?_)
  obtain ⟨i40, rfl⟩ := hv39
  refine lv_isub hx hb dX11_supplies_63 ?_
  refine lv_topi (fun v41 e42 => ?_)
  refine va_mmin hx hb (hml.trans hl.1.symm) hown (hts (.methodLink RX11 186 Lib.Math.min.name) (by decide +kernel)) (hts (.static Lib.Math.min.name) (by decide +kernel)) (hts (.initialized "java/lang/Math") (by decide +kernel)) (hts (.code Lib.Math.min.name Lib.Math.min.code 2 (some .int)) (by decide +kernel)) (Nat.le_of_ble_eq_true rfl) (Nat.le_of_ble_eq_true rfl) (Nat.le_of_ble_eq_true rfl) (Nat.le_of_ble_eq_true rfl) dX11_supplies_64 ?_
  refine lv_topi (fun v43 e44 => ?_)
  refine va_mmin hx hb (hml.trans hl.1.symm) hown (hts (.methodLink RX11 186 Lib.Math.min.name) (by decide +kernel)) (hts (.static Lib.Math.min.name) (by decide +kernel)) (hts (.initialized "java/lang/Math") (by decide +kernel)) (hts (.code Lib.Math.min.name Lib.Math.min.code 2 (some .int)) (by decide +kernel)) (Nat.le_of_ble_eq_true rfl) (Nat.le_of_ble_eq_true rfl) (Nat.le_of_ble_eq_true rfl) (Nat.le_of_ble_eq_true rfl) dX11_supplies_67 ?_
  refine lv_topi (fun v45 e46 => ?_)
  refine lv_istore_n (lv' := [(3, .int v45), (2, .int v18), (1, .int v8), (0, .ref p0)]) hx hb dX11_supplies_70 rfl hl (by decide) rfl (fun ls hl => ?_)
  refine lv_aload_n hx hb dX11_supplies_71 rfl (lv_at hl 3 rfl) ?_
  refine lv_dup hx hb dX11_supplies_72 rfl ?_
  refine z_get (k := 13) (j := 8) hM hI hk0 rfl rfl hinX11 rfl (by decide) (by decide +kernel) (fun _ h9 => h9) dX11_supplies_73 (fun v47 hv48 => ?_)
  obtain ⟨i49, rfl⟩ := hv48
  refine lv_iload_n hx hb dX11_supplies_76 rfl (lv_at hl 0 rfl) ?_
  refine lv_iadd hx hb dX11_supplies_77 ?_
  refine lv_topi (fun v50 e51 => ?_)
  refine z_put (g' := g) (k := 13) (j := 8) hM hI hk0 rfl rfl hinX11 tyX11 tyX11_ok nmX11 rfl (by decide) (by decide +kernel) (fun _ h9 => h9) rfl rfl rfl rfl ⟨_, rfl⟩ (fun _ _ _ => rfl) dX11_supplies_78 (fun H locs hI => ?_)
  refine lv_aload_n hx hb dX11_supplies_81 rfl (lv_at hl 3 rfl) ?_
  refine lv_dup hx hb dX11_supplies_82 rfl ?_
  refine z_get (k := 13) (j := 19) hM hI hk0 rfl rfl hinX11 rfl (by decide) (by decide +kernel) (fun _ h9 => h9) dX11_supplies_83 (fun v52 hv53 => ?_)
  obtain ⟨i54, rfl⟩ := hv53
  refine lv_iload_n hx hb dX11_supplies_86 rfl (lv_at hl 2 rfl) ?_
  refine lv_iload_n hx hb dX11_supplies_87 rfl (lv_at hl 0 rfl) ?_
  refine lv_iadd hx hb dX11_supplies_88 ?_
  refine lv_topi (fun v55 e56 => ?_)
  refine lv_i2l hx hb dX11_supplies_89 rfl ?_
  refine lv_topl (fun v57 e58 => ?_)
  refine lv_ladd hx hb dX11_supplies_90 ?_
  refine lv_topl (fun v59 e60 => ?_)
  refine z_put (g' := g) (k := 13) (j := 19) hM hI hk0 rfl rfl hinX11 tyX11 tyX11_ok nmX11 rfl (by decide) (by decide +kernel) (fun _ h9 => h9) rfl rfl rfl rfl ⟨_, rfl⟩ (fun _ _ _ => rfl) dX11_supplies_91 (fun H locs hI => ?_)
  refine lv_aload_n hx hb dX11_supplies_94 rfl (lv_at hl 3 rfl) ?_
  refine lv_dup hx hb dX11_supplies_95 rfl ?_
  refine z_get (k := 13) (j := 20) hM hI hk0 rfl rfl hinX11 rfl (by decide) (by decide +kernel) (fun _ h9 => h9) dX11_supplies_96 (fun v61 hv62 => ?_)
  obtain ⟨i63, rfl⟩ := hv62
  refine lv_iload_n hx hb dX11_supplies_99 rfl (lv_at hl 1 rfl) ?_
  refine lv_iload_n hx hb dX11_supplies_100 rfl (lv_at hl 0 rfl) ?_
  refine lv_isub hx hb dX11_supplies_101 ?_
  refine lv_topi (fun v64 e65 => ?_)
  refine lv_i2l hx hb dX11_supplies_102 rfl ?_
  refine lv_topl (fun v66 e67 => ?_)
  refine lv_ladd hx hb dX11_supplies_103 ?_
  refine lv_topl (fun v68 e69 => ?_)
  refine z_put (g' := g) (k := 13) (j := 20) hM hI hk0 rfl rfl hinX11 tyX11 tyX11_ok nmX11 rfl (by decide) (by decide +kernel) (fun _ h9 => h9) rfl rfl rfl rfl ⟨_, rfl⟩ (fun _ _ _ => rfl) dX11_supplies_104 (fun H locs hI => ?_)
  refine lv_aload_n hx hb dX11_supplies_107 rfl (lv_at hl 3 rfl) ?_
  refine lv_dup hx hb dX11_supplies_108 rfl ?_
  refine z_get (k := 13) (j := 21) hM hI hk0 rfl rfl hinX11 rfl (by decide) (by decide +kernel) (fun _ h9 => h9) dX11_supplies_109 (fun v70 hv71 => ?_)
  obtain ⟨i72, rfl⟩ := hv71
  refine lv_aload_n hx hb dX11_supplies_112 rfl (lv_at hl 3 rfl) ?_
  refine z_get (k := 13) (j := 11) hM hI hk0 rfl rfl hinX11 rfl (by decide) (by decide +kernel) (fun _ h9 => h9) dX11_supplies_113 (fun v73 hv74 => ?_)
  obtain ⟨i75, rfl⟩ := hv74
  refine lv_i2l hx hb dX11_supplies_116 rfl ?_
  refine lv_topl (fun v76 e77 => ?_)
  refine lv_ladd hx hb dX11_supplies_117 ?_
  refine lv_topl (fun v78 e79 => ?_)
  refine z_put (g' := g) (k := 13) (j := 21) hM hI hk0 rfl rfl hinX11 tyX11 tyX11_ok nmX11 rfl (by decide) (by decide +kernel) (fun _ h9 => h9) rfl rfl rfl rfl ⟨_, rfl⟩ (fun _ _ _ => rfl) dX11_supplies_118 (fun H locs hI => ?_)
  refine lv_aload_n hx hb dX11_supplies_121 rfl (lv_at hl 3 rfl) ?_
  refine lv_dup hx hb dX11_supplies_122 rfl ?_
  refine z_get (k := 13) (j := 24) hM hI hk0 rfl rfl hinX11 rfl (by decide) (by decide +kernel) (fun _ h9 => h9) dX11_supplies_123 (fun v80 hv81 => ?_)
  obtain ⟨i82, rfl⟩ := hv81
  refine lv_aload_n hx hb dX11_supplies_126 rfl (lv_at hl 3 rfl) ?_
  refine z_get (k := 13) (j := 10) hM hI hk0 rfl rfl hinX11 rfl (by decide) (by decide +kernel) (fun _ h9 => h9) dX11_supplies_127 (fun v83 hv84 => ?_)
  obtain ⟨i85, rfl⟩ := hv84
  refine lv_i2l hx hb dX11_supplies_130 rfl ?_
  refine lv_topl (fun v86 e87 => ?_)
  refine lv_ladd hx hb dX11_supplies_131 ?_
  refine lv_topl (fun v88 e89 => ?_)
  refine z_put (g' := g) (k := 13) (j := 24) hM hI hk0 rfl rfl hinX11 tyX11 tyX11_ok nmX11 rfl (by decide) (by decide +kernel) (fun _ h9 => h9) rfl rfl rfl rfl ⟨_, rfl⟩ (fun _ _ _ => rfl) dX11_supplies_132 (fun H locs hI => ?_)
  refine lv_aload_n hx hb dX11_supplies_135 rfl (lv_at hl 3 rfl) ?_
  refine lv_iconst (v := 0) hx hb dX11_supplies_136 (by decide) ?_
  refine lv_sipush (v := 600) hx hb dX11_supplies_137 (by decide) ?_
  refine lv_aload_n hx hb dX11_supplies_140 rfl (lv_at hl 3 rfl) ?_
  refine z_get (k := 13) (j := 9) hM hI hk0 rfl rfl hinX11 rfl (by decide) (by decide +kernel) (fun _ h9 => h9) dX11_supplies_141 (fun v90 hv91 => ?_)
  obtain ⟨i92, rfl⟩ := hv91
  refine lv_bipush (v := 60) hx hb dX11_supplies_144 (by decide) ?_
  refine lv_iadd hx hb dX11_supplies_146 ?_
  refine lv_topi (fun v93 e94 => ?_)
  refine lv_aload_n hx hb dX11_supplies_147 rfl (lv_at hl 3 rfl) ?_
  refine z_get (k := 13) (j := 10) hM hI hk0 rfl rfl hinX11 rfl (by decide) (by decide +kernel) (fun _ h9 => h9) dX11_supplies_148 (fun v95 hv96 => ?_)
  obtain ⟨i97, rfl⟩ := hv96
  refine lv_isub hx hb dX11_supplies_151 ?_
  refine lv_topi (fun v98 e99 => ?_)
  refine va_mmin hx hb (hml.trans hl.1.symm) hown (hts (.methodLink RX11 186 Lib.Math.min.name) (by decide +kernel)) (hts (.static Lib.Math.min.name) (by decide +kernel)) (hts (.initialized "java/lang/Math") (by decide +kernel)) (hts (.code Lib.Math.min.name Lib.Math.min.code 2 (some .int)) (by decide +kernel)) (Nat.le_of_ble_eq_true rfl) (Nat.le_of_ble_eq_true rfl) (Nat.le_of_ble_eq_true rfl) (Nat.le_of_ble_eq_true rfl) dX11_supplies_152 ?_
  refine lv_topi (fun v100 e101 => ?_)
  refine va_mmax hx hb (hml.trans hl.1.symm) hown (hts (.methodLink RX11 189 Lib.Math.max.name) (by decide +kernel)) (hts (.static Lib.Math.max.name) (by decide +kernel)) (hts (.initialized "java/lang/Math") (by decide +kernel)) (hts (.code Lib.Math.max.name Lib.Math.max.code 2 (some .int)) (by decide +kernel)) (Nat.le_of_ble_eq_true rfl) (Nat.le_of_ble_eq_true rfl) (Nat.le_of_ble_eq_true rfl) (Nat.le_of_ble_eq_true rfl) dX11_supplies_155 ?_
  refine lv_topi (fun v102 e103 => ?_)
  refine z_put (g' := g) (k := 13) (j := 9) hM hI hk0 rfl rfl hinX11 tyX11 tyX11_ok nmX11 rfl (by decide) (by decide +kernel) (fun _ h9 => h9) rfl rfl rfl rfl ⟨_, rfl⟩ (fun _ _ _ => rfl) dX11_supplies_158 (fun H locs hI => ?_)
  refine W.widen (k := 0) (n := 0) (Nat.le_of_ble_eq_true rfl) (Nat.le_of_ble_eq_true rfl) ?_
  exact W.vret hx hb hr (fun t ht hW => ⟨⟨(L, κ, g), rfl, rfl, z_end hK hI ht hW⟩, z_F hI ht⟩) (z_locs hI) dX11_supplies_161

set_option maxHeartbeats 4000000 in
set_option maxRecDepth 100000 in
theorem c_X11_sleeps (l : Launch) (D : va_G) (tc : Nat → ClassId) (z0 : Nat) (L : List Nat) (κ : Nat → Nat) (g : Nat → Nat → Value) (sz : Nat) (p0 : Nat) (hk0 : κ p0 = 13) (lc eC nC : Nat) (mC : Int32) (cf : Nat → Nat) (lt eT nT : Nat) (mT : Int32) (tf : Nat → Nat) (hMo : zMo κ g z0 p0 lc eC nC mC cf lt eT nT mT tf) : Met l yX11_sleeps wsX11_sleeps ({ frames := 4, cells := 21, slots := 84, locals := 88 }) (zPc D tc z0 [.ref p0] [] (L, κ, g) sz) (va_Qv (fun (u : zS) => u = (L, κ, g)) (fun (u : zS) (t : State) => zB D tc (zA [] L sz) [] u t) (zA [] L sz)) 21 84 (zA [] L sz) := by
  refine Met.ofW (cc := cX11_sleeps) (maxL := 5) (ret := none) (by decide) rfl ?_
  intro p e9 s m args below meth c s₁ B hml hv
  obtain ⟨rfl, rfl, hK, hE, hI⟩ := hv.opn
  have hx := B.exec
  have hb := B.bytes
  have hr := B.returns
  have hts := atoms_spec (ws := wsX11_sleeps) B.pre
  have hown : s.vm.findClass RX11 = some m.cls := findClass_of_methodNamed B.named
  have hlocks := B.notSynchronized
  have hM : zM p s m c cX11_sleeps _ wsX11_sleeps RX11 D tc := ⟨hx, hb, hts, hown, hK⟩
  have hinX11 : ∀ w ∈ wsX110, w ∈ wsX11_sleeps := by decide +kernel
  have hinX9 : ∀ w ∈ wsX90, w ∈ wsX11_sleeps := by decide +kernel
  have hnC := hMo.bC
  have hnT := hMo.bT
  have hl := lv_entry ([.ref p0]) (n := 5) (Nat.le_of_ble_eq_true rfl)
  rw [lg_entry_eq]
  generalize (lg_sl ([.ref p0]) ++ List.replicate (5 - (lg_sl ([.ref p0])).length) Slot.unset).toArray = ls at hl ⊢
  have hl : lv_has ls 5 [(0, .ref p0)] := hl
  refine lv_iconst (v := 0) hx hb dX11_sleeps_0 (by decide) ?_
  refine lv_istore_n (lv' := [(1, .int 0), (0, .ref p0)]) hx hb dX11_sleeps_1 rfl hl (by decide) rfl (fun ls hl => ?_)
  refine lv_iconst (v := 0) hx hb dX11_sleeps_2 (by decide) ?_
  refine lv_istore_n (lv' := [(2, .int 0), (1, .int 0), (0, .ref p0)]) hx hb dX11_sleeps_3 rfl hl (by decide) rfl (fun ls hl => ?_)
  have hL4 : ∀ (n : Nat) (H : Heap) (locs : List Loc) (x1 : Int32)  (i2 : Nat) (hi : i2 ≤ nC) (hn : nC - i2 < n)  (hI : zI D tc (zA [] L s.heap.size) s.heap [] L κ g H locs) (ls : Array Slot) (hl : lv_has ls 5 [(0, .ref p0), (1, .int x1), (2, .int ((nI i2)))]), W p l e9 (headSpec wsX11_sleeps ({ frames := 4, cells := 21, slots := 84, locals := 88 })).room s m ([.ref p0] : List Value).toArray below meth c H locs (0 + 3 * i2) (0 + 12 * i2) (MQ below (va_Qv (fun (u : zS) => u = (L, κ, g)) (fun (u : zS) (t : State) => zB D tc (zA [] L s.heap.size) [] u t) (zA [] L s.heap.size)) ([.ref p0] : List Value).toArray s 21 84 (zA [] L s.heap.size)) (F0 m 4 ls []) := by
    intro n
    induction n with
    | zero => intro H locs x1 i2 hi hn hI ls hl; exact absurd hn (Nat.not_lt_zero _)
    | succ n ih4 =>
      intro H locs x1 i2 hi hn hI ls hl
      refine lv_iload_n hx hb dX11_sleeps_4 rfl (lv_at hl 2 rfl) ?_
      refine lv_aload_n hx hb dX11_sleeps_5 rfl (lv_at hl 0 rfl) ?_
      refine z_get (k := 13) (j := 0) hM hI hk0 rfl rfl hinX11 rfl (by decide) (by decide +kernel) (fun _ h9 => h9) dX11_sleeps_6 (fun v3 hv4 => ?_)
      obtain ⟨hg6, i5, rfl, hr7⟩ := hv4
      obtain rfl : lc = i5 := Value.ref.inj (hMo.gc.symm.trans hg6.symm)
      refine va_csFi (va_runF (As := []) (rest := [.int ((nI i2))]) (hK.1 1 _ rfl).2 ⟨hx, hb, hml, hown, hts⟩ (c_Jx4a65c_size_8abf5 l D tc z0 _ κ g _ lc 1 eC 25 11 nC mC cf rfl hMo.LC) (va_cwF 0 hts gX11_sleeps_Jx4a65c_size_8abf5_f46Jx4a65c rfl rfl rfl (hE.2.2.1 (RJx4a65c, ⟨"java/util/List", "size", "()I"⟩, yJx4a65c_size_8abf5) (by decide +kernel)) (by decide +kernel) ⟨Nat.le_of_ble_eq_true rfl, Nat.le_of_ble_eq_true rfl⟩) (z_preV (Xc := []) hK hE hI [] rfl rfl (z_recv hK hI hMo.LC.1 rfl rfl)) rfl rfl hl.1 rfl (lv_room (Nat.le_of_ble_eq_true rfl)) dX11_sleeps_9 ⟨(show (0 + 3 * i2) + 0 ≤ 21 from by omega), (show (0 + 12 * i2) + 0 ≤ 84 from by omega)⟩) (fun v8 hw9 => ?_)
      obtain rfl := hw9
      refine lv_icmp_ge (tgt := 291) hx hb dX11_sleeps_14 (by decide) (fun c10 => ?_) (fun c10 => ?_)
      · skip
        have hgec10 : nC ≤ i2 := z_ge (by omega) (by omega) c10
        refine W.widen (k := 21) (n := 84) (by omega) (by omega) ?_
        exact W.vret hx hb hr (fun t ht hW => ⟨⟨(L, κ, g), rfl, rfl, z_end hK hI ht hW⟩, z_F hI ht⟩) (z_locs hI) dX11_sleeps_291
      · skip
        have hltc10 : i2 < nC := z_lt (by omega) c10
        refine lv_aload_n hx hb dX11_sleeps_17 rfl (lv_at hl 0 rfl) ?_
        refine z_get (k := 13) (j := 0) hM hI hk0 rfl rfl hinX11 rfl (by decide) (by decide +kernel) (fun _ h9 => h9) dX11_sleeps_18 (fun v11 hv12 => ?_)
        obtain ⟨hg14, i13, rfl, hr15⟩ := hv12
        obtain rfl : lc = i13 := Value.ref.inj (hMo.gc.symm.trans hg14.symm)
        refine lv_iload_n hx hb dX11_sleeps_21 rfl (lv_at hl 2 rfl) ?_
        refine va_csFq (va_runF (As := [.int ((nI i2))]) (rest := []) (hK.1 1 _ rfl).2 ⟨hx, hb, hml, hown, hts⟩ (c_Jx4a65c_get_915e3 l D tc z0 _ κ g _ lc 1 eC 25 11 nC mC cf rfl hMo.LC rfl rfl i2 (by omega)) (va_cwF 1 hts gX11_sleeps_Jx4a65c_get_915e3_f101Jx4a65c rfl rfl rfl (hE.2.2.1 (RJx4a65c, ⟨"java/util/List", "get", "(I)Ljava/lang/Object;"⟩, yJx4a65c_get_915e3) (by decide +kernel)) (by decide +kernel) ⟨Nat.le_of_ble_eq_true rfl, Nat.le_of_ble_eq_true rfl⟩) (z_preV (Xc := []) hK hE hI [] rfl rfl (z_recv hK hI hMo.LC.1 rfl rfl)) rfl rfl hl.1 rfl (lv_room (Nat.le_of_ble_eq_true rfl)) dX11_sleeps_22 ⟨(show (0 + 3 * i2) + 0 ≤ 21 from by omega), (show (0 + 12 * i2) + 0 ≤ 84 from by omega)⟩) (fun r16 hw17 => ?_)
        obtain rfl := hw17
        have hr18 : κ (cf i2) = 11 := hMo.LC.el (i := i2) (by omega)
        show W p l e9 (headSpec wsX11_sleeps ({ frames := 4, cells := 21, slots := 84, locals := 88 })).room s m ([.ref p0] : List Value).toArray below meth c _ _ (0 + 3 * i2) (0 + 12 * i2) (MQ below (va_Qv (fun (u : zS) => u = (L, κ, g)) (fun (u : zS) (t : State) => zB D tc (zA [] L s.heap.size) [] u t) (zA [] L s.heap.size)) ([.ref p0] : List Value).toArray s 21 84 (zA [] L s.heap.size)) (F0 m 27 ls (.ref (cf i2) :: []))
        refine z_castS (k := 11) hM hI hr18 rfl rfl (by decide +kernel) dX11_sleeps_27 ?_
        refine lv_astore_n (lv' := [(3, .ref ((cf i2))), (0, .ref p0), (1, .int x1), (2, .int ((nI i2)))]) hx hb dX11_sleeps_30 rfl hl (by decide) rfl (fun ls hl => ?_)
        refine lv_aload_n hx hb dX11_sleeps_31 rfl (lv_at hl 0 rfl) ?_
        refine z_getN (host := "WattgovernModel") (k := 11) (j := 17) hM hE hI hr18 rfl rfl hinX9 rfl (by decide) (by decide +kernel) (fun _ h9 => h9) dX11_sleeps_32 (fun v19 hv20 => ?_)
        obtain ⟨i21, rfl, hz22⟩ := zv_b hv20
        refine lv_istore (lv' := [(4, .int i21), (3, .ref ((cf i2))), (0, .ref p0), (1, .int x1), (2, .int ((nI i2)))]) hx hb dX11_sleeps_35 hl (by decide) rfl (fun ls hl => ?_)
        refine lv_aload_n hx hb dX11_sleeps_37 rfl (lv_at hl 1 rfl) ?_
        refine lv_aload_n hx hb dX11_sleeps_38 rfl (lv_at hl 2 rfl) ?_
        refine lv_iload_n hx hb dX11_sleeps_39 rfl (lv_at hl 4 rfl) ?_
        refine z_cqX (sel := fun u : zS => u) (rxf := fun _ => []) (Xc := []) (wr := []) [] [] rfl rfl rfl rfl (by decide) hI (va_runV (As := [.int ((nI i2))]) (rest := [.ref ((cf i2))]) ⟨hx, hb, hml, hown, hts⟩ (c_X11_running l D tc z0 _ κ g _ p0 hk0 ((nI i2)) lc eC nC mC cf lt eT nT mT tf hMo) (cwV 1 hts gX11_sleeps_X11_running rfl rfl rfl (by decide +kernel) ⟨Nat.le_of_ble_eq_true rfl, Nat.le_of_ble_eq_true rfl⟩) (z_preV (Xc := []) hK hE hI [] rfl rfl (z_recv hK hI hk0 rfl rfl)) rfl rfl hl.1 rfl (lv_room (Nat.le_of_ble_eq_true rfl)) dX11_sleeps_40 ⟨(show (0 + 3 * i2) + 1 ≤ 21 from by omega), (show (0 + 12 * i2) + 4 ≤ 84 from by omega)⟩) (fun v23 u H locs hw24 hI => ?_)
        obtain ⟨hw24, rfl⟩ := hw24
        have hI : zI D tc _ s.heap [] L κ g _ _ := hI
        refine W.widen (k := (1 + 3 * i2)) (n := (4 + 12 * i2)) (by omega) (by omega) ?_
        have hL51 : ∀ (H : Heap) (locs : List Loc) (y27 : Int32) (hz28 : y27 = 0 ∨ y27 = 1)  (hI : zI D tc (zA [] L s.heap.size) s.heap [] L κ g H locs) (ls : Array Slot) (hl : lv_has ls 5 [(0, .ref p0), (1, .int x1), (2, .int ((nI i2))), (3, .ref ((cf i2))), (4, .int i21)]), W p l e9 (headSpec wsX11_sleeps ({ frames := 4, cells := 21, slots := 84, locals := 88 })).room s m ([.ref p0] : List Value).toArray below meth c H locs (1 + 3 * i2) (4 + 12 * i2) (MQ below (va_Qv (fun (u : zS) => u = (L, κ, g)) (fun (u : zS) (t : State) => zB D tc (zA [] L s.heap.size) [] u t) (zA [] L s.heap.size)) ([.ref p0] : List Value).toArray s 21 84 (zA [] L s.heap.size)) (F0 m 51 ls [.int y27, .ref ((cf i2))]) := by
          intro H locs y27 hz28 hI ls hl
          refine z_putN (host := "WattgovernModel") (g' := g) (k := 11) (j := 17) hM hE hI hr18 rfl rfl hinX9 tyX9 tyX9_ok nmX9 rfl (by decide) (by decide +kernel) (fun _ h9 => h9) rfl rfl (z_bn (by first | assumption | exact Or.inl rfl | exact Or.inr rfl)) (z_bf (by first | assumption | exact Or.inl rfl | exact Or.inr rfl)) (z_bv (by first | assumption | exact Or.inl rfl | exact Or.inr rfl)) (fun _ _ _ => rfl) dX11_sleeps_51 (fun H locs hI => ?_)
          refine lv_aload_n hx hb dX11_sleeps_54 rfl (lv_at hl 3 rfl) ?_
          refine lv_aload_n hx hb dX11_sleeps_55 rfl (lv_at hl 3 rfl) ?_
          refine z_getN (host := "WattgovernModel") (k := 11) (j := 3) hM hE hI hr18 rfl rfl hinX9 rfl (by decide) (by decide +kernel) (fun _ h9 => h9) dX11_sleeps_56 (fun v29 hv30 => ?_)
          obtain ⟨hg32, i31, rfl, hf33⟩ := hv30
          refine lv_bipush (v := 108) hx hb dX11_sleeps_59 (by decide) ?_
          have hL105 : ∀ (H : Heap) (locs : List Loc) (y34 : Int32)   (hI : zI D tc (zA [] L s.heap.size) s.heap [] L κ g H locs) (ls : Array Slot) (hl : lv_has ls 5 [(0, .ref p0), (1, .int x1), (2, .int ((nI i2))), (3, .ref ((cf i2)))]), W p l e9 (headSpec wsX11_sleeps ({ frames := 4, cells := 21, slots := 84, locals := 88 })).room s m ([.ref p0] : List Value).toArray below meth c H locs (2 + 3 * i2) (8 + 12 * i2) (MQ below (va_Qv (fun (u : zS) => u = (L, κ, g)) (fun (u : zS) (t : State) => zB D tc (zA [] L s.heap.size) [] u t) (zA [] L s.heap.size)) ([.ref p0] : List Value).toArray s 21 84 (zA [] L s.heap.size)) (F0 m 105 ls [.int y34, .ref ((cf i2))]) := by
            intro H locs y34 hI ls hl
            refine z_putN (host := "WattgovernModel") (g' := g) (k := 11) (j := 8) hM hE hI hr18 rfl rfl hinX9 tyX9 tyX9_ok nmX9 rfl (by decide) (by decide +kernel) (fun _ h9 => h9) rfl rfl rfl rfl ⟨_, rfl⟩ (fun _ _ _ => rfl) dX11_sleeps_105 (fun H locs hI => ?_)
            refine lv_aload_n hx hb dX11_sleeps_108 rfl (lv_at hl 3 rfl) ?_
            refine lv_iconst (v := 0) hx hb dX11_sleeps_109 (by decide) ?_
            refine lv_aload_n hx hb dX11_sleeps_110 rfl (lv_at hl 3 rfl) ?_
            refine z_getN (host := "WattgovernModel") (k := 11) (j := 1) hM hE hI hr18 rfl rfl hinX9 rfl (by decide) (by decide +kernel) (fun _ h9 => h9) dX11_sleeps_111 (fun v35 hv36 => ?_)
            obtain ⟨i37, rfl⟩ := hv36
            refine lv_aload_n hx hb dX11_sleeps_114 rfl (lv_at hl 3 rfl) ?_
            refine z_getN (host := "WattgovernModel") (k := 11) (j := 8) hM hE hI hr18 rfl rfl hinX9 rfl (by decide) (by decide +kernel) (fun _ h9 => h9) dX11_sleeps_115 (fun v38 hv39 => ?_)
            obtain ⟨i40, rfl⟩ := hv39
            refine va_mmin hx hb (hml.trans hl.1.symm) hown (hts (.methodLink RX11 186 Lib.Math.min.name) (by decide +kernel)) (hts (.static Lib.Math.min.name) (by decide +kernel)) (hts (.initialized "java/lang/Math") (by decide +kernel)) (hts (.code Lib.Math.min.name Lib.Math.min.code 2 (some .int)) (by decide +kernel)) (Nat.le_of_ble_eq_true rfl) (Nat.le_of_ble_eq_true rfl) (show (2 + 3 * i2) + 0 ≤ 21 from by omega) (show (8 + 12 * i2) + 0 ≤ 84 from by omega) dX11_sleeps_118 ?_
            refine lv_topi (fun v41 e42 => ?_)
            refine va_mmax hx hb (hml.trans hl.1.symm) hown (hts (.methodLink RX11 189 Lib.Math.max.name) (by decide +kernel)) (hts (.static Lib.Math.max.name) (by decide +kernel)) (hts (.initialized "java/lang/Math") (by decide +kernel)) (hts (.code Lib.Math.max.name Lib.Math.max.code 2 (some .int)) (by decide +kernel)) (Nat.le_of_ble_eq_true rfl) (Nat.le_of_ble_eq_true rfl) (show (2 + 3 * i2) + 0 ≤ 21 from by omega) (show (8 + 12 * i2) + 0 ≤ 84 from by omega) dX11_sleeps_121 ?_
            refine lv_topi (fun v43 e44 => ?_)
            refine z_putN (host := "WattgovernModel") (g' := g) (k := 11) (j := 8) hM hE hI hr18 rfl rfl hinX9 tyX9 tyX9_ok nmX9 rfl (by decide) (by decide +kernel) (fun _ h9 => h9) rfl rfl rfl rfl ⟨_, rfl⟩ (fun _ _ _ => rfl) dX11_sleeps_124 (fun H locs hI => ?_)
            refine lv_aload_n hx hb dX11_sleeps_127 rfl (lv_at hl 3 rfl) ?_
            refine z_getN (host := "WattgovernModel") (k := 11) (j := 4) hM hE hI hr18 rfl rfl hinX9 rfl (by decide) (by decide +kernel) (fun _ h9 => h9) dX11_sleeps_128 (fun v45 hv46 => ?_)
            obtain ⟨i47, rfl, hf48⟩ := hv46
            refine lv_bipush (v := 119) hx hb dX11_sleeps_131 (by decide) ?_
            have hL285 : ∀ (H : Heap) (locs : List Loc) (x49 : Int32)   (hI : zI D tc (zA [] L s.heap.size) s.heap [] L κ g H locs) (ls : Array Slot) (hl : lv_has ls 5 [(0, .ref p0), (1, .int x49), (2, .int ((nI i2)))]), W p l e9 (headSpec wsX11_sleeps ({ frames := 4, cells := 21, slots := 84, locals := 88 })).room s m ([.ref p0] : List Value).toArray below meth c H locs (3 + 3 * i2) (12 + 12 * i2) (MQ below (va_Qv (fun (u : zS) => u = (L, κ, g)) (fun (u : zS) (t : State) => zB D tc (zA [] L s.heap.size) [] u t) (zA [] L s.heap.size)) ([.ref p0] : List Value).toArray s 21 84 (zA [] L s.heap.size)) (F0 m 285 ls []) := by
              intro H locs x49 hI ls hl
              refine lv_iinc (v := nI (i2 + 1)) (lv' := [(2, .int ((nI (i2 + 1)))), (0, .ref p0), (1, .int x49)]) hx hb dX11_sleeps_285 hl (k := 2) rfl (z_inc i2) (by decide) rfl (fun ls hl => ?_)
              refine lv_goto (tgt := 4) hx hb dX11_sleeps_288 (by decide) ?_
              refine W.widen (k := (0 + 3 * ((i2 + 1)))) (n := (0 + 12 * ((i2 + 1)))) (by omega) (by omega) ?_
              exact ih4 _ _ x49 ((i2 + 1)) (by first | omega | (simp only [] at *; omega)) (by first | omega | (simp only [] at *; omega)) hI ls (lv_sub hl [1, 2, 0] rfl)
            refine lv_icmp_ne (tgt := 161) hx hb dX11_sleeps_133 (by decide) (fun c50 => ?_) (fun c50 => ?_)
            · skip
              refine lv_aload_n hx hb dX11_sleeps_161 rfl (lv_at hl 3 rfl) ?_
              refine z_getN (host := "WattgovernModel") (k := 11) (j := 17) hM hE hI hr18 rfl rfl hinX9 rfl (by decide) (by decide +kernel) (fun _ h9 => h9) dX11_sleeps_162 (fun v51 hv52 => ?_)
              obtain ⟨i53, rfl, hz54⟩ := zv_b hv52
              have hL231 : ∀ (H : Heap) (locs : List Loc)    (hI : zI D tc (zA [] L s.heap.size) s.heap [] L κ g H locs) (ls : Array Slot) (hl : lv_has ls 5 [(0, .ref p0), (1, .int x1), (2, .int ((nI i2))), (3, .ref ((cf i2)))]), W p l e9 (headSpec wsX11_sleeps ({ frames := 4, cells := 21, slots := 84, locals := 88 })).room s m ([.ref p0] : List Value).toArray below meth c H locs (2 + 3 * i2) (8 + 12 * i2) (MQ below (va_Qv (fun (u : zS) => u = (L, κ, g)) (fun (u : zS) (t : State) => zB D tc (zA [] L s.heap.size) [] u t) (zA [] L s.heap.size)) ([.ref p0] : List Value).toArray s 21 84 (zA [] L s.heap.size)) (F0 m 231 ls []) := by
                intro H locs hI ls hl
                refine lv_aload_n hx hb dX11_sleeps_231 rfl (lv_at hl 3 rfl) ?_
                refine lv_aload_n hx hb dX11_sleeps_232 rfl (lv_at hl 3 rfl) ?_
                refine z_getN (host := "WattgovernModel") (k := 11) (j := 17) hM hE hI hr18 rfl rfl hinX9 rfl (by decide) (by decide +kernel) (fun _ h9 => h9) dX11_sleeps_233 (fun v55 hv56 => ?_)
                obtain ⟨i57, rfl, hz58⟩ := zv_b hv56
                have hL249 : ∀ (H : Heap) (locs : List Loc) (y59 : Int32)   (hI : zI D tc (zA [] L s.heap.size) s.heap [] L κ g H locs) (ls : Array Slot) (hl : lv_has ls 5 [(0, .ref p0), (1, .int x1), (2, .int ((nI i2))), (3, .ref ((cf i2)))]), W p l e9 (headSpec wsX11_sleeps ({ frames := 4, cells := 21, slots := 84, locals := 88 })).room s m ([.ref p0] : List Value).toArray below meth c H locs (2 + 3 * i2) (8 + 12 * i2) (MQ below (va_Qv (fun (u : zS) => u = (L, κ, g)) (fun (u : zS) (t : State) => zB D tc (zA [] L s.heap.size) [] u t) (zA [] L s.heap.size)) ([.ref p0] : List Value).toArray s 21 84 (zA [] L s.heap.size)) (F0 m 249 ls [.int y59, .ref ((cf i2))]) := by
                  intro H locs y59 hI ls hl
                  refine z_putN (host := "WattgovernModel") (g' := g) (k := 11) (j := 11) hM hE hI hr18 rfl rfl hinX9 tyX9 tyX9_ok nmX9 rfl (by decide) (by decide +kernel) (fun _ h9 => h9) rfl rfl rfl rfl ⟨_, rfl⟩ (fun _ _ _ => rfl) dX11_sleeps_249 (fun H locs hI => ?_)
                  refine lv_aload_n hx hb dX11_sleeps_252 rfl (lv_at hl 3 rfl) ?_
                  refine lv_aload_n hx hb dX11_sleeps_253 rfl (lv_at hl 3 rfl) ?_
                  refine z_getN (host := "WattgovernModel") (k := 11) (j := 11) hM hE hI hr18 rfl rfl hinX9 rfl (by decide) (by decide +kernel) (fun _ h9 => h9) dX11_sleeps_254 (fun v60 hv61 => ?_)
                  obtain ⟨i62, rfl⟩ := hv61
                  refine lv_bipush (v := 10) hx hb dX11_sleeps_257 (by decide) ?_
                  have hL282 : ∀ (H : Heap) (locs : List Loc) (y63 : Int32) (hf64 : fits .char (.int y63) = true)  (hI : zI D tc (zA [] L s.heap.size) s.heap [] L κ g H locs) (ls : Array Slot) (hl : lv_has ls 5 [(0, .ref p0), (1, .int x1), (2, .int ((nI i2)))]), W p l e9 (headSpec wsX11_sleeps ({ frames := 4, cells := 21, slots := 84, locals := 88 })).room s m ([.ref p0] : List Value).toArray below meth c H locs (2 + 3 * i2) (8 + 12 * i2) (MQ below (va_Qv (fun (u : zS) => u = (L, κ, g)) (fun (u : zS) (t : State) => zB D tc (zA [] L s.heap.size) [] u t) (zA [] L s.heap.size)) ([.ref p0] : List Value).toArray s 21 84 (zA [] L s.heap.size)) (F0 m 282 ls [.int y63, .ref ((cf i2))]) := by
                    intro H locs y63 hf64 hI ls hl
                    refine z_putN (host := "WattgovernModel") (g' := g) (k := 11) (j := 4) hM hE hI hr18 rfl rfl hinX9 tyX9 tyX9_ok nmX9 rfl (by decide) (by decide +kernel) (fun _ h9 => h9) rfl rfl (z_cn (by first | assumption | decide)) (by first | assumption | decide) ⟨_, rfl, (by first | assumption | decide)⟩ (fun _ _ _ => rfl) dX11_sleeps_282 (fun H locs hI => ?_)
                    refine W.widen (k := (3 + 3 * i2)) (n := (12 + 12 * i2)) (by omega) (by omega) ?_
                    exact hL285 _ _ x1 hI ls (lv_sub hl [0, 1, 2] rfl)
                  refine lv_icmp_lt (tgt := 267) hx hb dX11_sleeps_259 (by decide) (fun c65 => ?_) (fun c65 => ?_)
                  · skip
                    refine lv_aload_n hx hb dX11_sleeps_267 rfl (lv_at hl 3 rfl) ?_
                    refine z_getN (host := "WattgovernModel") (k := 11) (j := 11) hM hE hI hr18 rfl rfl hinX9 rfl (by decide) (by decide +kernel) (fun _ h9 => h9) dX11_sleeps_268 (fun v66 hv67 => ?_)
                    obtain ⟨i68, rfl⟩ := hv67
                    refine lv_iconst (v := 3) hx hb dX11_sleeps_271 (by decide) ?_
                    refine lv_icmp_lt (tgt := 280) hx hb dX11_sleeps_272 (by decide) (fun c69 => ?_) (fun c69 => ?_)
                    · skip
                      refine lv_bipush (v := 97) hx hb dX11_sleeps_280 (by decide) ?_
                      exact hL282 _ _ 97 (by first | assumption | decide) hI ls (lv_sub hl [0, 1, 2] rfl)
                    · skip
                      refine lv_bipush (v := 108) hx hb dX11_sleeps_275 (by decide) ?_
                      refine lv_goto (tgt := 282) hx hb dX11_sleeps_277 (by decide) ?_
                      exact hL282 _ _ 108 (by first | assumption | decide) hI ls (lv_sub hl [0, 1, 2] rfl)
                  · skip
                    refine lv_bipush (v := 100) hx hb dX11_sleeps_262 (by decide) ?_
                    refine lv_goto (tgt := 282) hx hb dX11_sleeps_264 (by decide) ?_
                    exact hL282 _ _ 100 (by first | assumption | decide) hI ls (lv_sub hl [0, 1, 2] rfl)
                refine lv_if_eq (tgt := 243) hx hb dX11_sleeps_236 (by decide) (fun c70 => ?_) (fun c70 => ?_)
                · skip
                  refine lv_aload_n hx hb dX11_sleeps_243 rfl (lv_at hl 3 rfl) ?_
                  refine z_getN (host := "WattgovernModel") (k := 11) (j := 11) hM hE hI hr18 rfl rfl hinX9 rfl (by decide) (by decide +kernel) (fun _ h9 => h9) dX11_sleeps_244 (fun v71 hv72 => ?_)
                  obtain ⟨i73, rfl⟩ := hv72
                  refine lv_iconst (v := 1) hx hb dX11_sleeps_247 (by decide) ?_
                  refine lv_iadd hx hb dX11_sleeps_248 ?_
                  refine lv_topi (fun v74 e75 => ?_)
                  exact hL249 _ _ v74 hI ls (lv_sub hl [0, 1, 2, 3] rfl)
                · skip
                  refine lv_iconst (v := 0) hx hb dX11_sleeps_239 (by decide) ?_
                  refine lv_goto (tgt := 249) hx hb dX11_sleeps_240 (by decide) ?_
                  exact hL249 _ _ 0 hI ls (lv_sub hl [0, 1, 2, 3] rfl)
              refine lv_if_eq (tgt := 231) hx hb dX11_sleeps_165 (by decide) (fun c76 => ?_) (fun c76 => ?_)
              · skip
                exact hL231 _ _ hI ls (lv_sub hl [0, 1, 2, 3] rfl)
              · skip
                refine lv_aload_n hx hb dX11_sleeps_168 rfl (lv_at hl 3 rfl) ?_
                refine z_getN (host := "WattgovernModel") (k := 11) (j := 4) hM hE hI hr18 rfl rfl hinX9 rfl (by decide) (by decide +kernel) (fun _ h9 => h9) dX11_sleeps_169 (fun v77 hv78 => ?_)
                obtain ⟨i79, rfl, hf80⟩ := hv78
                refine lv_bipush (v := 97) hx hb dX11_sleeps_172 (by decide) ?_
                refine lv_icmp_eq (tgt := 231) hx hb dX11_sleeps_174 (by decide) (fun c81 => ?_) (fun c81 => ?_)
                · skip
                  exact hL231 _ _ hI ls (lv_sub hl [0, 1, 2, 3] rfl)
                · skip
                  refine lv_iload_n hx hb dX11_sleeps_177 rfl (lv_at hl 1 rfl) ?_
                  refine lv_iconst (v := 2) hx hb dX11_sleeps_178 (by decide) ?_
                  refine lv_icmp_ne (tgt := 185) hx hb dX11_sleeps_179 (by decide) (fun c82 => ?_) (fun c82 => ?_)
                  · skip
                    obtain ⟨v83, e84⟩ : ∃ y : Int32, y = x1 + Int32.ofInt (1) := ⟨_, rfl⟩
                    refine lv_iinc (v := v83) (lv' := [(1, .int v83), (0, .ref p0), (2, .int ((nI i2))), (3, .ref ((cf i2)))]) hx hb dX11_sleeps_185 hl (k := 1) rfl e84.symm (by decide) rfl (fun ls hl => ?_)
                    refine lv_aload_n hx hb dX11_sleeps_188 rfl (lv_at hl 3 rfl) ?_
                    refine lv_aload_n hx hb dX11_sleeps_189 rfl (lv_at hl 3 rfl) ?_
                    refine z_getN (host := "WattgovernModel") (k := 11) (j := 4) hM hE hI hr18 rfl rfl hinX9 rfl (by decide) (by decide +kernel) (fun _ h9 => h9) dX11_sleeps_190 (fun v85 hv86 => ?_)
                    obtain ⟨i87, rfl, hf88⟩ := hv86
                    refine lv_bipush (v := 100) hx hb dX11_sleeps_193 (by decide) ?_
                    have hL203 : ∀ (H : Heap) (locs : List Loc) (y89 : Int32) (hz90 : y89 = 0 ∨ y89 = 1)  (hI : zI D tc (zA [] L s.heap.size) s.heap [] L κ g H locs) (ls : Array Slot) (hl : lv_has ls 5 [(0, .ref p0), (1, .int v83), (2, .int ((nI i2))), (3, .ref ((cf i2)))]), W p l e9 (headSpec wsX11_sleeps ({ frames := 4, cells := 21, slots := 84, locals := 88 })).room s m ([.ref p0] : List Value).toArray below meth c H locs (2 + 3 * i2) (8 + 12 * i2) (MQ below (va_Qv (fun (u : zS) => u = (L, κ, g)) (fun (u : zS) (t : State) => zB D tc (zA [] L s.heap.size) [] u t) (zA [] L s.heap.size)) ([.ref p0] : List Value).toArray s 21 84 (zA [] L s.heap.size)) (F0 m 203 ls [.int y89, .ref ((cf i2))]) := by
                      intro H locs y89 hz90 hI ls hl
                      refine z_putN (host := "WattgovernModel") (g' := g) (k := 11) (j := 18) hM hE hI hr18 rfl rfl hinX9 tyX9 tyX9_ok nmX9 rfl (by decide) (by decide +kernel) (fun _ h9 => h9) rfl rfl (z_bn (by first | assumption | exact Or.inl rfl | exact Or.inr rfl)) (z_bf (by first | assumption | exact Or.inl rfl | exact Or.inr rfl)) (z_bv (by first | assumption | exact Or.inl rfl | exact Or.inr rfl)) (fun _ _ _ => rfl) dX11_sleeps_203 (fun H locs hI => ?_)
                      refine lv_aload_n hx hb dX11_sleeps_206 rfl (lv_at hl 3 rfl) ?_
                      refine lv_aload_n hx hb dX11_sleeps_207 rfl (lv_at hl 3 rfl) ?_
                      refine z_getN (host := "WattgovernModel") (k := 11) (j := 18) hM hE hI hr18 rfl rfl hinX9 rfl (by decide) (by decide +kernel) (fun _ h9 => h9) dX11_sleeps_208 (fun v91 hv92 => ?_)
                      obtain ⟨i93, rfl, hz94⟩ := zv_b hv92
                      have hL219 : ∀ (H : Heap) (locs : List Loc) (y95 : Int32)   (hI : zI D tc (zA [] L s.heap.size) s.heap [] L κ g H locs) (ls : Array Slot) (hl : lv_has ls 5 [(0, .ref p0), (1, .int v83), (2, .int ((nI i2))), (3, .ref ((cf i2)))]), W p l e9 (headSpec wsX11_sleeps ({ frames := 4, cells := 21, slots := 84, locals := 88 })).room s m ([.ref p0] : List Value).toArray below meth c H locs (2 + 3 * i2) (8 + 12 * i2) (MQ below (va_Qv (fun (u : zS) => u = (L, κ, g)) (fun (u : zS) (t : State) => zB D tc (zA [] L s.heap.size) [] u t) (zA [] L s.heap.size)) ([.ref p0] : List Value).toArray s 21 84 (zA [] L s.heap.size)) (F0 m 219 ls [.int y95, .ref ((cf i2))]) := by
                        intro H locs y95 hI ls hl
                        refine z_putN (host := "WattgovernModel") (g' := g) (k := 11) (j := 12) hM hE hI hr18 rfl rfl hinX9 tyX9 tyX9_ok nmX9 rfl (by decide) (by decide +kernel) (fun _ h9 => h9) rfl rfl rfl rfl ⟨_, rfl⟩ (fun _ _ _ => rfl) dX11_sleeps_219 (fun H locs hI => ?_)
                        refine lv_aload_n hx hb dX11_sleeps_222 rfl (lv_at hl 3 rfl) ?_
                        refine lv_bipush (v := 119) hx hb dX11_sleeps_223 (by decide) ?_
                        refine z_putN (host := "WattgovernModel") (g' := g) (k := 11) (j := 4) hM hE hI hr18 rfl rfl hinX9 tyX9 tyX9_ok nmX9 rfl (by decide) (by decide +kernel) (fun _ h9 => h9) rfl rfl (by decide) (by decide) ⟨_, rfl, by decide⟩ (fun _ _ _ => rfl) dX11_sleeps_225 (fun H locs hI => ?_)
                        refine lv_goto (tgt := 285) hx hb dX11_sleeps_228 (by decide) ?_
                        refine W.widen (k := (3 + 3 * i2)) (n := (12 + 12 * i2)) (by omega) (by omega) ?_
                        exact hL285 _ _ v83 hI ls (lv_sub hl [0, 1, 2] rfl)
                      refine lv_if_eq (tgt := 218) hx hb dX11_sleeps_211 (by decide) (fun c96 => ?_) (fun c96 => ?_)
                      · skip
                        refine lv_iconst (v := 1) hx hb dX11_sleeps_218 (by decide) ?_
                        exact hL219 _ _ 1 hI ls (lv_sub hl [0, 1, 2, 3] rfl)
                      · skip
                        refine lv_iconst (v := 4) hx hb dX11_sleeps_214 (by decide) ?_
                        refine lv_goto (tgt := 219) hx hb dX11_sleeps_215 (by decide) ?_
                        exact hL219 _ _ 4 hI ls (lv_sub hl [0, 1, 2, 3] rfl)
                    refine lv_icmp_ne (tgt := 202) hx hb dX11_sleeps_195 (by decide) (fun c97 => ?_) (fun c97 => ?_)
                    · skip
                      refine lv_iconst (v := 0) hx hb dX11_sleeps_202 (by decide) ?_
                      exact hL203 _ _ 0 (by first | assumption | exact Or.inl rfl | exact Or.inr rfl) hI ls (lv_sub hl [1, 0, 2, 3] rfl)
                    · skip
                      refine lv_iconst (v := 1) hx hb dX11_sleeps_198 (by decide) ?_
                      refine lv_goto (tgt := 203) hx hb dX11_sleeps_199 (by decide) ?_
                      exact hL203 _ _ 1 (by first | assumption | exact Or.inl rfl | exact Or.inr rfl) hI ls (lv_sub hl [1, 0, 2, 3] rfl)
                  · skip
                    refine lv_goto (tgt := 285) hx hb dX11_sleeps_182 (by decide) ?_
                    refine W.widen (k := (3 + 3 * i2)) (n := (12 + 12 * i2)) (by omega) (by omega) ?_
                    exact hL285 _ _ x1 hI ls (lv_sub hl [0, 1, 2] rfl)
            · skip
              refine lv_aload_n hx hb dX11_sleeps_136 rfl (lv_at hl 3 rfl) ?_
              refine lv_dup hx hb dX11_sleeps_137 rfl ?_
              refine z_getN (host := "WattgovernModel") (k := 11) (j := 12) hM hE hI hr18 rfl rfl hinX9 rfl (by decide) (by decide +kernel) (fun _ h9 => h9) dX11_sleeps_138 (fun v98 hv99 => ?_)
              obtain ⟨i100, rfl⟩ := hv99
              refine lv_iconst (v := 1) hx hb dX11_sleeps_141 (by decide) ?_
              refine lv_isub hx hb dX11_sleeps_142 ?_
              refine lv_topi (fun v101 e102 => ?_)
              refine z_putN (host := "WattgovernModel") (g' := g) (k := 11) (j := 12) hM hE hI hr18 rfl rfl hinX9 tyX9 tyX9_ok nmX9 rfl (by decide) (by decide +kernel) (fun _ h9 => h9) rfl rfl rfl rfl ⟨_, rfl⟩ (fun _ _ _ => rfl) dX11_sleeps_143 (fun H locs hI => ?_)
              refine lv_aload_n hx hb dX11_sleeps_146 rfl (lv_at hl 3 rfl) ?_
              refine z_getN (host := "WattgovernModel") (k := 11) (j := 12) hM hE hI hr18 rfl rfl hinX9 rfl (by decide) (by decide +kernel) (fun _ h9 => h9) dX11_sleeps_147 (fun v103 hv104 => ?_)
              obtain ⟨i105, rfl⟩ := hv104
              refine lv_if_ne (tgt := 285) hx hb dX11_sleeps_150 (by decide) (fun c106 => ?_) (fun c106 => ?_)
              · skip
                refine W.widen (k := (3 + 3 * i2)) (n := (12 + 12 * i2)) (by omega) (by omega) ?_
                exact hL285 _ _ x1 hI ls (lv_sub hl [0, 1, 2] rfl)
              · skip
                refine lv_aload_n hx hb dX11_sleeps_153 rfl (lv_at hl 0 rfl) ?_
                refine lv_iload_n hx hb dX11_sleeps_154 rfl (lv_at hl 2 rfl) ?_
                refine z_cvX (Xc := []) (wr := []) (rx := []) [] [] rfl rfl rfl rfl (by decide) hI (va_runV (As := [.int ((nI i2))]) (rest := []) ⟨hx, hb, hml, hown, hts⟩ (c_X11_wakes l D tc z0 _ κ g _ p0 hk0 i2 lc eC nC mC cf lt eT nT mT tf hMo (by omega)) (cwV 1 hts gX11_sleeps_X11_wakes rfl rfl rfl (by decide +kernel) ⟨Nat.le_of_ble_eq_true rfl, Nat.le_of_ble_eq_true rfl⟩) (z_preV (Xc := []) hK hE hI [] rfl rfl (z_recv hK hI hk0 rfl rfl)) rfl rfl hl.1 rfl (lv_room (Nat.le_of_ble_eq_true rfl)) dX11_sleeps_155 ⟨(show (2 + 3 * i2) + 1 ≤ 21 from by omega), (show (8 + 12 * i2) + 4 ≤ 84 from by omega)⟩) (fun u H locs hw108 hI => ?_)
                obtain rfl := hw108
                have hI : zI D tc _ s.heap [] L κ g _ _ := hI
                refine W.widen (k := (3 + 3 * i2)) (n := (12 + 12 * i2)) (by omega) (by omega) ?_
                refine lv_goto (tgt := 285) hx hb dX11_sleeps_158 (by decide) ?_
                exact hL285 _ _ x1 hI ls (lv_sub hl [0, 1, 2] rfl)
          refine lv_icmp_ne (tgt := 82) hx hb dX11_sleeps_61 (by decide) (fun c109 => ?_) (fun c109 => ?_)
          · skip
            refine lv_aload_n hx hb dX11_sleeps_82 rfl (lv_at hl 3 rfl) ?_
            refine z_getN (host := "WattgovernModel") (k := 11) (j := 3) hM hE hI hr18 rfl rfl hinX9 rfl (by decide) (by decide +kernel) (fun _ h9 => h9) dX11_sleeps_83 (fun v110 hv111 => ?_)
            obtain ⟨hg113, i112, rfl, hf114⟩ := hv111
            refine lv_bipush (v := 102) hx hb dX11_sleeps_86 (by decide) ?_
            refine lv_icmp_ne (tgt := 98) hx hb dX11_sleeps_88 (by decide) (fun c115 => ?_) (fun c115 => ?_)
            · skip
              refine lv_iconst (v := 3) hx hb dX11_sleeps_98 (by decide) ?_
              refine lv_aload_n hx hb dX11_sleeps_99 rfl (lv_at hl 0 rfl) ?_
              refine lv_iload_n hx hb dX11_sleeps_100 rfl (lv_at hl 2 rfl) ?_
              refine z_ciX (Xc := []) (wr := []) (rx := []) [] [] rfl rfl rfl rfl (by decide) hI (va_runV (As := [.int ((nI i2))]) (rest := [.int 3, .ref ((cf i2))]) ⟨hx, hb, hml, hown, hts⟩ (c_X11_waits l D tc z0 _ κ g _ p0 hk0 ((nI i2)) lc eC nC mC cf lt eT nT mT tf hMo) (cwV 1 hts gX11_sleeps_X11_waits rfl rfl rfl (by decide +kernel) ⟨Nat.le_of_ble_eq_true rfl, Nat.le_of_ble_eq_true rfl⟩) (z_preV (Xc := []) hK hE hI [] rfl rfl (z_recv hK hI hk0 rfl rfl)) rfl rfl hl.1 rfl (lv_room (Nat.le_of_ble_eq_true rfl)) dX11_sleeps_101 ⟨(show (1 + 3 * i2) + 1 ≤ 21 from by omega), (show (4 + 12 * i2) + 4 ≤ 84 from by omega)⟩) (fun v116 u H locs hw117 hI => ?_)
              obtain rfl := hw117
              have hI : zI D tc _ s.heap [] L κ g _ _ := hI
              refine W.widen (k := (2 + 3 * i2)) (n := (8 + 12 * i2)) (by omega) (by omega) ?_
              refine lv_imul hx hb dX11_sleeps_104 ?_
              refine lv_topi (fun v118 e119 => ?_)
              exact hL105 _ _ v118 hI ls (lv_sub hl [0, 1, 2, 3] rfl)
            · skip
              refine lv_aload_n hx hb dX11_sleeps_91 rfl (lv_at hl 3 rfl) ?_
              refine z_getN (host := "WattgovernModel") (k := 11) (j := 6) hM hE hI hr18 rfl rfl hinX9 rfl (by decide) (by decide +kernel) (fun _ h9 => h9) dX11_sleeps_92 (fun v120 hv121 => ?_)
              obtain ⟨i122, rfl⟩ := hv121
              refine lv_goto (tgt := 105) hx hb dX11_sleeps_95 (by decide) ?_
              refine W.widen (k := (2 + 3 * i2)) (n := (8 + 12 * i2)) (by omega) (by omega) ?_
              exact hL105 _ _ i122 hI ls (lv_sub hl [0, 1, 2, 3] rfl)
          · skip
            refine lv_aload_n hx hb dX11_sleeps_64 rfl (lv_at hl 3 rfl) ?_
            refine z_getN (host := "WattgovernModel") (k := 11) (j := 7) hM hE hI hr18 rfl rfl hinX9 rfl (by decide) (by decide +kernel) (fun _ h9 => h9) dX11_sleeps_65 (fun v123 hv124 => ?_)
            obtain ⟨i125, rfl⟩ := hv124
            refine lv_iload hx hb dX11_sleeps_68 (lv_at hl 4 rfl) ?_
            have hL78 : ∀ (H : Heap) (locs : List Loc) (y126 : Int32)   (hI : zI D tc (zA [] L s.heap.size) s.heap [] L κ g H locs) (ls : Array Slot) (hl : lv_has ls 5 [(0, .ref p0), (1, .int x1), (2, .int ((nI i2))), (3, .ref ((cf i2)))]), W p l e9 (headSpec wsX11_sleeps ({ frames := 4, cells := 21, slots := 84, locals := 88 })).room s m ([.ref p0] : List Value).toArray below meth c H locs (1 + 3 * i2) (4 + 12 * i2) (MQ below (va_Qv (fun (u : zS) => u = (L, κ, g)) (fun (u : zS) (t : State) => zB D tc (zA [] L s.heap.size) [] u t) (zA [] L s.heap.size)) ([.ref p0] : List Value).toArray s 21 84 (zA [] L s.heap.size)) (F0 m 78 ls [.int y126, .int i125, .ref ((cf i2))]) := by
              intro H locs y126 hI ls hl
              refine lv_iadd hx hb dX11_sleeps_78 ?_
              refine lv_topi (fun v127 e128 => ?_)
              refine lv_goto (tgt := 105) hx hb dX11_sleeps_79 (by decide) ?_
              refine W.widen (k := (2 + 3 * i2)) (n := (8 + 12 * i2)) (by omega) (by omega) ?_
              exact hL105 _ _ v127 hI ls (lv_sub hl [0, 1, 2, 3] rfl)
            refine lv_if_eq (tgt := 77) hx hb dX11_sleeps_70 (by decide) (fun c129 => ?_) (fun c129 => ?_)
            · skip
              refine lv_iconst (v := -1) hx hb dX11_sleeps_77 (by decide) ?_
              exact hL78 _ _ ((-1)) hI ls (lv_sub hl [0, 1, 2, 3] rfl)
            · skip
              refine lv_iconst (v := 1) hx hb dX11_sleeps_73 (by decide) ?_
              refine lv_goto (tgt := 78) hx hb dX11_sleeps_74 (by decide) ?_
              exact hL78 _ _ 1 hI ls (lv_sub hl [0, 1, 2, 3] rfl)
        rcases v23 with _ | r25
        · show W p l e9 (headSpec wsX11_sleeps ({ frames := 4, cells := 21, slots := 84, locals := 88 })).room s m ([.ref p0] : List Value).toArray below meth c _ _ _ _ (MQ below (va_Qv (fun (u : zS) => u = (L, κ, g)) (fun (u : zS) (t : State) => zB D tc (zA [] L s.heap.size) [] u t) (zA [] L s.heap.size)) ([.ref p0] : List Value).toArray s 21 84 (zA [] L s.heap.size)) (F0 m 43 ls (.null :: [.ref ((cf i2))]))
          refine W.widen (k := (1 + 3 * i2)) (n := (4 + 12 * i2)) (Nat.le_refl _) (Nat.le_refl _) ?_
          refine lv_ifnullN (tgt := 50) hx hb dX11_sleeps_43 (by decide) ?_
          refine lv_iconst (v := 0) hx hb dX11_sleeps_50 (by decide) ?_
          exact hL51 _ _ 0 (by first | assumption | exact Or.inl rfl | exact Or.inr rfl) hI ls (lv_sub hl [2, 3, 4, 1, 0] rfl)
        · show W p l e9 (headSpec wsX11_sleeps ({ frames := 4, cells := 21, slots := 84, locals := 88 })).room s m ([.ref p0] : List Value).toArray below meth c _ _ _ _ (MQ below (va_Qv (fun (u : zS) => u = (L, κ, g)) (fun (u : zS) (t : State) => zB D tc (zA [] L s.heap.size) [] u t) (zA [] L s.heap.size)) ([.ref p0] : List Value).toArray s 21 84 (zA [] L s.heap.size)) (F0 m 43 ls (.ref r25 :: [.ref ((cf i2))]))
          refine W.widen (k := (1 + 3 * i2)) (n := (4 + 12 * i2)) (Nat.le_refl _) (Nat.le_refl _) ?_
          have hr26 : κ r25 = 12 := hw24 _ rfl
          refine lv_ifnull hx hb dX11_sleeps_43 ?_
          refine lv_iconst (v := 1) hx hb dX11_sleeps_46 (by decide) ?_
          refine lv_goto (tgt := 51) hx hb dX11_sleeps_47 (by decide) ?_
          exact hL51 _ _ 1 (by first | assumption | exact Or.inl rfl | exact Or.inr rfl) hI ls (lv_sub hl [2, 3, 4, 1, 0] rfl)
  refine W.widen (k := (0 + 3 * 0)) (n := (0 + 12 * 0)) (by omega) (by omega) ?_
  exact hL4 (nC + 1) _ _ 0 0 (by first | omega | (simp only [] at *; omega)) (by first | omega | (simp only [] at *; omega)) hI ls (lv_sub hl [2, 1, 0] rfl)

set_option maxHeartbeats 4000000 in
set_option maxRecDepth 100000 in
theorem c_X11_works (l : Launch) (D : va_G) (tc : Nat → ClassId) (z0 : Nat) (L : List Nat) (κ : Nat → Nat) (g : Nat → Nat → Value) (sz : Nat) (p0 : Nat) (hk0 : κ p0 = 13) (lc eC nC : Nat) (mC : Int32) (cf : Nat → Nat) (lt eT nT : Nat) (mT : Int32) (tf : Nat → Nat) (hMo : zMo κ g z0 p0 lc eC nC mC cf lt eT nT mT tf) : Met l yX11_works wsX11_works ({ frames := 4, cells := 7, slots := 28, locals := 84 }) (zPc D tc z0 [.ref p0] [] (L, κ, g) sz) (va_Qv (fun (u : zS) => u = (L, κ, g)) (fun (u : zS) (t : State) => zB D tc (zA [] L sz) [] u t) (zA [] L sz)) 7 28 (zA [] L sz) := by
  refine Met.ofW (cc := cX11_works) (maxL := 5) (ret := none) (by decide) rfl ?_
  intro p e9 s m args below meth c s₁ B hml hv
  obtain ⟨rfl, rfl, hK, hE, hI⟩ := hv.opn
  have hx := B.exec
  have hb := B.bytes
  have hr := B.returns
  have hts := atoms_spec (ws := wsX11_works) B.pre
  have hown : s.vm.findClass RX11 = some m.cls := findClass_of_methodNamed B.named
  have hlocks := B.notSynchronized
  have hM : zM p s m c cX11_works _ wsX11_works RX11 D tc := ⟨hx, hb, hts, hown, hK⟩
  have hinX11 : ∀ w ∈ wsX110, w ∈ wsX11_works := by decide +kernel
  have hinX9 : ∀ w ∈ wsX90, w ∈ wsX11_works := by decide +kernel
  have hinX10 : ∀ w ∈ wsX100, w ∈ wsX11_works := by decide +kernel
  have hnC := hMo.bC
  have hnT := hMo.bT
  have hl := lv_entry ([.ref p0]) (n := 5) (Nat.le_of_ble_eq_true rfl)
  rw [lg_entry_eq]
  generalize (lg_sl ([.ref p0]) ++ List.replicate (5 - (lg_sl ([.ref p0])).length) Slot.unset).toArray = ls at hl ⊢
  have hl : lv_has ls 5 [(0, .ref p0)] := hl
  refine lv_iconst (v := 0) hx hb dX11_works_0 (by decide) ?_
  refine lv_istore_n (lv' := [(1, .int 0), (0, .ref p0)]) hx hb dX11_works_1 rfl hl (by decide) rfl (fun ls hl => ?_)
  have hL2 : ∀ (n : Nat) (H : Heap) (locs : List Loc)   (i1 : Nat) (hi : i1 ≤ nC) (hn : nC - i1 < n)  (hI : zI D tc (zA [] L s.heap.size) s.heap [] L κ g H locs) (ls : Array Slot) (hl : lv_has ls 5 [(0, .ref p0), (1, .int ((nI i1)))]), W p l e9 (headSpec wsX11_works ({ frames := 4, cells := 7, slots := 28, locals := 84 })).room s m ([.ref p0] : List Value).toArray below meth c H locs (0 + 1 * i1) (0 + 4 * i1) (MQ below (va_Qv (fun (u : zS) => u = (L, κ, g)) (fun (u : zS) (t : State) => zB D tc (zA [] L s.heap.size) [] u t) (zA [] L s.heap.size)) ([.ref p0] : List Value).toArray s 7 28 (zA [] L s.heap.size)) (F0 m 2 ls []) := by
    intro n
    induction n with
    | zero => intro H locs i1 hi hn hI ls hl; exact absurd hn (Nat.not_lt_zero _)
    | succ n ih2 =>
      intro H locs i1 hi hn hI ls hl
      refine lv_iload_n hx hb dX11_works_2 rfl (lv_at hl 1 rfl) ?_
      refine lv_aload_n hx hb dX11_works_3 rfl (lv_at hl 0 rfl) ?_
      refine z_get (k := 13) (j := 0) hM hI hk0 rfl rfl hinX11 rfl (by decide) (by decide +kernel) (fun _ h9 => h9) dX11_works_4 (fun v2 hv3 => ?_)
      obtain ⟨hg5, i4, rfl, hr6⟩ := hv3
      obtain rfl : lc = i4 := Value.ref.inj (hMo.gc.symm.trans hg5.symm)
      refine va_csFi (va_runF (As := []) (rest := [.int ((nI i1))]) (hK.1 1 _ rfl).2 ⟨hx, hb, hml, hown, hts⟩ (c_Jx4a65c_size_8abf5 l D tc z0 _ κ g _ lc 1 eC 25 11 nC mC cf rfl hMo.LC) (va_cwF 0 hts gX11_works_Jx4a65c_size_8abf5_f46Jx4a65c rfl rfl rfl (hE.2.2.1 (RJx4a65c, ⟨"java/util/List", "size", "()I"⟩, yJx4a65c_size_8abf5) (by decide +kernel)) (by decide +kernel) ⟨Nat.le_of_ble_eq_true rfl, Nat.le_of_ble_eq_true rfl⟩) (z_preV (Xc := []) hK hE hI [] rfl rfl (z_recv hK hI hMo.LC.1 rfl rfl)) rfl rfl hl.1 rfl (lv_room (Nat.le_of_ble_eq_true rfl)) dX11_works_7 ⟨(show (0 + 1 * i1) + 0 ≤ 7 from by omega), (show (0 + 4 * i1) + 0 ≤ 28 from by omega)⟩) (fun v7 hw8 => ?_)
      obtain rfl := hw8
      refine lv_icmp_ge (tgt := 132) hx hb dX11_works_12 (by decide) (fun c9 => ?_) (fun c9 => ?_)
      · skip
        have hgec9 : nC ≤ i1 := z_ge (by omega) (by omega) c9
        refine W.widen (k := 7) (n := 28) (by omega) (by omega) ?_
        exact W.vret hx hb hr (fun t ht hW => ⟨⟨(L, κ, g), rfl, rfl, z_end hK hI ht hW⟩, z_F hI ht⟩) (z_locs hI) dX11_works_132
      · skip
        have hltc9 : i1 < nC := z_lt (by omega) c9
        refine lv_aload_n hx hb dX11_works_15 rfl (lv_at hl 0 rfl) ?_
        refine z_get (k := 13) (j := 0) hM hI hk0 rfl rfl hinX11 rfl (by decide) (by decide +kernel) (fun _ h9 => h9) dX11_works_16 (fun v10 hv11 => ?_)
        obtain ⟨hg13, i12, rfl, hr14⟩ := hv11
        obtain rfl : lc = i12 := Value.ref.inj (hMo.gc.symm.trans hg13.symm)
        refine lv_iload_n hx hb dX11_works_19 rfl (lv_at hl 1 rfl) ?_
        refine va_csFq (va_runF (As := [.int ((nI i1))]) (rest := []) (hK.1 1 _ rfl).2 ⟨hx, hb, hml, hown, hts⟩ (c_Jx4a65c_get_915e3 l D tc z0 _ κ g _ lc 1 eC 25 11 nC mC cf rfl hMo.LC rfl rfl i1 (by omega)) (va_cwF 1 hts gX11_works_Jx4a65c_get_915e3_f101Jx4a65c rfl rfl rfl (hE.2.2.1 (RJx4a65c, ⟨"java/util/List", "get", "(I)Ljava/lang/Object;"⟩, yJx4a65c_get_915e3) (by decide +kernel)) (by decide +kernel) ⟨Nat.le_of_ble_eq_true rfl, Nat.le_of_ble_eq_true rfl⟩) (z_preV (Xc := []) hK hE hI [] rfl rfl (z_recv hK hI hMo.LC.1 rfl rfl)) rfl rfl hl.1 rfl (lv_room (Nat.le_of_ble_eq_true rfl)) dX11_works_20 ⟨(show (0 + 1 * i1) + 0 ≤ 7 from by omega), (show (0 + 4 * i1) + 0 ≤ 28 from by omega)⟩) (fun r15 hw16 => ?_)
        obtain rfl := hw16
        have hr17 : κ (cf i1) = 11 := hMo.LC.el (i := i1) (by omega)
        show W p l e9 (headSpec wsX11_works ({ frames := 4, cells := 7, slots := 28, locals := 84 })).room s m ([.ref p0] : List Value).toArray below meth c _ _ (0 + 1 * i1) (0 + 4 * i1) (MQ below (va_Qv (fun (u : zS) => u = (L, κ, g)) (fun (u : zS) (t : State) => zB D tc (zA [] L s.heap.size) [] u t) (zA [] L s.heap.size)) ([.ref p0] : List Value).toArray s 7 28 (zA [] L s.heap.size)) (F0 m 25 ls (.ref (cf i1) :: []))
        refine z_castS (k := 11) hM hI hr17 rfl rfl (by decide +kernel) dX11_works_25 ?_
        refine lv_astore_n (lv' := [(2, .ref ((cf i1))), (0, .ref p0), (1, .int ((nI i1)))]) hx hb dX11_works_28 rfl hl (by decide) rfl (fun ls hl => ?_)
        refine lv_aload_n hx hb dX11_works_29 rfl (lv_at hl 1 rfl) ?_
        refine lv_iload_n hx hb dX11_works_30 rfl (lv_at hl 2 rfl) ?_
        refine z_cqX (sel := fun u : zS => u) (rxf := fun _ => []) (Xc := []) (wr := []) [] [] rfl rfl rfl rfl (by decide) hI (va_runV (As := [.int ((nI i1))]) (rest := []) ⟨hx, hb, hml, hown, hts⟩ (c_X11_running l D tc z0 _ κ g _ p0 hk0 ((nI i1)) lc eC nC mC cf lt eT nT mT tf hMo) (cwV 1 hts gX11_works_X11_running rfl rfl rfl (by decide +kernel) ⟨Nat.le_of_ble_eq_true rfl, Nat.le_of_ble_eq_true rfl⟩) (z_preV (Xc := []) hK hE hI [] rfl rfl (z_recv hK hI hk0 rfl rfl)) rfl rfl hl.1 rfl (lv_room (Nat.le_of_ble_eq_true rfl)) dX11_works_31 ⟨(show (0 + 1 * i1) + 1 ≤ 7 from by omega), (show (0 + 4 * i1) + 4 ≤ 28 from by omega)⟩) (fun v18 u H locs hw19 hI => ?_)
        obtain ⟨hw19, rfl⟩ := hw19
        have hI : zI D tc _ s.heap [] L κ g _ _ := hI
        refine W.widen (k := (1 + 1 * i1)) (n := (4 + 4 * i1)) (by omega) (by omega) ?_
        have hL126 : ∀ (H : Heap) (locs : List Loc)    (hI : zI D tc (zA [] L s.heap.size) s.heap [] L κ g H locs) (ls : Array Slot) (hl : lv_has ls 5 [(0, .ref p0), (1, .int ((nI i1)))]), W p l e9 (headSpec wsX11_works ({ frames := 4, cells := 7, slots := 28, locals := 84 })).room s m ([.ref p0] : List Value).toArray below meth c H locs (1 + 1 * i1) (4 + 4 * i1) (MQ below (va_Qv (fun (u : zS) => u = (L, κ, g)) (fun (u : zS) (t : State) => zB D tc (zA [] L s.heap.size) [] u t) (zA [] L s.heap.size)) ([.ref p0] : List Value).toArray s 7 28 (zA [] L s.heap.size)) (F0 m 126 ls []) := by
          intro H locs hI ls hl
          refine lv_iinc (v := nI (i1 + 1)) (lv' := [(1, .int ((nI (i1 + 1)))), (0, .ref p0)]) hx hb dX11_works_126 hl (k := 1) rfl (z_inc i1) (by decide) rfl (fun ls hl => ?_)
          refine lv_goto (tgt := 2) hx hb dX11_works_129 (by decide) ?_
          refine W.widen (k := (0 + 1 * ((i1 + 1)))) (n := (0 + 4 * ((i1 + 1)))) (by omega) (by omega) ?_
          exact ih2 _ _ ((i1 + 1)) (by first | omega | (simp only [] at *; omega)) (by first | omega | (simp only [] at *; omega)) hI ls (lv_sub hl [1, 0] rfl)
        rcases v18 with _ | r20
        · show W p l e9 (headSpec wsX11_works ({ frames := 4, cells := 7, slots := 28, locals := 84 })).room s m ([.ref p0] : List Value).toArray below meth c _ _ _ _ (MQ below (va_Qv (fun (u : zS) => u = (L, κ, g)) (fun (u : zS) (t : State) => zB D tc (zA [] L s.heap.size) [] u t) (zA [] L s.heap.size)) ([.ref p0] : List Value).toArray s 7 28 (zA [] L s.heap.size)) (F0 m 34 ls (.null :: []))
          refine W.widen (k := (1 + 1 * i1)) (n := (4 + 4 * i1)) (Nat.le_refl _) (Nat.le_refl _) ?_
          refine lv_astore_nN (lv' := [(3, .null), (2, .ref ((cf i1))), (0, .ref p0), (1, .int ((nI i1)))]) hx hb dX11_works_34 rfl hl (by decide) rfl (fun ls hl => ?_)
          refine lv_aload_nN hx hb dX11_works_35 rfl (lv_at hl 0 rfl) ?_
          refine lv_ifnullN (tgt := 126) hx hb dX11_works_36 (by decide) ?_
          exact hL126 _ _ hI ls (lv_sub hl [2, 3] rfl)
        · show W p l e9 (headSpec wsX11_works ({ frames := 4, cells := 7, slots := 28, locals := 84 })).room s m ([.ref p0] : List Value).toArray below meth c _ _ _ _ (MQ below (va_Qv (fun (u : zS) => u = (L, κ, g)) (fun (u : zS) (t : State) => zB D tc (zA [] L s.heap.size) [] u t) (zA [] L s.heap.size)) ([.ref p0] : List Value).toArray s 7 28 (zA [] L s.heap.size)) (F0 m 34 ls (.ref r20 :: []))
          refine W.widen (k := (1 + 1 * i1)) (n := (4 + 4 * i1)) (Nat.le_refl _) (Nat.le_refl _) ?_
          have hr21 : κ r20 = 12 := hw19 _ rfl
          refine lv_astore_n (lv' := [(3, .ref r20), (2, .ref ((cf i1))), (0, .ref p0), (1, .int ((nI i1)))]) hx hb dX11_works_34 rfl hl (by decide) rfl (fun ls hl => ?_)
          refine lv_aload_n hx hb dX11_works_35 rfl (lv_at hl 0 rfl) ?_
          refine lv_ifnull hx hb dX11_works_36 ?_
          refine lv_aload_n hx hb dX11_works_39 rfl (lv_at hl 1 rfl) ?_
          refine z_getN (host := "WattgovernModel") (k := 11) (j := 7) hM hE hI hr17 rfl rfl hinX9 rfl (by decide) (by decide +kernel) (fun _ h9 => h9) dX11_works_40 (fun v22 hv23 => ?_)
          obtain ⟨i24, rfl⟩ := hv23
          refine lv_if_ne (tgt := 49) hx hb dX11_works_43 (by decide) (fun c25 => ?_) (fun c25 => ?_)
          · skip
            refine lv_iconst (v := 1) hx hb dX11_works_49 (by decide) ?_
            refine lv_aload_n hx hb dX11_works_50 rfl (lv_at hl 1 rfl) ?_
            refine z_getN (host := "WattgovernModel") (k := 11) (j := 7) hM hE hI hr17 rfl rfl hinX9 rfl (by decide) (by decide +kernel) (fun _ h9 => h9) dX11_works_51 (fun v26 hv27 => ?_)
            obtain ⟨i28, rfl⟩ := hv27
            refine lv_aload_n hx hb dX11_works_54 rfl (lv_at hl 1 rfl) ?_
            refine z_getN (host := "WattgovernModel") (k := 11) (j := 2) hM hE hI hr17 rfl rfl hinX9 rfl (by decide) (by decide +kernel) (fun _ h9 => h9) dX11_works_55 (fun v29 hv30 => ?_)
            obtain ⟨i31, rfl, hz32⟩ := zv_b hv30
            have hL66 : ∀ (H : Heap) (locs : List Loc) (y33 : Int32)   (hI : zI D tc (zA [] L s.heap.size) s.heap [] L κ g H locs) (ls : Array Slot) (hl : lv_has ls 5 [(0, .ref p0), (1, .int ((nI i1))), (3, .ref r20)]), W p l e9 (headSpec wsX11_works ({ frames := 4, cells := 7, slots := 28, locals := 84 })).room s m ([.ref p0] : List Value).toArray below meth c H locs (1 + 1 * i1) (4 + 4 * i1) (MQ below (va_Qv (fun (u : zS) => u = (L, κ, g)) (fun (u : zS) (t : State) => zB D tc (zA [] L s.heap.size) [] u t) (zA [] L s.heap.size)) ([.ref p0] : List Value).toArray s 7 28 (zA [] L s.heap.size)) (F0 m 66 ls [.int y33, .int i28, .int 1]) := by
              intro H locs y33 hI ls hl
              refine lv_imul hx hb dX11_works_66 ?_
              refine lv_topi (fun v34 e35 => ?_)
              refine lv_bipush (v := 10) hx hb dX11_works_67 (by decide) ?_
              refine lv_aload_n hx hb dX11_works_69 rfl (lv_at hl 2 rfl) ?_
              refine z_getN (host := "WattgovernModel") (k := 12) (j := 0) hM hE hI hr21 rfl rfl hinX10 rfl (by decide) (by decide +kernel) (fun _ h9 => h9) dX11_works_70 (fun v36 hv37 => ?_)
              obtain ⟨i38, rfl⟩ := hv37
              refine lv_isub hx hb dX11_works_73 ?_
              refine lv_topi (fun v39 e40 => ?_)
              refine lv_imul hx hb dX11_works_74 ?_
              refine lv_topi (fun v41 e42 => ?_)
              refine lv_bipush (v := 10) hx hb dX11_works_75 (by decide) ?_
              refine lv_idiv hx hb dX11_works_77 (by decide) ?_
              refine lv_topi (fun v43 e44 => ?_)
              refine va_mmax hx hb (hml.trans hl.1.symm) hown (hts (.methodLink RX11 189 Lib.Math.max.name) (by decide +kernel)) (hts (.static Lib.Math.max.name) (by decide +kernel)) (hts (.initialized "java/lang/Math") (by decide +kernel)) (hts (.code Lib.Math.max.name Lib.Math.max.code 2 (some .int)) (by decide +kernel)) (Nat.le_of_ble_eq_true rfl) (Nat.le_of_ble_eq_true rfl) (show (1 + 1 * i1) + 0 ≤ 7 from by omega) (show (4 + 4 * i1) + 0 ≤ 28 from by omega) dX11_works_78 ?_
              refine lv_topi (fun v45 e46 => ?_)
              refine lv_istore (lv' := [(4, .int v45), (0, .ref p0), (1, .int ((nI i1))), (3, .ref r20)]) hx hb dX11_works_81 hl (by decide) rfl (fun ls hl => ?_)
              refine lv_aload_n hx hb dX11_works_83 rfl (lv_at hl 3 rfl) ?_
              refine lv_iconst (v := 0) hx hb dX11_works_84 (by decide) ?_
              refine lv_aload_n hx hb dX11_works_85 rfl (lv_at hl 3 rfl) ?_
              refine z_getN (host := "WattgovernModel") (k := 12) (j := 2) hM hE hI hr21 rfl rfl hinX10 rfl (by decide) (by decide +kernel) (fun _ h9 => h9) dX11_works_86 (fun v47 hv48 => ?_)
              obtain ⟨i49, rfl⟩ := hv48
              refine lv_aload_n hx hb dX11_works_89 rfl (lv_at hl 3 rfl) ?_
              refine z_getN (host := "WattgovernModel") (k := 12) (j := 3) hM hE hI hr21 rfl rfl hinX10 rfl (by decide) (by decide +kernel) (fun _ h9 => h9) dX11_works_90 (fun v50 hv51 => ?_)
              obtain ⟨i52, rfl⟩ := hv51
              have hL105 : ∀ (H : Heap) (locs : List Loc) (y53 : Int32)   (hI : zI D tc (zA [] L s.heap.size) s.heap [] L κ g H locs) (ls : Array Slot) (hl : lv_has ls 5 [(0, .ref p0), (1, .int ((nI i1))), (3, .ref r20)]), W p l e9 (headSpec wsX11_works ({ frames := 4, cells := 7, slots := 28, locals := 84 })).room s m ([.ref p0] : List Value).toArray below meth c H locs (1 + 1 * i1) (4 + 4 * i1) (MQ below (va_Qv (fun (u : zS) => u = (L, κ, g)) (fun (u : zS) (t : State) => zB D tc (zA [] L s.heap.size) [] u t) (zA [] L s.heap.size)) ([.ref p0] : List Value).toArray s 7 28 (zA [] L s.heap.size)) (F0 m 105 ls [.int y53, .int i49, .int 0, .ref r20]) := by
                intro H locs y53 hI ls hl
                refine lv_isub hx hb dX11_works_105 ?_
                refine lv_topi (fun v54 e55 => ?_)
                refine va_mmax hx hb (hml.trans hl.1.symm) hown (hts (.methodLink RX11 189 Lib.Math.max.name) (by decide +kernel)) (hts (.static Lib.Math.max.name) (by decide +kernel)) (hts (.initialized "java/lang/Math") (by decide +kernel)) (hts (.code Lib.Math.max.name Lib.Math.max.code 2 (some .int)) (by decide +kernel)) (Nat.le_of_ble_eq_true rfl) (Nat.le_of_ble_eq_true rfl) (show (1 + 1 * i1) + 0 ≤ 7 from by omega) (show (4 + 4 * i1) + 0 ≤ 28 from by omega) dX11_works_106 ?_
                refine lv_topi (fun v56 e57 => ?_)
                refine z_putN (host := "WattgovernModel") (g' := g) (k := 12) (j := 2) hM hE hI hr21 rfl rfl hinX10 tyX10 tyX10_ok nmX10 rfl (by decide) (by decide +kernel) (fun _ h9 => h9) rfl rfl rfl rfl ⟨_, rfl⟩ (fun _ _ _ => rfl) dX11_works_109 (fun H locs hI => ?_)
                refine lv_aload_n hx hb dX11_works_112 rfl (lv_at hl 2 rfl) ?_
                refine lv_iconst (v := 0) hx hb dX11_works_113 (by decide) ?_
                refine lv_aload_n hx hb dX11_works_114 rfl (lv_at hl 2 rfl) ?_
                refine z_getN (host := "WattgovernModel") (k := 12) (j := 3) hM hE hI hr21 rfl rfl hinX10 rfl (by decide) (by decide +kernel) (fun _ h9 => h9) dX11_works_115 (fun v58 hv59 => ?_)
                obtain ⟨i60, rfl⟩ := hv59
                refine lv_iconst (v := 1) hx hb dX11_works_118 (by decide) ?_
                refine lv_isub hx hb dX11_works_119 ?_
                refine lv_topi (fun v61 e62 => ?_)
                refine va_mmax hx hb (hml.trans hl.1.symm) hown (hts (.methodLink RX11 189 Lib.Math.max.name) (by decide +kernel)) (hts (.static Lib.Math.max.name) (by decide +kernel)) (hts (.initialized "java/lang/Math") (by decide +kernel)) (hts (.code Lib.Math.max.name Lib.Math.max.code 2 (some .int)) (by decide +kernel)) (Nat.le_of_ble_eq_true rfl) (Nat.le_of_ble_eq_true rfl) (show (1 + 1 * i1) + 0 ≤ 7 from by omega) (show (4 + 4 * i1) + 0 ≤ 28 from by omega) dX11_works_120 ?_
                refine lv_topi (fun v63 e64 => ?_)
                refine z_putN (host := "WattgovernModel") (g' := g) (k := 12) (j := 3) hM hE hI hr21 rfl rfl hinX10 tyX10 tyX10_ok nmX10 rfl (by decide) (by decide +kernel) (fun _ h9 => h9) rfl rfl rfl rfl ⟨_, rfl⟩ (fun _ _ _ => rfl) dX11_works_123 (fun H locs hI => ?_)
                exact hL126 _ _ hI ls (lv_sub hl [0, 1] rfl)
              refine lv_if_le (tgt := 103) hx hb dX11_works_93 (by decide) (fun c65 => ?_) (fun c65 => ?_)
              · skip
                refine lv_iload hx hb dX11_works_103 (lv_at hl 0 rfl) ?_
                exact hL105 _ _ v45 hI ls (lv_sub hl [1, 2, 3] rfl)
              · skip
                refine lv_iload hx hb dX11_works_96 (lv_at hl 0 rfl) ?_
                refine lv_iconst (v := 2) hx hb dX11_works_98 (by decide) ?_
                refine lv_idiv hx hb dX11_works_99 (by decide) ?_
                refine lv_topi (fun v66 e67 => ?_)
                refine lv_goto (tgt := 105) hx hb dX11_works_100 (by decide) ?_
                exact hL105 _ _ v66 hI ls (lv_sub hl [1, 2, 3] rfl)
            refine lv_if_eq (tgt := 65) hx hb dX11_works_58 (by decide) (fun c68 => ?_) (fun c68 => ?_)
            · skip
              refine lv_iconst (v := 2) hx hb dX11_works_65 (by decide) ?_
              exact hL66 _ _ 2 hI ls (lv_sub hl [2, 3, 0] rfl)
            · skip
              refine lv_iconst (v := 3) hx hb dX11_works_61 (by decide) ?_
              refine lv_goto (tgt := 66) hx hb dX11_works_62 (by decide) ?_
              exact hL66 _ _ 3 hI ls (lv_sub hl [2, 3, 0] rfl)
          · skip
            refine lv_goto (tgt := 126) hx hb dX11_works_46 (by decide) ?_
            exact hL126 _ _ hI ls (lv_sub hl [2, 3] rfl)
  refine W.widen (k := (0 + 1 * 0)) (n := (0 + 4 * 0)) (by omega) (by omega) ?_
  exact hL2 (nC + 1) _ _ 0 (by first | omega | (simp only [] at *; omega)) (by first | omega | (simp only [] at *; omega)) hI ls (lv_sub hl [1, 0] rfl)

set_option maxHeartbeats 4000000 in
set_option maxRecDepth 100000 in
theorem c_X11_heats (l : Launch) (D : va_G) (tc : Nat → ClassId) (z0 : Nat) (L : List Nat) (κ : Nat → Nat) (g : Nat → Nat → Value) (sz : Nat) (p0 : Nat) (hk0 : κ p0 = 13) (lc eC nC : Nat) (mC : Int32) (cf : Nat → Nat) (lt eT nT : Nat) (mT : Int32) (tf : Nat → Nat) (hMo : zMo κ g z0 p0 lc eC nC mC cf lt eT nT mT tf) : Met l yX11_heats wsX11_heats ({ frames := 3, cells := 1, slots := 4, locals := 64 }) (zPc D tc z0 [.ref p0] [] (L, κ, g) sz) (va_Qv (fun (u : zS) => u = (L, κ, g)) (fun (u : zS) (t : State) => zB D tc (zA [] L sz) [] u t) (zA [] L sz)) 1 4 (zA [] L sz) := by
  refine Met.ofW (cc := cX11_heats) (maxL := 6) (ret := none) (by decide) rfl ?_
  intro p e9 s m args below meth c s₁ B hml hv
  obtain ⟨rfl, rfl, hK, hE, hI⟩ := hv.opn
  have hx := B.exec
  have hb := B.bytes
  have hr := B.returns
  have hts := atoms_spec (ws := wsX11_heats) B.pre
  have hown : s.vm.findClass RX11 = some m.cls := findClass_of_methodNamed B.named
  have hlocks := B.notSynchronized
  have hM : zM p s m c cX11_heats _ wsX11_heats RX11 D tc := ⟨hx, hb, hts, hown, hK⟩
  have hinX11 : ∀ w ∈ wsX110, w ∈ wsX11_heats := by decide +kernel
  have hinX9 : ∀ w ∈ wsX90, w ∈ wsX11_heats := by decide +kernel
  have hnC := hMo.bC
  have hnT := hMo.bT
  have hl := lv_entry ([.ref p0]) (n := 6) (Nat.le_of_ble_eq_true rfl)
  rw [lg_entry_eq]
  generalize (lg_sl ([.ref p0]) ++ List.replicate (6 - (lg_sl ([.ref p0])).length) Slot.unset).toArray = ls at hl ⊢
  have hl : lv_has ls 6 [(0, .ref p0)] := hl
  refine lv_iconst (v := 0) hx hb dX11_heats_0 (by decide) ?_
  refine lv_istore_n (lv' := [(1, .int 0), (0, .ref p0)]) hx hb dX11_heats_1 rfl hl (by decide) rfl (fun ls hl => ?_)
  refine lv_iconst (v := 0) hx hb dX11_heats_2 (by decide) ?_
  refine lv_istore_n (lv' := [(2, .int 0), (1, .int 0), (0, .ref p0)]) hx hb dX11_heats_3 rfl hl (by decide) rfl (fun ls hl => ?_)
  have hL4 : ∀ (n : Nat) (H : Heap) (locs : List Loc) (x1 : Int32)  (i2 : Nat) (hi : i2 ≤ nC) (hn : nC - i2 < n)  (hI : zI D tc (zA [] L s.heap.size) s.heap [] L κ g H locs) (ls : Array Slot) (hl : lv_has ls 6 [(0, .ref p0), (1, .int x1), (2, .int ((nI i2)))]), W p l e9 (headSpec wsX11_heats ({ frames := 3, cells := 1, slots := 4, locals := 64 })).room s m ([.ref p0] : List Value).toArray below meth c H locs 0 0 (MQ below (va_Qv (fun (u : zS) => u = (L, κ, g)) (fun (u : zS) (t : State) => zB D tc (zA [] L s.heap.size) [] u t) (zA [] L s.heap.size)) ([.ref p0] : List Value).toArray s 1 4 (zA [] L s.heap.size)) (F0 m 4 ls []) := by
    intro n
    induction n with
    | zero => intro H locs x1 i2 hi hn hI ls hl; exact absurd hn (Nat.not_lt_zero _)
    | succ n ih4 =>
      intro H locs x1 i2 hi hn hI ls hl
      refine lv_iload_n hx hb dX11_heats_4 rfl (lv_at hl 2 rfl) ?_
      refine lv_aload_n hx hb dX11_heats_5 rfl (lv_at hl 0 rfl) ?_
      refine z_get (k := 13) (j := 0) hM hI hk0 rfl rfl hinX11 rfl (by decide) (by decide +kernel) (fun _ h9 => h9) dX11_heats_6 (fun v3 hv4 => ?_)
      obtain ⟨hg6, i5, rfl, hr7⟩ := hv4
      obtain rfl : lc = i5 := Value.ref.inj (hMo.gc.symm.trans hg6.symm)
      refine va_csFi (va_runF (As := []) (rest := [.int ((nI i2))]) (hK.1 1 _ rfl).2 ⟨hx, hb, hml, hown, hts⟩ (c_Jx4a65c_size_8abf5 l D tc z0 _ κ g _ lc 1 eC 25 11 nC mC cf rfl hMo.LC) (va_cwF 0 hts gX11_heats_Jx4a65c_size_8abf5_f46Jx4a65c rfl rfl rfl (hE.2.2.1 (RJx4a65c, ⟨"java/util/List", "size", "()I"⟩, yJx4a65c_size_8abf5) (by decide +kernel)) (by decide +kernel) ⟨Nat.le_of_ble_eq_true rfl, Nat.le_of_ble_eq_true rfl⟩) (z_preV (Xc := []) hK hE hI [] rfl rfl (z_recv hK hI hMo.LC.1 rfl rfl)) rfl rfl hl.1 rfl (lv_room (Nat.le_of_ble_eq_true rfl)) dX11_heats_9 ⟨(Nat.le_of_ble_eq_true rfl), (Nat.le_of_ble_eq_true rfl)⟩) (fun v8 hw9 => ?_)
      obtain rfl := hw9
      refine lv_icmp_ge (tgt := 150) hx hb dX11_heats_14 (by decide) (fun c10 => ?_) (fun c10 => ?_)
      · skip
        have hgec10 : nC ≤ i2 := z_ge (by omega) (by omega) c10
        refine lv_aload_n hx hb dX11_heats_150 rfl (lv_at hl 0 rfl) ?_
        refine z_get (k := 13) (j := 0) hM hI hk0 rfl rfl hinX11 rfl (by decide) (by decide +kernel) (fun _ h9 => h9) dX11_heats_151 (fun v11 hv12 => ?_)
        obtain ⟨hg14, i13, rfl, hr15⟩ := hv12
        obtain rfl : lc = i13 := Value.ref.inj (hMo.gc.symm.trans hg14.symm)
        refine z_qFX (sel := fun u : Nat × zS => u.2) (rxf := fun u : Nat × zS => [(u.1, .inr (0, [.int (nI 0), .int (-1), .int mC, .ref lc]))]) (Xc := []) (wr := []) [] [] rfl rfl rfl rfl (by decide) hI (va_runF (As := []) (rest := []) (hK.1 1 _ rfl).2 ⟨hx, hb, hml, hown, hts⟩ (c_Jx4a65c_iterator_32c93 l D tc z0 _ κ g _ lc 1 eC 25 11 nC mC cf rfl hMo.LC) (va_cwF 0 hts gX11_heats_Jx4a65c_iterator_32c93_f56Jx4a65c rfl rfl rfl (hE.2.2.1 (RJx4a65c, ⟨"java/util/List", "iterator", "()Ljava/util/Iterator;"⟩, yJx4a65c_iterator_32c93) (by decide +kernel)) (by decide +kernel) ⟨Nat.le_of_ble_eq_true rfl, Nat.le_of_ble_eq_true rfl⟩) (z_preV (Xc := []) hK hE hI [] rfl rfl (z_recv hK hI hMo.LC.1 rfl rfl)) rfl rfl hl.1 rfl (lv_room (Nat.le_of_ble_eq_true rfl)) dX11_heats_154 ⟨(Nat.le_of_ble_eq_true rfl), (Nat.le_of_ble_eq_true rfl)⟩) (fun _ u H locs hw17 hI => ?_)
        obtain ⟨q16, u⟩ := u
        obtain ⟨rfl, hw17⟩ := hw17
        dsimp only at hw17 hI
        subst hw17
        have hI : zI D tc _ s.heap [(q16, .inr (0, [.int (nI 0), .int (-1), .int mC, .ref lc]))] L κ g _ _ := hI
        show W p l e9 (headSpec wsX11_heats ({ frames := 3, cells := 1, slots := 4, locals := 64 })).room s m ([.ref p0] : List Value).toArray below meth c _ _ 1 4 (MQ below (va_Qv (fun (u : zS) => u = (L, κ, g)) (fun (u : zS) (t : State) => zB D tc (zA [] L s.heap.size) [] u t) (zA [] L s.heap.size)) ([.ref p0] : List Value).toArray s 1 4 (zA [] L s.heap.size)) (F0 m 159 ls (.ref q16 :: []))
        refine lv_astore_n (lv' := [(2, .ref q16), (0, .ref p0), (1, .int x1)]) hx hb dX11_heats_159 rfl hl (by decide) rfl (fun ls hl => ?_)
        have hL160 : ∀ (n : Nat) (H : Heap) (locs : List Loc)   (i18 : Nat) (hi : i18 ≤ nC) (hn : nC - i18 < n) (lr19 : Int32)  (hI : zI D tc (zA [] L s.heap.size) s.heap [(q16, .inr (0, [.int (nI i18), .int lr19, .int mC, .ref lc]))] L κ g H locs) (ls : Array Slot) (hl : lv_has ls 6 [(0, .ref p0), (1, .int x1), (2, .ref q16)]), W p l e9 (headSpec wsX11_heats ({ frames := 3, cells := 1, slots := 4, locals := 64 })).room s m ([.ref p0] : List Value).toArray below meth c H locs 1 4 (MQ below (va_Qv (fun (u : zS) => u = (L, κ, g)) (fun (u : zS) (t : State) => zB D tc (zA [] L s.heap.size) [] u t) (zA [] L s.heap.size)) ([.ref p0] : List Value).toArray s 1 4 (zA [] L s.heap.size)) (F0 m 160 ls []) := by
          intro n
          induction n with
          | zero => intro H locs i18 hi hn lr19 hI ls hl; exact absurd hn (Nat.not_lt_zero _)
          | succ n ih160 =>
            intro H locs i18 hi hn lr19 hI ls hl
            refine lv_aload_n hx hb dX11_heats_160 rfl (lv_at hl 2 rfl) ?_
            refine va_csFi (va_runF (As := []) (rest := []) (hK.1 0 _ rfl).2 ⟨hx, hb, hml, hown, hts⟩ (c_Jx35411_hasNext_aae02 l D tc z0 _ κ g _ lc 1 eC 25 11 nC mC cf rfl hMo.LC q16 i18 lr19 (by omega)) (va_cwF 0 hts gX11_heats_Jx35411_hasNext_aae02_f60Jx35411 rfl rfl rfl (hE.2.2.1 (RJx35411, ⟨"java/util/Iterator", "hasNext", "()Z"⟩, yJx35411_hasNext_aae02) (by decide +kernel)) (by decide +kernel) ⟨Nat.le_of_ble_eq_true rfl, Nat.le_of_ble_eq_true rfl⟩) (z_preV (Xc := [(q16, .inr (0, [.int (nI i18), .int lr19, .int mC, .ref lc]))]) hK hE hI [0] rfl rfl (z_recvX hK hI (i := 0) rfl rfl)) rfl rfl hl.1 rfl (lv_room (Nat.le_of_ble_eq_true rfl)) dX11_heats_161 ⟨(Nat.le_of_ble_eq_true rfl), (Nat.le_of_ble_eq_true rfl)⟩) (fun v21 hw20 => ?_)
            rcases hw20 with ⟨rfl, hlt22⟩ | ⟨rfl, hlt22⟩
            · skip
              refine lv_if_eq (tgt := 219) hx hb dX11_heats_166 (by decide) (fun h9 => by first | exact absurd h9 (by decide) | exact absurd (by decide) h9) (fun _ => ?_)
              refine lv_aload_n hx hb dX11_heats_169 rfl (lv_at hl 2 rfl) ?_
              refine z_qFX (sel := fun u : zS => u) (rxf := fun _ => [(q16, .inr (0, [.int (nI ((i18 + 1))), .int ((nI i18)), .int mC, .ref lc]))]) (Xc := [(q16, .inr (0, [.int (nI i18), .int lr19, .int mC, .ref lc]))]) (wr := []) [0] [] rfl rfl rfl rfl (by decide) hI (va_runF (As := []) (rest := []) (hK.1 0 _ rfl).2 ⟨hx, hb, hml, hown, hts⟩ (c_Jx35411_next_0502b l D tc z0 _ κ g _ lc 1 eC 25 11 nC mC cf rfl hMo.LC rfl rfl q16 i18 lr19 (by omega)) (va_cwF 0 hts gX11_heats_Jx35411_next_0502b_f66Jx35411 rfl rfl rfl (hE.2.2.1 (RJx35411, ⟨"java/util/Iterator", "next", "()Ljava/lang/Object;"⟩, yJx35411_next_0502b) (by decide +kernel)) (by decide +kernel) ⟨Nat.le_of_ble_eq_true rfl, Nat.le_of_ble_eq_true rfl⟩) (z_preV (Xc := [(q16, .inr (0, [.int (nI i18), .int lr19, .int mC, .ref lc]))]) hK hE hI [0] rfl rfl (z_recvX hK hI (i := 0) rfl rfl)) rfl rfl hl.1 rfl (lv_room (Nat.le_of_ble_eq_true rfl)) dX11_heats_170 ⟨(Nat.le_of_ble_eq_true rfl), (Nat.le_of_ble_eq_true rfl)⟩) (fun v24 u H locs hw23 hI => ?_)
              obtain ⟨rfl, rfl⟩ := hw23
              have hI : zI D tc _ s.heap [(q16, .inr (0, [.int (nI ((i18 + 1))), .int ((nI i18)), .int mC, .ref lc]))] L κ g _ _ := hI
              have hr25 : κ (cf i18) = 11 := hMo.LC.el (i := i18) (by omega)
              show W p l e9 (headSpec wsX11_heats ({ frames := 3, cells := 1, slots := 4, locals := 64 })).room s m ([.ref p0] : List Value).toArray below meth c _ _ _ _ (MQ below (va_Qv (fun (u : zS) => u = (L, κ, g)) (fun (u : zS) (t : State) => zB D tc (zA [] L s.heap.size) [] u t) (zA [] L s.heap.size)) ([.ref p0] : List Value).toArray s 1 4 (zA [] L s.heap.size)) (F0 m 175 ls (.ref (cf i18) :: []))
              refine W.widen (k := 1) (n := 4) (Nat.le_refl _) (Nat.le_refl _) ?_
              refine z_castS (k := 11) hM hI hr25 rfl rfl (by decide +kernel) dX11_heats_175 ?_
              refine lv_astore_n (lv' := [(3, .ref ((cf i18))), (0, .ref p0), (1, .int x1), (2, .ref q16)]) hx hb dX11_heats_178 rfl hl (by decide) rfl (fun ls hl => ?_)
              refine lv_aload_n hx hb dX11_heats_179 rfl (lv_at hl 0 rfl) ?_
              refine vp_callSi (va_Run.run (va_runVN (As := []) (rest := []) ⟨hx, hb, hml, hown, hts⟩ (c_X9_degrees l D tc z0 _ κ g _ ((cf i18)) hr25) ⟨va_cnB 0 hts gX11_heats_X9_degrees_n133 rfl rfl rfl (hE.1 (.methodLinkNest RX11 133 yX9_degrees "WattgovernModel") (by decide +kernel) rfl) (hts (.initialized yX9_degrees.cls) (by decide +kernel)) (by decide +kernel) ⟨Nat.le_of_ble_eq_true rfl, Nat.le_of_ble_eq_true rfl⟩, hts (.instanceMethod yX9_degrees) (by decide +kernel), hts (.selects RX9 yX9_degrees yX9_degrees) (by decide +kernel)⟩ (z_preV (Xc := []) hK hE hI [] rfl rfl (z_recv hK hI hr25 rfl rfl)) rfl rfl hl.1 rfl (lv_room (Nat.le_of_ble_eq_true rfl)) dX11_heats_180 ⟨(Nat.le_of_ble_eq_true rfl), (Nat.le_of_ble_eq_true rfl)⟩)) (fun v26 hw27 => ?_)
              refine lv_aload_n hx hb dX11_heats_183 rfl (lv_at hl 1 rfl) ?_
              refine z_get (k := 13) (j := 5) hM hI hk0 rfl rfl hinX11 rfl (by decide) (by decide +kernel) (fun _ h9 => h9) dX11_heats_184 (fun v28 hv29 => ?_)
              obtain ⟨i30, rfl⟩ := hv29
              refine lv_sipush (v := 200) hx hb dX11_heats_187 (by decide) ?_
              refine lv_idiv hx hb dX11_heats_190 (by decide) ?_
              refine lv_topi (fun v31 e32 => ?_)
              refine lv_isub hx hb dX11_heats_191 ?_
              refine lv_topi (fun v33 e34 => ?_)
              refine lv_istore (lv' := [(4, .int v33), (3, .ref ((cf i18))), (0, .ref p0), (1, .int x1), (2, .ref q16)]) hx hb dX11_heats_192 hl (by decide) rfl (fun ls hl => ?_)
              refine lv_aload_n hx hb dX11_heats_194 rfl (lv_at hl 1 rfl) ?_
              refine lv_dup hx hb dX11_heats_195 rfl ?_
              refine z_getN (host := "WattgovernModel") (k := 11) (j := 10) hM hE hI hr25 rfl rfl hinX9 rfl (by decide) (by decide +kernel) (fun _ h9 => h9) dX11_heats_196 (fun v35 hv36 => ?_)
              obtain ⟨i37, rfl⟩ := hv36
              refine lv_iload hx hb dX11_heats_199 (lv_at hl 0 rfl) ?_
              refine lv_isub hx hb dX11_heats_201 ?_
              refine lv_topi (fun v38 e39 => ?_)
              refine z_putN (host := "WattgovernModel") (g' := g) (k := 11) (j := 10) hM hE hI hr25 rfl rfl hinX9 tyX9 tyX9_ok nmX9 rfl (by decide) (by decide +kernel) (fun _ h9 => h9) rfl rfl rfl rfl ⟨_, rfl⟩ (fun _ _ _ => rfl) dX11_heats_202 (fun H locs hI => ?_)
              refine lv_aload_n hx hb dX11_heats_205 rfl (lv_at hl 2 rfl) ?_
              refine lv_dup hx hb dX11_heats_206 rfl ?_
              refine z_get (k := 13) (j := 5) hM hI hk0 rfl rfl hinX11 rfl (by decide) (by decide +kernel) (fun _ h9 => h9) dX11_heats_207 (fun v40 hv41 => ?_)
              obtain ⟨i42, rfl⟩ := hv41
              refine lv_iload hx hb dX11_heats_210 (lv_at hl 0 rfl) ?_
              refine lv_iadd hx hb dX11_heats_212 ?_
              refine lv_topi (fun v43 e44 => ?_)
              refine z_put (g' := g) (k := 13) (j := 5) hM hI hk0 rfl rfl hinX11 tyX11 tyX11_ok nmX11 rfl (by decide) (by decide +kernel) (fun _ h9 => h9) rfl rfl rfl rfl ⟨_, rfl⟩ (fun _ _ _ => rfl) dX11_heats_213 (fun H locs hI => ?_)
              refine lv_goto (tgt := 160) hx hb dX11_heats_216 (by decide) ?_
              exact ih160 _ _ ((i18 + 1)) (by first | omega | (simp only [] at *; omega)) (by first | omega | (simp only [] at *; omega)) ((nI i18)) hI ls (lv_sub hl [2, 3, 4] rfl)
            · skip
              have hI := z_part (X' := []) [] rfl rfl hI
              refine lv_if_eq (tgt := 219) hx hb dX11_heats_166 (by decide) (fun _ => ?_) (fun h9 => by first | exact absurd h9 (by decide) | exact absurd (by decide) h9)
              refine lv_aload_n hx hb dX11_heats_219 rfl (lv_at hl 0 rfl) ?_
              refine z_get (k := 13) (j := 5) hM hI hk0 rfl rfl hinX11 rfl (by decide) (by decide +kernel) (fun _ h9 => h9) dX11_heats_220 (fun v45 hv46 => ?_)
              obtain ⟨i47, rfl⟩ := hv46
              refine lv_sipush (v := 200) hx hb dX11_heats_223 (by decide) ?_
              refine lv_idiv hx hb dX11_heats_226 (by decide) ?_
              refine lv_topi (fun v48 e49 => ?_)
              refine lv_bipush (v := 20) hx hb dX11_heats_227 (by decide) ?_
              refine lv_isub hx hb dX11_heats_229 ?_
              refine lv_topi (fun v50 e51 => ?_)
              refine lv_iconst (v := 1) hx hb dX11_heats_230 (by decide) ?_
              refine lv_aload_n hx hb dX11_heats_231 rfl (lv_at hl 0 rfl) ?_
              refine z_get (k := 13) (j := 6) hM hI hk0 rfl rfl hinX11 rfl (by decide) (by decide +kernel) (fun _ h9 => h9) dX11_heats_232 (fun v52 hv53 => ?_)
              obtain ⟨i54, rfl⟩ := hv53
              refine lv_iadd hx hb dX11_heats_235 ?_
              refine lv_topi (fun v55 e56 => ?_)
              refine lv_imul hx hb dX11_heats_236 ?_
              refine lv_topi (fun v57 e58 => ?_)
              refine lv_iconst (v := 2) hx hb dX11_heats_237 (by decide) ?_
              refine lv_idiv hx hb dX11_heats_238 (by decide) ?_
              refine lv_topi (fun v59 e60 => ?_)
              refine lv_istore_n (lv' := [(2, .int v59), (0, .ref p0), (1, .int x1)]) hx hb dX11_heats_239 rfl hl (by decide) rfl (fun ls hl => ?_)
              refine lv_aload_n hx hb dX11_heats_240 rfl (lv_at hl 1 rfl) ?_
              refine lv_dup hx hb dX11_heats_241 rfl ?_
              refine z_get (k := 13) (j := 5) hM hI hk0 rfl rfl hinX11 rfl (by decide) (by decide +kernel) (fun _ h9 => h9) dX11_heats_242 (fun v61 hv62 => ?_)
              obtain ⟨i63, rfl⟩ := hv62
              refine lv_iload_n hx hb dX11_heats_245 rfl (lv_at hl 0 rfl) ?_
              refine lv_isub hx hb dX11_heats_246 ?_
              refine lv_topi (fun v64 e65 => ?_)
              refine z_put (g' := g) (k := 13) (j := 5) hM hI hk0 rfl rfl hinX11 tyX11 tyX11_ok nmX11 rfl (by decide) (by decide +kernel) (fun _ h9 => h9) rfl rfl rfl rfl ⟨_, rfl⟩ (fun _ _ _ => rfl) dX11_heats_247 (fun H locs hI => ?_)
              refine lv_aload_n hx hb dX11_heats_250 rfl (lv_at hl 1 rfl) ?_
              refine z_get (k := 13) (j := 5) hM hI hk0 rfl rfl hinX11 rfl (by decide) (by decide +kernel) (fun _ h9 => h9) dX11_heats_251 (fun v66 hv67 => ?_)
              obtain ⟨i68, rfl⟩ := hv67
              refine lv_sipush (v := 200) hx hb dX11_heats_254 (by decide) ?_
              refine lv_idiv hx hb dX11_heats_257 (by decide) ?_
              refine lv_topi (fun v69 e70 => ?_)
              refine lv_istore_n (lv' := [(3, .int v69), (2, .int v59), (0, .ref p0), (1, .int x1)]) hx hb dX11_heats_258 rfl hl (by decide) rfl (fun ls hl => ?_)
              refine lv_aload_n hx hb dX11_heats_259 rfl (lv_at hl 2 rfl) ?_
              refine z_get (k := 13) (j := 25) hM hI hk0 rfl rfl hinX11 rfl (by decide) (by decide +kernel) (fun _ h9 => h9) dX11_heats_260 (fun v71 hv72 => ?_)
              obtain ⟨hg74, i73, rfl, hz75⟩ := zv_tb hv72
              have hL340 : ∀ (H : Heap) (locs : List Loc)    (hI : zI D tc (zA [] L s.heap.size) s.heap [] L κ g H locs) (ls : Array Slot) (hl : lv_has ls 6 [(0, .ref p0), (1, .int x1), (2, .int v59)]), W p l e9 (headSpec wsX11_heats ({ frames := 3, cells := 1, slots := 4, locals := 64 })).room s m ([.ref p0] : List Value).toArray below meth c H locs 1 4 (MQ below (va_Qv (fun (u : zS) => u = (L, κ, g)) (fun (u : zS) (t : State) => zB D tc (zA [] L s.heap.size) [] u t) (zA [] L s.heap.size)) ([.ref p0] : List Value).toArray s 1 4 (zA [] L s.heap.size)) (F0 m 340 ls []) := by
                intro H locs hI ls hl
                refine lv_aload_n hx hb dX11_heats_340 rfl (lv_at hl 0 rfl) ?_
                refine lv_dup hx hb dX11_heats_341 rfl ?_
                refine z_get (k := 13) (j := 23) hM hI hk0 rfl rfl hinX11 rfl (by decide) (by decide +kernel) (fun _ h9 => h9) dX11_heats_342 (fun v76 hv77 => ?_)
                obtain ⟨i78, rfl⟩ := hv77
                refine lv_iload_n hx hb dX11_heats_345 rfl (lv_at hl 2 rfl) ?_
                refine lv_iconst (v := 5) hx hb dX11_heats_346 (by decide) ?_
                refine lv_aload_n hx hb dX11_heats_347 rfl (lv_at hl 0 rfl) ?_
                refine z_get (k := 13) (j := 6) hM hI hk0 rfl rfl hinX11 rfl (by decide) (by decide +kernel) (fun _ h9 => h9) dX11_heats_348 (fun v79 hv80 => ?_)
                obtain ⟨i81, rfl⟩ := hv80
                refine lv_imul hx hb dX11_heats_351 ?_
                refine lv_topi (fun v82 e83 => ?_)
                refine lv_iadd hx hb dX11_heats_352 ?_
                refine lv_topi (fun v84 e85 => ?_)
                refine lv_i2l hx hb dX11_heats_353 rfl ?_
                refine lv_topl (fun v86 e87 => ?_)
                refine lv_ladd hx hb dX11_heats_354 ?_
                refine lv_topl (fun v88 e89 => ?_)
                refine z_put (g' := g) (k := 13) (j := 23) hM hI hk0 rfl rfl hinX11 tyX11 tyX11_ok nmX11 rfl (by decide) (by decide +kernel) (fun _ h9 => h9) rfl rfl rfl rfl ⟨_, rfl⟩ (fun _ _ _ => rfl) dX11_heats_355 (fun H locs hI => ?_)
                refine lv_aload_n hx hb dX11_heats_358 rfl (lv_at hl 0 rfl) ?_
                refine lv_iload_n hx hb dX11_heats_359 rfl (lv_at hl 1 rfl) ?_
                refine lv_iconst (v := 5) hx hb dX11_heats_360 (by decide) ?_
                refine lv_aload_n hx hb dX11_heats_361 rfl (lv_at hl 0 rfl) ?_
                refine z_get (k := 13) (j := 6) hM hI hk0 rfl rfl hinX11 rfl (by decide) (by decide +kernel) (fun _ h9 => h9) dX11_heats_362 (fun v90 hv91 => ?_)
                obtain ⟨i92, rfl⟩ := hv91
                refine lv_imul hx hb dX11_heats_365 ?_
                refine lv_topi (fun v93 e94 => ?_)
                refine lv_iadd hx hb dX11_heats_366 ?_
                refine lv_topi (fun v95 e96 => ?_)
                refine z_put (g' := g) (k := 13) (j := 10) hM hI hk0 rfl rfl hinX11 tyX11 tyX11_ok nmX11 rfl (by decide) (by decide +kernel) (fun _ h9 => h9) rfl rfl rfl rfl ⟨_, rfl⟩ (fun _ _ _ => rfl) dX11_heats_367 (fun H locs hI => ?_)
                refine lv_aload_n hx hb dX11_heats_370 rfl (lv_at hl 0 rfl) ?_
                refine z_cvX (Xc := []) (wr := []) (rx := []) [] [] rfl rfl rfl rfl (by decide) hI (va_runV (As := []) (rest := []) ⟨hx, hb, hml, hown, hts⟩ (c_X11_supplies l D tc z0 _ κ g _ p0 hk0) (cwV 0 hts gX11_heats_X11_supplies rfl rfl rfl (by decide +kernel) ⟨Nat.le_of_ble_eq_true rfl, Nat.le_of_ble_eq_true rfl⟩) (z_preV (Xc := []) hK hE hI [] rfl rfl (z_recv hK hI hk0 rfl rfl)) rfl rfl hl.1 rfl (lv_room (Nat.le_of_ble_eq_true rfl)) dX11_heats_371 ⟨(Nat.le_of_ble_eq_true rfl), (Nat.le_of_ble_eq_true rfl)⟩) (fun u H locs hw98 hI => ?_)
                obtain rfl := hw98
                have hI : zI D tc _ s.heap [] L κ g _ _ := hI
                refine W.widen (k := 1) (n := 4) (Nat.le_of_ble_eq_true rfl) (Nat.le_of_ble_eq_true rfl) ?_
                exact W.vret hx hb hr (fun t ht hW => ⟨⟨(L, κ, g), rfl, rfl, z_end hK hI ht hW⟩, z_F hI ht⟩) (z_locs hI) dX11_heats_374
              refine lv_if_eq (tgt := 274) hx hb dX11_heats_263 (by decide) (fun c99 => ?_) (fun c99 => ?_)
              · skip
                refine lv_aload_n hx hb dX11_heats_274 rfl (lv_at hl 2 rfl) ?_
                refine z_get (k := 13) (j := 6) hM hI hk0 rfl rfl hinX11 rfl (by decide) (by decide +kernel) (fun _ h9 => h9) dX11_heats_275 (fun v100 hv101 => ?_)
                obtain ⟨i102, rfl⟩ := hv101
                refine lv_iconst (v := 3) hx hb dX11_heats_278 (by decide) ?_
                have hL309 : ∀ (H : Heap) (locs : List Loc)    (hI : zI D tc (zA [] L s.heap.size) s.heap [] L κ g H locs) (ls : Array Slot) (hl : lv_has ls 6 [(0, .ref p0), (1, .int x1), (2, .int v59), (3, .int v69)]), W p l e9 (headSpec wsX11_heats ({ frames := 3, cells := 1, slots := 4, locals := 64 })).room s m ([.ref p0] : List Value).toArray below meth c H locs 1 4 (MQ below (va_Qv (fun (u : zS) => u = (L, κ, g)) (fun (u : zS) (t : State) => zB D tc (zA [] L s.heap.size) [] u t) (zA [] L s.heap.size)) ([.ref p0] : List Value).toArray s 1 4 (zA [] L s.heap.size)) (F0 m 309 ls []) := by
                  intro H locs hI ls hl
                  refine lv_aload_n hx hb dX11_heats_309 rfl (lv_at hl 0 rfl) ?_
                  refine z_get (k := 13) (j := 6) hM hI hk0 rfl rfl hinX11 rfl (by decide) (by decide +kernel) (fun _ h9 => h9) dX11_heats_310 (fun v103 hv104 => ?_)
                  obtain ⟨i105, rfl⟩ := hv104
                  refine lv_if_le (tgt := 340) hx hb dX11_heats_313 (by decide) (fun c106 => ?_) (fun c106 => ?_)
                  · skip
                    exact hL340 _ _ hI ls (lv_sub hl [0, 1, 2] rfl)
                  · skip
                    refine lv_iload_n hx hb dX11_heats_316 rfl (lv_at hl 3 rfl) ?_
                    refine lv_bipush (v := 25) hx hb dX11_heats_317 (by decide) ?_
                    refine lv_bipush (v := 10) hx hb dX11_heats_319 (by decide) ?_
                    refine lv_aload_n hx hb dX11_heats_321 rfl (lv_at hl 0 rfl) ?_
                    refine z_get (k := 13) (j := 6) hM hI hk0 rfl rfl hinX11 rfl (by decide) (by decide +kernel) (fun _ h9 => h9) dX11_heats_322 (fun v107 hv108 => ?_)
                    obtain ⟨i109, rfl⟩ := hv108
                    refine lv_imul hx hb dX11_heats_325 ?_
                    refine lv_topi (fun v110 e111 => ?_)
                    refine lv_iadd hx hb dX11_heats_326 ?_
                    refine lv_topi (fun v112 e113 => ?_)
                    refine lv_icmp_ge (tgt := 340) hx hb dX11_heats_327 (by decide) (fun c114 => ?_) (fun c114 => ?_)
                    · skip
                      exact hL340 _ _ hI ls (lv_sub hl [0, 1, 2] rfl)
                    · skip
                      refine lv_aload_n hx hb dX11_heats_330 rfl (lv_at hl 0 rfl) ?_
                      refine lv_dup hx hb dX11_heats_331 rfl ?_
                      refine z_get (k := 13) (j := 6) hM hI hk0 rfl rfl hinX11 rfl (by decide) (by decide +kernel) (fun _ h9 => h9) dX11_heats_332 (fun v115 hv116 => ?_)
                      obtain ⟨i117, rfl⟩ := hv116
                      refine lv_iconst (v := 1) hx hb dX11_heats_335 (by decide) ?_
                      refine lv_isub hx hb dX11_heats_336 ?_
                      refine lv_topi (fun v118 e119 => ?_)
                      refine z_put (g' := g) (k := 13) (j := 6) hM hI hk0 rfl rfl hinX11 tyX11 tyX11_ok nmX11 rfl (by decide) (by decide +kernel) (fun _ h9 => h9) rfl rfl rfl rfl ⟨_, rfl⟩ (fun _ _ _ => rfl) dX11_heats_337 (fun H locs hI => ?_)
                      exact hL340 _ _ hI ls (lv_sub hl [0, 1, 2] rfl)
                refine lv_icmp_ge (tgt := 309) hx hb dX11_heats_279 (by decide) (fun c120 => ?_) (fun c120 => ?_)
                · skip
                  exact hL309 _ _ hI ls (lv_sub hl [2, 3, 1, 0] rfl)
                · skip
                  refine lv_iload_n hx hb dX11_heats_282 rfl (lv_at hl 0 rfl) ?_
                  refine lv_bipush (v := 40) hx hb dX11_heats_283 (by decide) ?_
                  refine lv_bipush (v := 10) hx hb dX11_heats_285 (by decide) ?_
                  refine lv_aload_n hx hb dX11_heats_287 rfl (lv_at hl 2 rfl) ?_
                  refine z_get (k := 13) (j := 6) hM hI hk0 rfl rfl hinX11 rfl (by decide) (by decide +kernel) (fun _ h9 => h9) dX11_heats_288 (fun v121 hv122 => ?_)
                  obtain ⟨i123, rfl⟩ := hv122
                  refine lv_imul hx hb dX11_heats_291 ?_
                  refine lv_topi (fun v124 e125 => ?_)
                  refine lv_iadd hx hb dX11_heats_292 ?_
                  refine lv_topi (fun v126 e127 => ?_)
                  refine lv_icmp_lt (tgt := 309) hx hb dX11_heats_293 (by decide) (fun c128 => ?_) (fun c128 => ?_)
                  · skip
                    exact hL309 _ _ hI ls (lv_sub hl [2, 3, 1, 0] rfl)
                  · skip
                    refine lv_aload_n hx hb dX11_heats_296 rfl (lv_at hl 2 rfl) ?_
                    refine lv_dup hx hb dX11_heats_297 rfl ?_
                    refine z_get (k := 13) (j := 6) hM hI hk0 rfl rfl hinX11 rfl (by decide) (by decide +kernel) (fun _ h9 => h9) dX11_heats_298 (fun v129 hv130 => ?_)
                    obtain ⟨i131, rfl⟩ := hv130
                    refine lv_iconst (v := 1) hx hb dX11_heats_301 (by decide) ?_
                    refine lv_iadd hx hb dX11_heats_302 ?_
                    refine lv_topi (fun v132 e133 => ?_)
                    refine z_put (g' := g) (k := 13) (j := 6) hM hI hk0 rfl rfl hinX11 tyX11 tyX11_ok nmX11 rfl (by decide) (by decide +kernel) (fun _ h9 => h9) rfl rfl rfl rfl ⟨_, rfl⟩ (fun _ _ _ => rfl) dX11_heats_303 (fun H locs hI => ?_)
                    refine lv_goto (tgt := 340) hx hb dX11_heats_306 (by decide) ?_
                    exact hL340 _ _ hI ls (lv_sub hl [2, 3, 1] rfl)
              · skip
                refine lv_aload_n hx hb dX11_heats_266 rfl (lv_at hl 2 rfl) ?_
                refine lv_iconst (v := 0) hx hb dX11_heats_267 (by decide) ?_
                refine z_put (g' := g) (k := 13) (j := 6) hM hI hk0 rfl rfl hinX11 tyX11 tyX11_ok nmX11 rfl (by decide) (by decide +kernel) (fun _ h9 => h9) rfl rfl rfl rfl ⟨_, rfl⟩ (fun _ _ _ => rfl) dX11_heats_268 (fun H locs hI => ?_)
                refine lv_goto (tgt := 340) hx hb dX11_heats_271 (by decide) ?_
                exact hL340 _ _ hI ls (lv_sub hl [2, 3, 1] rfl)
        exact hL160 (nC + 1) _ _ 0 (by first | omega | (simp only [] at *; omega)) (by first | omega | (simp only [] at *; omega)) (-1) hI ls (lv_sub hl [1, 2, 0] rfl)
      · skip
        have hltc10 : i2 < nC := z_lt (by omega) c10
        refine lv_aload_n hx hb dX11_heats_17 rfl (lv_at hl 0 rfl) ?_
        refine z_get (k := 13) (j := 0) hM hI hk0 rfl rfl hinX11 rfl (by decide) (by decide +kernel) (fun _ h9 => h9) dX11_heats_18 (fun v134 hv135 => ?_)
        obtain ⟨hg137, i136, rfl, hr138⟩ := hv135
        obtain rfl : lc = i136 := Value.ref.inj (hMo.gc.symm.trans hg137.symm)
        refine lv_iload_n hx hb dX11_heats_21 rfl (lv_at hl 2 rfl) ?_
        refine va_csFq (va_runF (As := [.int ((nI i2))]) (rest := []) (hK.1 1 _ rfl).2 ⟨hx, hb, hml, hown, hts⟩ (c_Jx4a65c_get_915e3 l D tc z0 _ κ g _ lc 1 eC 25 11 nC mC cf rfl hMo.LC rfl rfl i2 (by omega)) (va_cwF 1 hts gX11_heats_Jx4a65c_get_915e3_f101Jx4a65c rfl rfl rfl (hE.2.2.1 (RJx4a65c, ⟨"java/util/List", "get", "(I)Ljava/lang/Object;"⟩, yJx4a65c_get_915e3) (by decide +kernel)) (by decide +kernel) ⟨Nat.le_of_ble_eq_true rfl, Nat.le_of_ble_eq_true rfl⟩) (z_preV (Xc := []) hK hE hI [] rfl rfl (z_recv hK hI hMo.LC.1 rfl rfl)) rfl rfl hl.1 rfl (lv_room (Nat.le_of_ble_eq_true rfl)) dX11_heats_22 ⟨(Nat.le_of_ble_eq_true rfl), (Nat.le_of_ble_eq_true rfl)⟩) (fun r139 hw140 => ?_)
        obtain rfl := hw140
        have hr141 : κ (cf i2) = 11 := hMo.LC.el (i := i2) (by omega)
        show W p l e9 (headSpec wsX11_heats ({ frames := 3, cells := 1, slots := 4, locals := 64 })).room s m ([.ref p0] : List Value).toArray below meth c _ _ 0 0 (MQ below (va_Qv (fun (u : zS) => u = (L, κ, g)) (fun (u : zS) (t : State) => zB D tc (zA [] L s.heap.size) [] u t) (zA [] L s.heap.size)) ([.ref p0] : List Value).toArray s 1 4 (zA [] L s.heap.size)) (F0 m 27 ls (.ref (cf i2) :: []))
        refine z_castS (k := 11) hM hI hr141 rfl rfl (by decide +kernel) dX11_heats_27 ?_
        refine lv_astore_n (lv' := [(3, .ref ((cf i2))), (0, .ref p0), (1, .int x1), (2, .int ((nI i2)))]) hx hb dX11_heats_30 rfl hl (by decide) rfl (fun ls hl => ?_)
        refine lv_aload_n hx hb dX11_heats_31 rfl (lv_at hl 1 rfl) ?_
        refine z_get (k := 13) (j := 2) hM hI hk0 rfl rfl hinX11 rfl (by decide) (by decide +kernel) (fun _ h9 => h9) dX11_heats_32 (fun v142 hv143 => ?_)
        obtain ⟨hg145, i144, rfl, hr146⟩ := hv143
        refine lv_aload_n hx hb dX11_heats_35 rfl (lv_at hl 0 rfl) ?_
        refine z_getN (host := "WattgovernModel") (k := 11) (j := 0) hM hE hI hr141 rfl rfl hinX9 rfl (by decide) (by decide +kernel) (fun _ h9 => h9) dX11_heats_36 (fun v147 hv148 => ?_)
        obtain ⟨i149, hb150, rfl⟩ := hv148
        refine z_iald hM hI hr146 rfl rfl (vp_in_nI (by omega) (by omega)) dX11_heats_39 (fun v151 hv152 => ?_)
        refine lv_aload_n hx hb dX11_heats_40 rfl (lv_at hl 0 rfl) ?_
        refine vp_callSi (va_Run.run (va_runVN (As := []) (rest := [.int v151]) ⟨hx, hb, hml, hown, hts⟩ (c_X9_degrees l D tc z0 _ κ g _ ((cf i2)) hr141) ⟨va_cnB 0 hts gX11_heats_X9_degrees_n133 rfl rfl rfl (hE.1 (.methodLinkNest RX11 133 yX9_degrees "WattgovernModel") (by decide +kernel) rfl) (hts (.initialized yX9_degrees.cls) (by decide +kernel)) (by decide +kernel) ⟨Nat.le_of_ble_eq_true rfl, Nat.le_of_ble_eq_true rfl⟩, hts (.instanceMethod yX9_degrees) (by decide +kernel), hts (.selects RX9 yX9_degrees yX9_degrees) (by decide +kernel)⟩ (z_preV (Xc := []) hK hE hI [] rfl rfl (z_recv hK hI hr141 rfl rfl)) rfl rfl hl.1 rfl (lv_room (Nat.le_of_ble_eq_true rfl)) dX11_heats_41 ⟨(Nat.le_of_ble_eq_true rfl), (Nat.le_of_ble_eq_true rfl)⟩)) (fun v153 hw154 => ?_)
        refine lv_imul hx hb dX11_heats_44 ?_
        refine lv_topi (fun v155 e156 => ?_)
        refine lv_sipush (v := 5000) hx hb dX11_heats_45 (by decide) ?_
        refine lv_idiv hx hb dX11_heats_48 (by decide) ?_
        refine lv_topi (fun v157 e158 => ?_)
        refine lv_istore (lv' := [(4, .int v157), (3, .ref ((cf i2))), (0, .ref p0), (1, .int x1), (2, .int ((nI i2)))]) hx hb dX11_heats_49 hl (by decide) rfl (fun ls hl => ?_)
        refine lv_aload_n hx hb dX11_heats_51 rfl (lv_at hl 1 rfl) ?_
        refine z_getN (host := "WattgovernModel") (k := 11) (j := 4) hM hE hI hr141 rfl rfl hinX9 rfl (by decide) (by decide +kernel) (fun _ h9 => h9) dX11_heats_52 (fun v159 hv160 => ?_)
        obtain ⟨i161, rfl, hf162⟩ := hv160
        refine lv_bipush (v := 100) hx hb dX11_heats_55 (by decide) ?_
        have hL82 : ∀ (H : Heap) (locs : List Loc) (y163 : Int32)   (hI : zI D tc (zA [] L s.heap.size) s.heap [] L κ g H locs) (ls : Array Slot) (hl : lv_has ls 6 [(0, .ref p0), (1, .int x1), (2, .int ((nI i2))), (3, .ref ((cf i2)))]), W p l e9 (headSpec wsX11_heats ({ frames := 3, cells := 1, slots := 4, locals := 64 })).room s m ([.ref p0] : List Value).toArray below meth c H locs 0 0 (MQ below (va_Qv (fun (u : zS) => u = (L, κ, g)) (fun (u : zS) (t : State) => zB D tc (zA [] L s.heap.size) [] u t) (zA [] L s.heap.size)) ([.ref p0] : List Value).toArray s 1 4 (zA [] L s.heap.size)) (F0 m 82 ls [.int y163]) := by
          intro H locs y163 hI ls hl
          refine lv_istore (lv' := [(5, .int y163), (0, .ref p0), (1, .int x1), (2, .int ((nI i2))), (3, .ref ((cf i2)))]) hx hb dX11_heats_82 hl (by decide) rfl (fun ls hl => ?_)
          refine lv_aload_n hx hb dX11_heats_84 rfl (lv_at hl 4 rfl) ?_
          refine z_getN (host := "WattgovernModel") (k := 11) (j := 4) hM hE hI hr141 rfl rfl hinX9 rfl (by decide) (by decide +kernel) (fun _ h9 => h9) dX11_heats_85 (fun v164 hv165 => ?_)
          obtain ⟨i166, rfl, hf167⟩ := hv165
          refine lv_bipush (v := 97) hx hb dX11_heats_88 (by decide) ?_
          have hL128 : ∀ (H : Heap) (locs : List Loc) (x168 : Int32)   (hI : zI D tc (zA [] L s.heap.size) s.heap [] L κ g H locs) (ls : Array Slot) (hl : lv_has ls 6 [(0, .ref p0), (1, .int x1), (2, .int ((nI i2))), (3, .ref ((cf i2))), (5, .int x168)]), W p l e9 (headSpec wsX11_heats ({ frames := 3, cells := 1, slots := 4, locals := 64 })).room s m ([.ref p0] : List Value).toArray below meth c H locs 0 0 (MQ below (va_Qv (fun (u : zS) => u = (L, κ, g)) (fun (u : zS) (t : State) => zB D tc (zA [] L s.heap.size) [] u t) (zA [] L s.heap.size)) ([.ref p0] : List Value).toArray s 1 4 (zA [] L s.heap.size)) (F0 m 128 ls []) := by
            intro H locs x168 hI ls hl
            refine lv_aload_n hx hb dX11_heats_128 rfl (lv_at hl 3 rfl) ?_
            refine lv_dup hx hb dX11_heats_129 rfl ?_
            refine z_getN (host := "WattgovernModel") (k := 11) (j := 10) hM hE hI hr141 rfl rfl hinX9 rfl (by decide) (by decide +kernel) (fun _ h9 => h9) dX11_heats_130 (fun v169 hv170 => ?_)
            obtain ⟨i171, rfl⟩ := hv170
            refine lv_iload hx hb dX11_heats_133 (lv_at hl 4 rfl) ?_
            refine lv_iadd hx hb dX11_heats_135 ?_
            refine lv_topi (fun v172 e173 => ?_)
            refine z_putN (host := "WattgovernModel") (g' := g) (k := 11) (j := 10) hM hE hI hr141 rfl rfl hinX9 tyX9 tyX9_ok nmX9 rfl (by decide) (by decide +kernel) (fun _ h9 => h9) rfl rfl rfl rfl ⟨_, rfl⟩ (fun _ _ _ => rfl) dX11_heats_136 (fun H locs hI => ?_)
            refine lv_iload_n hx hb dX11_heats_139 rfl (lv_at hl 1 rfl) ?_
            refine lv_iload hx hb dX11_heats_140 (lv_at hl 4 rfl) ?_
            refine lv_iadd hx hb dX11_heats_142 ?_
            refine lv_topi (fun v174 e175 => ?_)
            refine lv_istore_n (lv' := [(1, .int v174), (0, .ref p0), (2, .int ((nI i2))), (3, .ref ((cf i2))), (5, .int x168)]) hx hb dX11_heats_143 rfl hl (by decide) rfl (fun ls hl => ?_)
            refine lv_iinc (v := nI (i2 + 1)) (lv' := [(2, .int ((nI (i2 + 1)))), (1, .int v174), (0, .ref p0), (3, .ref ((cf i2))), (5, .int x168)]) hx hb dX11_heats_144 hl (k := 2) rfl (z_inc i2) (by decide) rfl (fun ls hl => ?_)
            refine lv_goto (tgt := 4) hx hb dX11_heats_147 (by decide) ?_
            exact ih4 _ _ v174 ((i2 + 1)) (by first | omega | (simp only [] at *; omega)) (by first | omega | (simp only [] at *; omega)) hI ls (lv_sub hl [2, 1, 0] rfl)
          refine lv_icmp_ne (tgt := 128) hx hb dX11_heats_90 (by decide) (fun c176 => ?_) (fun c176 => ?_)
          · skip
            exact hL128 _ _ y163 hI ls (lv_sub hl [1, 2, 3, 4, 0] rfl)
          · skip
            refine lv_iload hx hb dX11_heats_93 (lv_at hl 0 rfl) ?_
            refine lv_aload_n hx hb dX11_heats_95 rfl (lv_at hl 4 rfl) ?_
            refine z_getN (host := "WattgovernModel") (k := 11) (j := 7) hM hE hI hr141 rfl rfl hinX9 rfl (by decide) (by decide +kernel) (fun _ h9 => h9) dX11_heats_96 (fun v177 hv178 => ?_)
            obtain ⟨i179, rfl⟩ := hv178
            refine lv_aload_n hx hb dX11_heats_99 rfl (lv_at hl 1 rfl) ?_
            refine z_get (k := 13) (j := 2) hM hI hk0 rfl rfl hinX11 rfl (by decide) (by decide +kernel) (fun _ h9 => h9) dX11_heats_100 (fun v180 hv181 => ?_)
            obtain ⟨hg183, i182, rfl, hr184⟩ := hv181
            refine lv_aload_n hx hb dX11_heats_103 rfl (lv_at hl 4 rfl) ?_
            refine z_getN (host := "WattgovernModel") (k := 11) (j := 0) hM hE hI hr141 rfl rfl hinX9 rfl (by decide) (by decide +kernel) (fun _ h9 => h9) dX11_heats_104 (fun v185 hv186 => ?_)
            obtain ⟨i187, hb188, rfl⟩ := hv186
            refine z_iald hM hI hr184 rfl rfl (vp_in_nI (by omega) (by omega)) dX11_heats_107 (fun v189 hv190 => ?_)
            refine lv_imul hx hb dX11_heats_108 ?_
            refine lv_topi (fun v191 e192 => ?_)
            refine lv_aload_n hx hb dX11_heats_109 rfl (lv_at hl 4 rfl) ?_
            refine z_getN (host := "WattgovernModel") (k := 11) (j := 17) hM hE hI hr141 rfl rfl hinX9 rfl (by decide) (by decide +kernel) (fun _ h9 => h9) dX11_heats_110 (fun v193 hv194 => ?_)
            obtain ⟨i195, rfl, hz196⟩ := zv_b hv194
            refine lv_if_eq (tgt := 121) hx hb dX11_heats_113 (by decide) (fun c197 => ?_) (fun c197 => ?_)
            · skip
              refine lv_sipush (v := 200) hx hb dX11_heats_121 (by decide) ?_
              refine lv_idiv hx hb dX11_heats_124 (by decide) ?_
              refine lv_topi (fun v198 e199 => ?_)
              refine lv_iadd hx hb dX11_heats_125 ?_
              refine lv_topi (fun v200 e201 => ?_)
              refine lv_istore (lv' := [(5, .int v200), (0, .ref p0), (1, .int x1), (2, .int ((nI i2))), (3, .ref ((cf i2)))]) hx hb dX11_heats_126 hl (by decide) rfl (fun ls hl => ?_)
              exact hL128 _ _ v200 hI ls (lv_sub hl [1, 2, 3, 4, 0] rfl)
            · skip
              refine lv_bipush (v := 50) hx hb dX11_heats_116 (by decide) ?_
              refine lv_goto (tgt := 124) hx hb dX11_heats_118 (by decide) ?_
              refine lv_idiv hx hb dX11_heats_124 (by decide) ?_
              refine lv_topi (fun v202 e203 => ?_)
              refine lv_iadd hx hb dX11_heats_125 ?_
              refine lv_topi (fun v204 e205 => ?_)
              refine lv_istore (lv' := [(5, .int v204), (0, .ref p0), (1, .int x1), (2, .int ((nI i2))), (3, .ref ((cf i2)))]) hx hb dX11_heats_126 hl (by decide) rfl (fun ls hl => ?_)
              exact hL128 _ _ v204 hI ls (lv_sub hl [1, 2, 3, 4, 0] rfl)
        refine lv_icmp_ne (tgt := 64) hx hb dX11_heats_57 (by decide) (fun c206 => ?_) (fun c206 => ?_)
        · skip
          refine lv_aload_n hx hb dX11_heats_64 rfl (lv_at hl 1 rfl) ?_
          refine z_getN (host := "WattgovernModel") (k := 11) (j := 4) hM hE hI hr141 rfl rfl hinX9 rfl (by decide) (by decide +kernel) (fun _ h9 => h9) dX11_heats_65 (fun v207 hv208 => ?_)
          obtain ⟨i209, rfl, hf210⟩ := hv208
          refine lv_bipush (v := 108) hx hb dX11_heats_68 (by decide) ?_
          refine lv_icmp_ne (tgt := 80) hx hb dX11_heats_70 (by decide) (fun c211 => ?_) (fun c211 => ?_)
          · skip
            refine lv_iload hx hb dX11_heats_80 (lv_at hl 0 rfl) ?_
            exact hL82 _ _ v157 hI ls (lv_sub hl [2, 3, 4, 1] rfl)
          · skip
            refine lv_iload hx hb dX11_heats_73 (lv_at hl 0 rfl) ?_
            refine lv_iconst (v := 2) hx hb dX11_heats_75 (by decide) ?_
            refine lv_idiv hx hb dX11_heats_76 (by decide) ?_
            refine lv_topi (fun v212 e213 => ?_)
            refine lv_goto (tgt := 82) hx hb dX11_heats_77 (by decide) ?_
            exact hL82 _ _ v212 hI ls (lv_sub hl [2, 3, 4, 1] rfl)
        · skip
          refine lv_iconst (v := 0) hx hb dX11_heats_60 (by decide) ?_
          refine lv_goto (tgt := 82) hx hb dX11_heats_61 (by decide) ?_
          exact hL82 _ _ 0 hI ls (lv_sub hl [2, 3, 4, 1] rfl)
  exact hL4 (nC + 1) _ _ 0 0 (by first | omega | (simp only [] at *; omega)) (by first | omega | (simp only [] at *; omega)) hI ls (lv_sub hl [2, 1, 0] rfl)

set_option maxHeartbeats 4000000 in
set_option maxRecDepth 100000 in
theorem c_X11_rails (l : Launch) (D : va_G) (tc : Nat → ClassId) (z0 : Nat) (L : List Nat) (κ : Nat → Nat) (g : Nat → Nat → Value) (sz : Nat) (p0 : Nat) (hk0 : κ p0 = 13) (lc eC nC : Nat) (mC : Int32) (cf : Nat → Nat) (lt eT nT : Nat) (mT : Int32) (tf : Nat → Nat) (hMo : zMo κ g z0 p0 lc eC nC mC cf lt eT nT mT tf) : Met l yX11_rails wsX11_rails ({ frames := 3, cells := 0, slots := 0, locals := 64 }) (zPc D tc z0 [.ref p0] [] (L, κ, g) sz) (va_Qv (fun (u : zS) => u = (L, κ, g)) (fun (u : zS) (t : State) => zB D tc (zA [] L sz) [] u t) (zA [] L sz)) 0 0 (zA [] L sz) := by
  refine Met.ofW (cc := cX11_rails) (maxL := 4) (ret := none) (by decide) rfl ?_
  intro p e9 s m args below meth c s₁ B hml hv
  obtain ⟨rfl, rfl, hK, hE, hI⟩ := hv.opn
  have hx := B.exec
  have hb := B.bytes
  have hr := B.returns
  have hts := atoms_spec (ws := wsX11_rails) B.pre
  have hown : s.vm.findClass RX11 = some m.cls := findClass_of_methodNamed B.named
  have hlocks := B.notSynchronized
  have hM : zM p s m c cX11_rails _ wsX11_rails RX11 D tc := ⟨hx, hb, hts, hown, hK⟩
  have hinX11 : ∀ w ∈ wsX110, w ∈ wsX11_rails := by decide +kernel
  have hinX9 : ∀ w ∈ wsX90, w ∈ wsX11_rails := by decide +kernel
  have hnC := hMo.bC
  have hnT := hMo.bT
  have hl := lv_entry ([.ref p0]) (n := 4) (Nat.le_of_ble_eq_true rfl)
  rw [lg_entry_eq]
  generalize (lg_sl ([.ref p0]) ++ List.replicate (4 - (lg_sl ([.ref p0])).length) Slot.unset).toArray = ls at hl ⊢
  have hl : lv_has ls 4 [(0, .ref p0)] := hl
  refine lv_iconst (v := 0) hx hb dX11_rails_0 (by decide) ?_
  refine lv_istore_n (lv' := [(1, .int 0), (0, .ref p0)]) hx hb dX11_rails_1 rfl hl (by decide) rfl (fun ls hl => ?_)
  have hL2 : ∀ (n : Nat) (H : Heap) (locs : List Loc)   (i1 : Nat) (hi : i1 ≤ 3) (hn : 3 - i1 < n)  (hI : zI D tc (zA [] L s.heap.size) s.heap [] L κ g H locs) (ls : Array Slot) (hl : lv_has ls 4 [(0, .ref p0), (1, .int ((nI i1)))]), W p l e9 (headSpec wsX11_rails ({ frames := 3, cells := 0, slots := 0, locals := 64 })).room s m ([.ref p0] : List Value).toArray below meth c H locs 0 0 (MQ below (va_Qv (fun (u : zS) => u = (L, κ, g)) (fun (u : zS) (t : State) => zB D tc (zA [] L s.heap.size) [] u t) (zA [] L s.heap.size)) ([.ref p0] : List Value).toArray s 0 0 (zA [] L s.heap.size)) (F0 m 2 ls []) := by
    intro n
    induction n with
    | zero => intro H locs i1 hi hn hI ls hl; exact absurd hn (Nat.not_lt_zero _)
    | succ n ih2 =>
      intro H locs i1 hi hn hI ls hl
      refine lv_iload_n hx hb dX11_rails_2 rfl (lv_at hl 1 rfl) ?_
      refine lv_iconst (v := 3) hx hb dX11_rails_3 (by decide) ?_
      refine lv_icmp_ge (tgt := 128) hx hb dX11_rails_4 (by decide) (fun c2 => ?_) (fun c2 => ?_)
      · skip
        have hgec2 : 3 ≤ i1 := z_ge (by omega) (by omega) c2
        refine lv_iconst (v := 0) hx hb dX11_rails_128 (by decide) ?_
        refine lv_istore_n (lv' := [(1, .int 0), (0, .ref p0)]) hx hb dX11_rails_129 rfl hl (by decide) rfl (fun ls hl => ?_)
        have hL130 : ∀ (n : Nat) (H : Heap) (locs : List Loc)   (i3 : Nat) (hi : i3 ≤ nC) (hn : nC - i3 < n)  (hI : zI D tc (zA [] L s.heap.size) s.heap [] L κ g H locs) (ls : Array Slot) (hl : lv_has ls 4 [(0, .ref p0), (1, .int ((nI i3)))]), W p l e9 (headSpec wsX11_rails ({ frames := 3, cells := 0, slots := 0, locals := 64 })).room s m ([.ref p0] : List Value).toArray below meth c H locs 0 0 (MQ below (va_Qv (fun (u : zS) => u = (L, κ, g)) (fun (u : zS) (t : State) => zB D tc (zA [] L s.heap.size) [] u t) (zA [] L s.heap.size)) ([.ref p0] : List Value).toArray s 0 0 (zA [] L s.heap.size)) (F0 m 130 ls []) := by
          intro n
          induction n with
          | zero => intro H locs i3 hi hn hI ls hl; exact absurd hn (Nat.not_lt_zero _)
          | succ n ih130 =>
            intro H locs i3 hi hn hI ls hl
            refine lv_iload_n hx hb dX11_rails_130 rfl (lv_at hl 1 rfl) ?_
            refine lv_aload_n hx hb dX11_rails_131 rfl (lv_at hl 0 rfl) ?_
            refine z_get (k := 13) (j := 0) hM hI hk0 rfl rfl hinX11 rfl (by decide) (by decide +kernel) (fun _ h9 => h9) dX11_rails_132 (fun v4 hv5 => ?_)
            obtain ⟨hg7, i6, rfl, hr8⟩ := hv5
            obtain rfl : lc = i6 := Value.ref.inj (hMo.gc.symm.trans hg7.symm)
            refine va_csFi (va_runF (As := []) (rest := [.int ((nI i3))]) (hK.1 1 _ rfl).2 ⟨hx, hb, hml, hown, hts⟩ (c_Jx4a65c_size_8abf5 l D tc z0 _ κ g _ lc 1 eC 25 11 nC mC cf rfl hMo.LC) (va_cwF 0 hts gX11_rails_Jx4a65c_size_8abf5_f46Jx4a65c rfl rfl rfl (hE.2.2.1 (RJx4a65c, ⟨"java/util/List", "size", "()I"⟩, yJx4a65c_size_8abf5) (by decide +kernel)) (by decide +kernel) ⟨Nat.le_of_ble_eq_true rfl, Nat.le_of_ble_eq_true rfl⟩) (z_preV (Xc := []) hK hE hI [] rfl rfl (z_recv hK hI hMo.LC.1 rfl rfl)) rfl rfl hl.1 rfl (lv_room (Nat.le_of_ble_eq_true rfl)) dX11_rails_135 ⟨(Nat.le_of_ble_eq_true rfl), (Nat.le_of_ble_eq_true rfl)⟩) (fun v9 hw10 => ?_)
            obtain rfl := hw10
            refine lv_icmp_ge (tgt := 217) hx hb dX11_rails_140 (by decide) (fun c11 => ?_) (fun c11 => ?_)
            · skip
              have hgec11 : nC ≤ i3 := z_ge (by omega) (by omega) c11
              refine W.widen (k := 0) (n := 0) (Nat.le_of_ble_eq_true rfl) (Nat.le_of_ble_eq_true rfl) ?_
              exact W.vret hx hb hr (fun t ht hW => ⟨⟨(L, κ, g), rfl, rfl, z_end hK hI ht hW⟩, z_F hI ht⟩) (z_locs hI) dX11_rails_217
            · skip
              have hltc11 : i3 < nC := z_lt (by omega) c11
              refine lv_aload_n hx hb dX11_rails_143 rfl (lv_at hl 0 rfl) ?_
              refine z_get (k := 13) (j := 0) hM hI hk0 rfl rfl hinX11 rfl (by decide) (by decide +kernel) (fun _ h9 => h9) dX11_rails_144 (fun v12 hv13 => ?_)
              obtain ⟨hg15, i14, rfl, hr16⟩ := hv13
              obtain rfl : lc = i14 := Value.ref.inj (hMo.gc.symm.trans hg15.symm)
              refine lv_iload_n hx hb dX11_rails_147 rfl (lv_at hl 1 rfl) ?_
              refine va_csFq (va_runF (As := [.int ((nI i3))]) (rest := []) (hK.1 1 _ rfl).2 ⟨hx, hb, hml, hown, hts⟩ (c_Jx4a65c_get_915e3 l D tc z0 _ κ g _ lc 1 eC 25 11 nC mC cf rfl hMo.LC rfl rfl i3 (by omega)) (va_cwF 1 hts gX11_rails_Jx4a65c_get_915e3_f101Jx4a65c rfl rfl rfl (hE.2.2.1 (RJx4a65c, ⟨"java/util/List", "get", "(I)Ljava/lang/Object;"⟩, yJx4a65c_get_915e3) (by decide +kernel)) (by decide +kernel) ⟨Nat.le_of_ble_eq_true rfl, Nat.le_of_ble_eq_true rfl⟩) (z_preV (Xc := []) hK hE hI [] rfl rfl (z_recv hK hI hMo.LC.1 rfl rfl)) rfl rfl hl.1 rfl (lv_room (Nat.le_of_ble_eq_true rfl)) dX11_rails_148 ⟨(Nat.le_of_ble_eq_true rfl), (Nat.le_of_ble_eq_true rfl)⟩) (fun r17 hw18 => ?_)
              obtain rfl := hw18
              have hr19 : κ (cf i3) = 11 := hMo.LC.el (i := i3) (by omega)
              show W p l e9 (headSpec wsX11_rails ({ frames := 3, cells := 0, slots := 0, locals := 64 })).room s m ([.ref p0] : List Value).toArray below meth c _ _ 0 0 (MQ below (va_Qv (fun (u : zS) => u = (L, κ, g)) (fun (u : zS) (t : State) => zB D tc (zA [] L s.heap.size) [] u t) (zA [] L s.heap.size)) ([.ref p0] : List Value).toArray s 0 0 (zA [] L s.heap.size)) (F0 m 153 ls (.ref (cf i3) :: []))
              refine z_castS (k := 11) hM hI hr19 rfl rfl (by decide +kernel) dX11_rails_153 ?_
              refine lv_astore_n (lv' := [(2, .ref ((cf i3))), (0, .ref p0), (1, .int ((nI i3)))]) hx hb dX11_rails_156 rfl hl (by decide) rfl (fun ls hl => ?_)
              refine lv_aload_n hx hb dX11_rails_157 rfl (lv_at hl 0 rfl) ?_
              refine lv_aload_n hx hb dX11_rails_158 rfl (lv_at hl 0 rfl) ?_
              refine z_getN (host := "WattgovernModel") (k := 11) (j := 9) hM hE hI hr19 rfl rfl hinX9 rfl (by decide) (by decide +kernel) (fun _ h9 => h9) dX11_rails_159 (fun v20 hv21 => ?_)
              obtain ⟨i22, rfl⟩ := hv21
              refine z_putN (host := "WattgovernModel") (g' := g) (k := 11) (j := 7) hM hE hI hr19 rfl rfl hinX9 tyX9 tyX9_ok nmX9 rfl (by decide) (by decide +kernel) (fun _ h9 => h9) rfl rfl rfl rfl ⟨_, rfl⟩ (fun _ _ _ => rfl) dX11_rails_162 (fun H locs hI => ?_)
              have hL211 : ∀ (H : Heap) (locs : List Loc)    (hI : zI D tc (zA [] L s.heap.size) s.heap [] L κ g H locs) (ls : Array Slot) (hl : lv_has ls 4 [(0, .ref p0), (1, .int ((nI i3)))]), W p l e9 (headSpec wsX11_rails ({ frames := 3, cells := 0, slots := 0, locals := 64 })).room s m ([.ref p0] : List Value).toArray below meth c H locs 0 0 (MQ below (va_Qv (fun (u : zS) => u = (L, κ, g)) (fun (u : zS) (t : State) => zB D tc (zA [] L s.heap.size) [] u t) (zA [] L s.heap.size)) ([.ref p0] : List Value).toArray s 0 0 (zA [] L s.heap.size)) (F0 m 211 ls []) := by
                intro H locs hI ls hl
                refine lv_iinc (v := nI (i3 + 1)) (lv' := [(1, .int ((nI (i3 + 1)))), (0, .ref p0)]) hx hb dX11_rails_211 hl (k := 1) rfl (z_inc i3) (by decide) rfl (fun ls hl => ?_)
                refine lv_goto (tgt := 130) hx hb dX11_rails_214 (by decide) ?_
                exact ih130 _ _ ((i3 + 1)) (by first | omega | (simp only [] at *; omega)) (by first | omega | (simp only [] at *; omega)) hI ls (lv_sub hl [1, 0] rfl)
              have hW : ∀ (n : Nat) (H : Heap) (locs : List Loc) (f : Nat → va_E) (x : Int32) (k : Nat) (hn : k < n) (hxk : x = nI k ∨ x ≤ 0) (hf : zF f (cf i3) 7 = .int x) (hF : zIF D tc (zA [] L s.heap.size) s.heap [] L κ g f H locs), W p l e9 (headSpec wsX11_rails ({ frames := 3, cells := 0, slots := 0, locals := 64 })).room s m ([.ref p0] : List Value).toArray below meth c H locs 0 0 (MQ below (va_Qv (fun (u : zS) => u = (L, κ, g)) (fun (u : zS) (t : State) => zB D tc (zA [] L s.heap.size) [] u t) (zA [] L s.heap.size)) ([.ref p0] : List Value).toArray s 0 0 (zA [] L s.heap.size)) (F0 m 165 ls []) := by
                intro n
                induction n with
                | zero => intro H locs f x k hn; exact absurd hn (Nat.not_lt_zero _)
                | succ n ihW =>
                  intro H locs f x k hn hxk hf hF
                  have hI := hF.to
                  refine lv_aload_n hx hb dX11_rails_165 rfl (lv_at hl 0 rfl) ?_
                  refine z_getFN (host := "WattgovernModel") (k := 11) (j := 7) hM hE hF hr19 rfl rfl hinX9 rfl (by decide) (by decide +kernel) (fun _ h9 => h9) dX11_rails_166 (fun v9 h9 hv9 => ?_)
                  obtain rfl := hf.symm.trans h9
                  refine lv_if_le (tgt := 211) hx hb dX11_rails_169 (by decide) (fun c9 => ?_) (fun c9 => ?_)
                  · skip
                    exact hL211 _ _ hI ls (lv_sub hl [1, 2] rfl)
                  · skip
                    have hxk : x = nI k := hxk.elim id (fun h => absurd h c9)
                    subst hxk
                    rcases k with _ | j
                    · exact absurd (by decide) c9
                    refine lv_aload_n hx hb dX11_rails_172 rfl (lv_at hl 0 rfl) ?_
                    refine lv_aload_n hx hb dX11_rails_173 rfl (lv_at hl 0 rfl) ?_
                    refine z_getFN (host := "WattgovernModel") (k := 11) (j := 7) hM hE hF hr19 rfl rfl hinX9 rfl (by decide) (by decide +kernel) (fun _ h9 => h9) dX11_rails_174 (fun v9 h9 hv9 => ?_)
                    obtain rfl := hf.symm.trans h9
                    refine lv_aload_n hx hb dX11_rails_177 rfl (lv_at hl 1 rfl) ?_
                    refine z_get (k := 13) (j := 3) hM hI hk0 rfl rfl hinX11 rfl (by decide) (by decide +kernel) (fun _ h9 => h9) dX11_rails_178 (fun v23 hv24 => ?_)
                    obtain ⟨hg26, i25, rfl, hr27⟩ := hv24
                    refine lv_iload_n hx hb dX11_rails_181 rfl (lv_at hl 2 rfl) ?_
                    refine z_iald hM hI hr27 rfl rfl (vp_in_nI (by omega) (by omega)) dX11_rails_182 (fun v28 hv29 => ?_)
                    refine vp_callSi (va_Run.run (va_runVN (As := [.int ((nI (j + 1))), .int v28]) (rest := []) ⟨hx, hb, hml, hown, hts⟩ (c_X9_need l D tc z0 _ κ g _ ((cf i3)) hr19 ((nI (j + 1))) v28) ⟨va_cnB 2 hts gX11_rails_X9_need_n234 rfl rfl rfl (hE.1 (.methodLinkNest RX11 234 yX9_need "WattgovernModel") (by decide +kernel) rfl) (hts (.initialized yX9_need.cls) (by decide +kernel)) (by decide +kernel) ⟨Nat.le_of_ble_eq_true rfl, Nat.le_of_ble_eq_true rfl⟩, hts (.instanceMethod yX9_need) (by decide +kernel), hts (.selects RX9 yX9_need yX9_need) (by decide +kernel)⟩ (z_preV (Xc := []) hK hE hI [] rfl rfl (z_recv hK hI hr19 rfl rfl)) rfl rfl hl.1 rfl (lv_room (Nat.le_of_ble_eq_true rfl)) dX11_rails_183 ⟨(Nat.le_of_ble_eq_true rfl), (Nat.le_of_ble_eq_true rfl)⟩)) (fun v30 hw31 => ?_)
                    refine lv_aload_n hx hb dX11_rails_186 rfl (lv_at hl 1 rfl) ?_
                    refine z_get (k := 13) (j := 2) hM hI hk0 rfl rfl hinX11 rfl (by decide) (by decide +kernel) (fun _ h9 => h9) dX11_rails_187 (fun v32 hv33 => ?_)
                    obtain ⟨hg35, i34, rfl, hr36⟩ := hv33
                    refine lv_aload_n hx hb dX11_rails_190 rfl (lv_at hl 0 rfl) ?_
                    refine z_getN (host := "WattgovernModel") (k := 11) (j := 0) hM hE hI hr19 rfl rfl hinX9 rfl (by decide) (by decide +kernel) (fun _ h9 => h9) dX11_rails_191 (fun v37 hv38 => ?_)
                    obtain ⟨i39, hb40, rfl⟩ := hv38
                    refine z_iald hM hI hr36 rfl rfl (vp_in_nI (by omega) (by omega)) dX11_rails_194 (fun v41 hv42 => ?_)
                    refine lv_icmp_le (tgt := 211) hx hb dX11_rails_195 (by decide) (fun c8 => ?_) (fun c8 => ?_)
                    · skip
                      exact hL211 _ _ hI ls (lv_sub hl [1, 2] rfl)
                    · skip
                      refine lv_aload_n hx hb dX11_rails_198 rfl (lv_at hl 0 rfl) ?_
                      refine lv_dup hx hb dX11_rails_199 rfl ?_
                      refine z_getFN (host := "WattgovernModel") (k := 11) (j := 7) hM hE hF hr19 rfl rfl hinX9 rfl (by decide) (by decide +kernel) (fun _ h9 => h9) dX11_rails_200 (fun v9 h9 hv9 => ?_)
                      obtain rfl := hf.symm.trans h9
                      refine lv_iconst (v := 1) hx hb dX11_rails_203 (by decide) ?_
                      refine lv_isub hx hb dX11_rails_204 ?_
                      rw [nI_pred]
                      refine z_putFN (host := "WattgovernModel") (k := 11) (j := 7) hM hE hF hr19 rfl rfl hinX9 tyX9 tyX9_ok nmX9 rfl (by decide) (by decide +kernel) (fun _ h9 => h9) rfl rfl rfl rfl ⟨_, rfl⟩ dX11_rails_205 (fun f H locs hF hf => ?_)
                      refine lv_goto (tgt := 165) hx hb dX11_rails_208 (by decide) ?_
                      exact ihW H locs f _ j (by omega) (Or.inl rfl) hf hF
              obtain ⟨f9, hF9⟩ := hI.ex
              obtain ⟨x9, hx9⟩ : ∃ x9 : Int32, zF f9 (cf i3) 7 = .int x9 := z_fld (j := 7) (t := (0, 0)) hF9 hr19 rfl rfl
              by_cases hc9 : x9 ≤ 0
              · exact hW 1 _ _ f9 x9 0 (by omega) (Or.inr hc9) hx9 hF9
              · obtain ⟨k9, hk9, hk8⟩ := nI_of (x := x9) (fun h => hc9 (Int32.le_of_lt h))
                exact hW (k9 + 1) _ _ f9 x9 k9 (by omega) (Or.inl hk8) hx9 hF9
        exact hL130 (nC + 1) _ _ 0 (by first | omega | (simp only [] at *; omega)) (by first | omega | (simp only [] at *; omega)) hI ls (lv_sub hl [1, 0] rfl)
      · skip
        have hltc2 : i1 < 3 := z_lt (by omega) c2
        refine lv_sipush (v := 500) hx hb dX11_rails_7 (by decide) ?_
        refine lv_istore_n (lv' := [(2, .int 500), (0, .ref p0), (1, .int ((nI i1)))]) hx hb dX11_rails_10 rfl hl (by decide) rfl (fun ls hl => ?_)
        refine lv_iconst (v := 0) hx hb dX11_rails_11 (by decide) ?_
        refine lv_istore_n (lv' := [(3, .int 0), (2, .int 500), (0, .ref p0), (1, .int ((nI i1)))]) hx hb dX11_rails_12 rfl hl (by decide) rfl (fun ls hl => ?_)
        have hL13 : ∀ (n : Nat) (H : Heap) (locs : List Loc) (x43 : Int32)  (i44 : Nat) (hi : i44 ≤ nC) (hn : nC - i44 < n)  (hI : zI D tc (zA [] L s.heap.size) s.heap [] L κ g H locs) (ls : Array Slot) (hl : lv_has ls 4 [(0, .ref p0), (1, .int ((nI i1))), (2, .int x43), (3, .int ((nI i44)))]), W p l e9 (headSpec wsX11_rails ({ frames := 3, cells := 0, slots := 0, locals := 64 })).room s m ([.ref p0] : List Value).toArray below meth c H locs 0 0 (MQ below (va_Qv (fun (u : zS) => u = (L, κ, g)) (fun (u : zS) (t : State) => zB D tc (zA [] L s.heap.size) [] u t) (zA [] L s.heap.size)) ([.ref p0] : List Value).toArray s 0 0 (zA [] L s.heap.size)) (F0 m 13 ls []) := by
          intro n
          induction n with
          | zero => intro H locs x43 i44 hi hn hI ls hl; exact absurd hn (Nat.not_lt_zero _)
          | succ n ih13 =>
            intro H locs x43 i44 hi hn hI ls hl
            refine lv_iload_n hx hb dX11_rails_13 rfl (lv_at hl 3 rfl) ?_
            refine lv_aload_n hx hb dX11_rails_14 rfl (lv_at hl 0 rfl) ?_
            refine z_get (k := 13) (j := 0) hM hI hk0 rfl rfl hinX11 rfl (by decide) (by decide +kernel) (fun _ h9 => h9) dX11_rails_15 (fun v45 hv46 => ?_)
            obtain ⟨hg48, i47, rfl, hr49⟩ := hv46
            obtain rfl : lc = i47 := Value.ref.inj (hMo.gc.symm.trans hg48.symm)
            refine va_csFi (va_runF (As := []) (rest := [.int ((nI i44))]) (hK.1 1 _ rfl).2 ⟨hx, hb, hml, hown, hts⟩ (c_Jx4a65c_size_8abf5 l D tc z0 _ κ g _ lc 1 eC 25 11 nC mC cf rfl hMo.LC) (va_cwF 0 hts gX11_rails_Jx4a65c_size_8abf5_f46Jx4a65c rfl rfl rfl (hE.2.2.1 (RJx4a65c, ⟨"java/util/List", "size", "()I"⟩, yJx4a65c_size_8abf5) (by decide +kernel)) (by decide +kernel) ⟨Nat.le_of_ble_eq_true rfl, Nat.le_of_ble_eq_true rfl⟩) (z_preV (Xc := []) hK hE hI [] rfl rfl (z_recv hK hI hMo.LC.1 rfl rfl)) rfl rfl hl.1 rfl (lv_room (Nat.le_of_ble_eq_true rfl)) dX11_rails_18 ⟨(Nat.le_of_ble_eq_true rfl), (Nat.le_of_ble_eq_true rfl)⟩) (fun v50 hw51 => ?_)
            obtain rfl := hw51
            refine lv_icmp_ge (tgt := 95) hx hb dX11_rails_23 (by decide) (fun c52 => ?_) (fun c52 => ?_)
            · skip
              have hgec52 : nC ≤ i44 := z_ge (by omega) (by omega) c52
              refine lv_aload_n hx hb dX11_rails_95 rfl (lv_at hl 0 rfl) ?_
              refine z_get (k := 13) (j := 2) hM hI hk0 rfl rfl hinX11 rfl (by decide) (by decide +kernel) (fun _ h9 => h9) dX11_rails_96 (fun v53 hv54 => ?_)
              obtain ⟨hg56, i55, rfl, hr57⟩ := hv54
              refine lv_iload_n hx hb dX11_rails_99 rfl (lv_at hl 1 rfl) ?_
              refine lv_dup2_11 hx hb dX11_rails_100 rfl rfl ?_
              refine z_iald hM hI hr57 rfl rfl (vp_in_nI (by omega) (by omega)) dX11_rails_101 (fun v58 hv59 => ?_)
              refine lv_bipush (v := -20) hx hb dX11_rails_102 (by decide) ?_
              refine lv_bipush (v := 20) hx hb dX11_rails_104 (by decide) ?_
              refine lv_iload_n hx hb dX11_rails_106 rfl (lv_at hl 2 rfl) ?_
              refine lv_aload_n hx hb dX11_rails_107 rfl (lv_at hl 0 rfl) ?_
              refine z_get (k := 13) (j := 2) hM hI hk0 rfl rfl hinX11 rfl (by decide) (by decide +kernel) (fun _ h9 => h9) dX11_rails_108 (fun v60 hv61 => ?_)
              obtain ⟨hg63, i62, rfl, hr64⟩ := hv61
              refine lv_iload_n hx hb dX11_rails_111 rfl (lv_at hl 1 rfl) ?_
              refine z_iald hM hI hr64 rfl rfl (vp_in_nI (by omega) (by omega)) dX11_rails_112 (fun v65 hv66 => ?_)
              refine lv_isub hx hb dX11_rails_113 ?_
              refine lv_topi (fun v67 e68 => ?_)
              refine va_mmin hx hb (hml.trans hl.1.symm) hown (hts (.methodLink RX11 186 Lib.Math.min.name) (by decide +kernel)) (hts (.static Lib.Math.min.name) (by decide +kernel)) (hts (.initialized "java/lang/Math") (by decide +kernel)) (hts (.code Lib.Math.min.name Lib.Math.min.code 2 (some .int)) (by decide +kernel)) (Nat.le_of_ble_eq_true rfl) (Nat.le_of_ble_eq_true rfl) (Nat.le_of_ble_eq_true rfl) (Nat.le_of_ble_eq_true rfl) dX11_rails_114 ?_
              refine lv_topi (fun v69 e70 => ?_)
              refine va_mmax hx hb (hml.trans hl.1.symm) hown (hts (.methodLink RX11 189 Lib.Math.max.name) (by decide +kernel)) (hts (.static Lib.Math.max.name) (by decide +kernel)) (hts (.initialized "java/lang/Math") (by decide +kernel)) (hts (.code Lib.Math.max.name Lib.Math.max.code 2 (some .int)) (by decide +kernel)) (Nat.le_of_ble_eq_true rfl) (Nat.le_of_ble_eq_true rfl) (Nat.le_of_ble_eq_true rfl) (Nat.le_of_ble_eq_true rfl) dX11_rails_117 ?_
              refine lv_topi (fun v71 e72 => ?_)
              refine lv_iadd hx hb dX11_rails_120 ?_
              refine lv_topi (fun v73 e74 => ?_)
              refine z_iast (g' := g) hM hI hr57 rfl rfl (vp_in_nI (by omega) (by omega)) ⟨_, rfl⟩ (fun _ _ _ => rfl) dX11_rails_121 (fun H locs hI => ?_)
              refine lv_iinc (v := nI (i1 + 1)) (lv' := [(1, .int ((nI (i1 + 1)))), (0, .ref p0), (2, .int x43), (3, .int ((nI i44)))]) hx hb dX11_rails_122 hl (k := 1) rfl (z_inc i1) (by decide) rfl (fun ls hl => ?_)
              refine lv_goto (tgt := 2) hx hb dX11_rails_125 (by decide) ?_
              exact ih2 _ _ ((i1 + 1)) (by first | omega | (simp only [] at *; omega)) (by first | omega | (simp only [] at *; omega)) hI ls (lv_sub hl [1, 0] rfl)
            · skip
              have hltc52 : i44 < nC := z_lt (by omega) c52
              refine lv_aload_n hx hb dX11_rails_26 rfl (lv_at hl 0 rfl) ?_
              refine z_get (k := 13) (j := 0) hM hI hk0 rfl rfl hinX11 rfl (by decide) (by decide +kernel) (fun _ h9 => h9) dX11_rails_27 (fun v75 hv76 => ?_)
              obtain ⟨hg78, i77, rfl, hr79⟩ := hv76
              obtain rfl : lc = i77 := Value.ref.inj (hMo.gc.symm.trans hg78.symm)
              refine lv_iload_n hx hb dX11_rails_30 rfl (lv_at hl 3 rfl) ?_
              refine va_csFq (va_runF (As := [.int ((nI i44))]) (rest := []) (hK.1 1 _ rfl).2 ⟨hx, hb, hml, hown, hts⟩ (c_Jx4a65c_get_915e3 l D tc z0 _ κ g _ lc 1 eC 25 11 nC mC cf rfl hMo.LC rfl rfl i44 (by omega)) (va_cwF 1 hts gX11_rails_Jx4a65c_get_915e3_f101Jx4a65c rfl rfl rfl (hE.2.2.1 (RJx4a65c, ⟨"java/util/List", "get", "(I)Ljava/lang/Object;"⟩, yJx4a65c_get_915e3) (by decide +kernel)) (by decide +kernel) ⟨Nat.le_of_ble_eq_true rfl, Nat.le_of_ble_eq_true rfl⟩) (z_preV (Xc := []) hK hE hI [] rfl rfl (z_recv hK hI hMo.LC.1 rfl rfl)) rfl rfl hl.1 rfl (lv_room (Nat.le_of_ble_eq_true rfl)) dX11_rails_31 ⟨(Nat.le_of_ble_eq_true rfl), (Nat.le_of_ble_eq_true rfl)⟩) (fun r80 hw81 => ?_)
              obtain rfl := hw81
              have hr82 : κ (cf i44) = 11 := hMo.LC.el (i := i44) (by omega)
              show W p l e9 (headSpec wsX11_rails ({ frames := 3, cells := 0, slots := 0, locals := 64 })).room s m ([.ref p0] : List Value).toArray below meth c _ _ 0 0 (MQ below (va_Qv (fun (u : zS) => u = (L, κ, g)) (fun (u : zS) (t : State) => zB D tc (zA [] L s.heap.size) [] u t) (zA [] L s.heap.size)) ([.ref p0] : List Value).toArray s 0 0 (zA [] L s.heap.size)) (F0 m 36 ls (.ref (cf i44) :: []))
              refine z_castS (k := 11) hM hI hr82 rfl rfl (by decide +kernel) dX11_rails_36 ?_
              refine z_getN (host := "WattgovernModel") (k := 11) (j := 0) hM hE hI hr82 rfl rfl hinX9 rfl (by decide) (by decide +kernel) (fun _ h9 => h9) dX11_rails_39 (fun v83 hv84 => ?_)
              obtain ⟨i85, hb86, rfl⟩ := hv84
              refine lv_iload_n hx hb dX11_rails_42 rfl (lv_at hl 1 rfl) ?_
              have hL89 : ∀ (H : Heap) (locs : List Loc) (x87 : Int32)   (hI : zI D tc (zA [] L s.heap.size) s.heap [] L κ g H locs) (ls : Array Slot) (hl : lv_has ls 4 [(0, .ref p0), (1, .int ((nI i1))), (2, .int x87), (3, .int ((nI i44)))]), W p l e9 (headSpec wsX11_rails ({ frames := 3, cells := 0, slots := 0, locals := 64 })).room s m ([.ref p0] : List Value).toArray below meth c H locs 0 0 (MQ below (va_Qv (fun (u : zS) => u = (L, κ, g)) (fun (u : zS) (t : State) => zB D tc (zA [] L s.heap.size) [] u t) (zA [] L s.heap.size)) ([.ref p0] : List Value).toArray s 0 0 (zA [] L s.heap.size)) (F0 m 89 ls []) := by
                intro H locs x87 hI ls hl
                refine lv_iinc (v := nI (i44 + 1)) (lv' := [(3, .int ((nI (i44 + 1)))), (0, .ref p0), (1, .int ((nI i1))), (2, .int x87)]) hx hb dX11_rails_89 hl (k := 3) rfl (z_inc i44) (by decide) rfl (fun ls hl => ?_)
                refine lv_goto (tgt := 13) hx hb dX11_rails_92 (by decide) ?_
                exact ih13 _ _ x87 ((i44 + 1)) (by first | omega | (simp only [] at *; omega)) (by first | omega | (simp only [] at *; omega)) hI ls (lv_sub hl [1, 2, 3, 0] rfl)
              refine lv_icmp_ne (tgt := 89) hx hb dX11_rails_43 (by decide) (fun c88 => ?_) (fun c88 => ?_)
              · skip
                exact hL89 _ _ x43 hI ls (lv_sub hl [0, 1, 2, 3] rfl)
              · skip
                refine lv_iload_n hx hb dX11_rails_46 rfl (lv_at hl 2 rfl) ?_
                refine lv_aload_n hx hb dX11_rails_47 rfl (lv_at hl 0 rfl) ?_
                refine z_get (k := 13) (j := 0) hM hI hk0 rfl rfl hinX11 rfl (by decide) (by decide +kernel) (fun _ h9 => h9) dX11_rails_48 (fun v89 hv90 => ?_)
                obtain ⟨hg92, i91, rfl, hr93⟩ := hv90
                obtain rfl : lc = i91 := Value.ref.inj (hMo.gc.symm.trans hg92.symm)
                refine lv_iload_n hx hb dX11_rails_51 rfl (lv_at hl 3 rfl) ?_
                refine va_csFq (va_runF (As := [.int ((nI i44))]) (rest := [.int x43]) (hK.1 1 _ rfl).2 ⟨hx, hb, hml, hown, hts⟩ (c_Jx4a65c_get_915e3 l D tc z0 _ κ g _ lc 1 eC 25 11 nC mC cf rfl hMo.LC rfl rfl i44 (by omega)) (va_cwF 1 hts gX11_rails_Jx4a65c_get_915e3_f101Jx4a65c rfl rfl rfl (hE.2.2.1 (RJx4a65c, ⟨"java/util/List", "get", "(I)Ljava/lang/Object;"⟩, yJx4a65c_get_915e3) (by decide +kernel)) (by decide +kernel) ⟨Nat.le_of_ble_eq_true rfl, Nat.le_of_ble_eq_true rfl⟩) (z_preV (Xc := []) hK hE hI [] rfl rfl (z_recv hK hI hMo.LC.1 rfl rfl)) rfl rfl hl.1 rfl (lv_room (Nat.le_of_ble_eq_true rfl)) dX11_rails_52 ⟨(Nat.le_of_ble_eq_true rfl), (Nat.le_of_ble_eq_true rfl)⟩) (fun r94 hw95 => ?_)
                obtain rfl := hw95
                have hr96 : κ (cf i44) = 11 := hMo.LC.el (i := i44) (by omega)
                show W p l e9 (headSpec wsX11_rails ({ frames := 3, cells := 0, slots := 0, locals := 64 })).room s m ([.ref p0] : List Value).toArray below meth c _ _ 0 0 (MQ below (va_Qv (fun (u : zS) => u = (L, κ, g)) (fun (u : zS) (t : State) => zB D tc (zA [] L s.heap.size) [] u t) (zA [] L s.heap.size)) ([.ref p0] : List Value).toArray s 0 0 (zA [] L s.heap.size)) (F0 m 57 ls (.ref (cf i44) :: [.int x43]))
                refine z_castS (k := 11) hM hI hr96 rfl rfl (by decide +kernel) dX11_rails_57 ?_
                refine lv_aload_n hx hb dX11_rails_60 rfl (lv_at hl 0 rfl) ?_
                refine z_get (k := 13) (j := 0) hM hI hk0 rfl rfl hinX11 rfl (by decide) (by decide +kernel) (fun _ h9 => h9) dX11_rails_61 (fun v97 hv98 => ?_)
                obtain ⟨hg100, i99, rfl, hr101⟩ := hv98
                obtain rfl : lc = i99 := Value.ref.inj (hMo.gc.symm.trans hg100.symm)
                refine lv_iload_n hx hb dX11_rails_64 rfl (lv_at hl 3 rfl) ?_
                refine va_csFq (va_runF (As := [.int ((nI i44))]) (rest := [.ref ((cf i44)), .int x43]) (hK.1 1 _ rfl).2 ⟨hx, hb, hml, hown, hts⟩ (c_Jx4a65c_get_915e3 l D tc z0 _ κ g _ lc 1 eC 25 11 nC mC cf rfl hMo.LC rfl rfl i44 (by omega)) (va_cwF 1 hts gX11_rails_Jx4a65c_get_915e3_f101Jx4a65c rfl rfl rfl (hE.2.2.1 (RJx4a65c, ⟨"java/util/List", "get", "(I)Ljava/lang/Object;"⟩, yJx4a65c_get_915e3) (by decide +kernel)) (by decide +kernel) ⟨Nat.le_of_ble_eq_true rfl, Nat.le_of_ble_eq_true rfl⟩) (z_preV (Xc := []) hK hE hI [] rfl rfl (z_recv hK hI hMo.LC.1 rfl rfl)) rfl rfl hl.1 rfl (lv_room (Nat.le_of_ble_eq_true rfl)) dX11_rails_65 ⟨(Nat.le_of_ble_eq_true rfl), (Nat.le_of_ble_eq_true rfl)⟩) (fun r102 hw103 => ?_)
                obtain rfl := hw103
                have hr104 : κ (cf i44) = 11 := hMo.LC.el (i := i44) (by omega)
                show W p l e9 (headSpec wsX11_rails ({ frames := 3, cells := 0, slots := 0, locals := 64 })).room s m ([.ref p0] : List Value).toArray below meth c _ _ 0 0 (MQ below (va_Qv (fun (u : zS) => u = (L, κ, g)) (fun (u : zS) (t : State) => zB D tc (zA [] L s.heap.size) [] u t) (zA [] L s.heap.size)) ([.ref p0] : List Value).toArray s 0 0 (zA [] L s.heap.size)) (F0 m 70 ls (.ref (cf i44) :: [.ref ((cf i44)), .int x43]))
                refine z_castS (k := 11) hM hI hr104 rfl rfl (by decide +kernel) dX11_rails_70 ?_
                refine z_getN (host := "WattgovernModel") (k := 11) (j := 9) hM hE hI hr104 rfl rfl hinX9 rfl (by decide) (by decide +kernel) (fun _ h9 => h9) dX11_rails_73 (fun v105 hv106 => ?_)
                obtain ⟨i107, rfl⟩ := hv106
                refine lv_aload_n hx hb dX11_rails_76 rfl (lv_at hl 0 rfl) ?_
                refine z_get (k := 13) (j := 3) hM hI hk0 rfl rfl hinX11 rfl (by decide) (by decide +kernel) (fun _ h9 => h9) dX11_rails_77 (fun v108 hv109 => ?_)
                obtain ⟨hg111, i110, rfl, hr112⟩ := hv109
                refine lv_iload_n hx hb dX11_rails_80 rfl (lv_at hl 3 rfl) ?_
                refine z_iald hM hI hr112 rfl rfl (vp_in_nI (by omega) (by omega)) dX11_rails_81 (fun v113 hv114 => ?_)
                refine vp_callSi (va_Run.run (va_runVN (As := [.int i107, .int v113]) (rest := [.int x43]) ⟨hx, hb, hml, hown, hts⟩ (c_X9_need l D tc z0 _ κ g _ ((cf i44)) hr96 i107 v113) ⟨va_cnB 2 hts gX11_rails_X9_need_n234 rfl rfl rfl (hE.1 (.methodLinkNest RX11 234 yX9_need "WattgovernModel") (by decide +kernel) rfl) (hts (.initialized yX9_need.cls) (by decide +kernel)) (by decide +kernel) ⟨Nat.le_of_ble_eq_true rfl, Nat.le_of_ble_eq_true rfl⟩, hts (.instanceMethod yX9_need) (by decide +kernel), hts (.selects RX9 yX9_need yX9_need) (by decide +kernel)⟩ (z_preV (Xc := []) hK hE hI [] rfl rfl (z_recv hK hI hr96 rfl rfl)) rfl rfl hl.1 rfl (lv_room (Nat.le_of_ble_eq_true rfl)) dX11_rails_82 ⟨(Nat.le_of_ble_eq_true rfl), (Nat.le_of_ble_eq_true rfl)⟩)) (fun v115 hw116 => ?_)
                refine va_mmax hx hb (hml.trans hl.1.symm) hown (hts (.methodLink RX11 189 Lib.Math.max.name) (by decide +kernel)) (hts (.static Lib.Math.max.name) (by decide +kernel)) (hts (.initialized "java/lang/Math") (by decide +kernel)) (hts (.code Lib.Math.max.name Lib.Math.max.code 2 (some .int)) (by decide +kernel)) (Nat.le_of_ble_eq_true rfl) (Nat.le_of_ble_eq_true rfl) (Nat.le_of_ble_eq_true rfl) (Nat.le_of_ble_eq_true rfl) dX11_rails_85 ?_
                refine lv_topi (fun v117 e118 => ?_)
                refine lv_istore_n (lv' := [(2, .int v117), (0, .ref p0), (1, .int ((nI i1))), (3, .int ((nI i44)))]) hx hb dX11_rails_88 rfl hl (by decide) rfl (fun ls hl => ?_)
                exact hL89 _ _ v117 hI ls (lv_sub hl [1, 2, 0, 3] rfl)
        exact hL13 (nC + 1) _ _ 500 0 (by first | omega | (simp only [] at *; omega)) (by first | omega | (simp only [] at *; omega)) hI ls (lv_sub hl [2, 3, 1, 0] rfl)
  exact hL2 (3 + 1) _ _ 0 (by first | omega | (simp only [] at *; omega)) (by first | omega | (simp only [] at *; omega)) hI ls (lv_sub hl [1, 0] rfl)

