set_option maxHeartbeats 4000000 in
set_option maxRecDepth 100000 in
theorem c_X11_busyShare (l : Launch) (D : va_G) (tc : Nat → ClassId) (z0 : Nat) (L : List Nat) (κ : Nat → Nat) (g : Nat → Nat → Value) (sz : Nat) (p0 : Nat) (hk0 : κ p0 = 13) (lc eC nC : Nat) (mC : Int32) (cf : Nat → Nat) (lt eT nT : Nat) (mT : Int32) (tf : Nat → Nat) (hMo : zMo κ g z0 p0 lc eC nC mC cf lt eT nT mT tf) : MetD lw_cs l yX11_busyShare wsX11_busyShare ({ frames := 4, cells := 7, slots := 28, locals := 84 }) (zPc D tc z0 [.ref p0] [] (L, κ, g) sz) (va_Qf (fun (r : UInt32) (u : zS) => ∃ v : Int32, u = (L, κ, zup g p0 12 (.int v))) (fun (u : zS) (t : State) => zB D tc (zA [] L sz) [] u t) (zA [] L sz)) 7 28 (zA [] L sz) := by
  refine MetD.ofW (cc := cX11_busyShare) (maxL := 3) (ret := (some .float)) (by decide) rfl ?_
  intro p e9 s m args below meth c s₁ B hml hv hd0
  obtain ⟨rfl, rfl, hK, hE, hI⟩ := hv.opn
  show W p l e9 _ s m _ below meth c s.heap [] 0 0 _ _
  have hx := B.exec
  have hb := B.bytes
  have hr := B.returns
  have hts := atoms_spec (ws := wsX11_busyShare) B.pre
  have hts0 := hts
  have hE0 := hE
  have hown : s.vm.findClass RX11 = some m.cls := findClass_of_methodNamed B.named
  have hlocks := B.notSynchronized
  have hM : zM p s m c cX11_busyShare _ wsX11_busyShare RX11 D tc := ⟨hx, hb, hts, hown, hK⟩
  have hinX11 : ∀ w ∈ wsX110, w ∈ wsX11_busyShare := by decide +kernel
  have hnC := hMo.bC
  have hnT := hMo.bT
  have hl := lv_entry ([.ref p0]) (n := 3) (Nat.le_of_ble_eq_true rfl)
  rw [lg_entry_eq]
  generalize (lg_sl ([.ref p0]) ++ List.replicate (3 - (lg_sl ([.ref p0])).length) Slot.unset).toArray = ls at hl ⊢
  have hl : lv_has ls 3 [(0, .ref p0)] := hl
  refine lv_iconst (v := 0) hx hb dX11_busyShare_0 (by decide) ?_
  refine lv_istore_n (lv' := [(1, .int 0), (0, .ref p0)]) hx hb dX11_busyShare_1 rfl hl (by decide) rfl (fun ls hl => ?_)
  refine lv_iconst (v := 0) hx hb dX11_busyShare_2 (by decide) ?_
  refine lv_istore_n (lv' := [(2, .int 0), (1, .int 0), (0, .ref p0)]) hx hb dX11_busyShare_3 rfl hl (by decide) rfl (fun ls hl => ?_)
  have hL4 : ∀ (n : Nat) (H : Heap) (locs : List Loc) (x1 : Int32)  (i2 : Nat) (hi : i2 ≤ nC) (hn : nC - i2 < n)  (hI : zI D tc (zA [] L s.heap.size) s.heap [] L κ g H locs) (ls : Array Slot) (hl : lv_has ls 3 [(0, .ref p0), (1, .int x1), (2, .int ((nI i2)))]), W p l e9 (headSpec wsX11_busyShare ({ frames := 4, cells := 7, slots := 28, locals := 84 })).room s m ([.ref p0] : List Value).toArray below meth c H locs (0 + 1 * i2) (0 + 4 * i2) (MQD lw_cs below (va_Qf (fun (r : UInt32) (u : zS) => ∃ v : Int32, u = (L, κ, zup g p0 12 (.int v))) (fun (u : zS) (t : State) => zB D tc (zA [] L s.heap.size) [] u t) (zA [] L s.heap.size)) ([.ref p0] : List Value).toArray s 7 28 (zA [] L s.heap.size)) (F0 m 4 ls []) := by
    intro n
    induction n with
    | zero => intro H locs x1 i2 hi hn hI ls hl; exact absurd hn (Nat.not_lt_zero _)
    | succ n ih4 =>
      intro H locs x1 i2 hi hn hI ls hl
      refine lv_iload_n hx hb dX11_busyShare_4 rfl (lv_at hl 2 rfl) ?_
      refine lv_aload_n hx hb dX11_busyShare_5 rfl (lv_at hl 0 rfl) ?_
      refine z_get (k := 13) (j := 0) hM hI hk0 rfl rfl hinX11 rfl (by decide) (by decide +kernel) (fun _ h9 => h9) dX11_busyShare_6 (fun v3 hv4 => ?_)
      obtain ⟨hg6, i5, rfl, hr7⟩ := hv4
      obtain rfl : lc = i5 := Value.ref.inj (hMo.gc.symm.trans hg6.symm)
      refine va_csFi (va_runF (As := []) (rest := [.int ((nI i2))]) (hK.1 1 _ rfl).2 ⟨hx, hb, hml, hown, hts⟩ (c_Jx4a65c_size_8abf5 l D tc z0 _ κ g _ lc 1 eC 25 11 nC mC cf rfl hMo.LC) (va_cwF 0 hts gX11_busyShare_Jx4a65c_size_8abf5_f46Jx4a65c rfl rfl rfl (hE.2.2.1 (RJx4a65c, ⟨"java/util/List", "size", "()I"⟩, yJx4a65c_size_8abf5) (by decide +kernel)) (by decide +kernel) ⟨Nat.le_of_ble_eq_true rfl, Nat.le_of_ble_eq_true rfl⟩) (z_preV (Xc := []) hK hE hI [] rfl rfl (z_recv hK hI hMo.LC.1 rfl rfl)) rfl rfl hl.1 rfl (lv_room (Nat.le_of_ble_eq_true rfl)) dX11_busyShare_9 ⟨(show (0 + 1 * i2) + 0 ≤ 7 from by omega), (show (0 + 4 * i2) + 0 ≤ 28 from by omega)⟩) (fun v8 hw9 => ?_)
      obtain rfl := hw9
      refine lv_icmp_ge (tgt := 39) hx hb dX11_busyShare_14 (by decide) (fun c10 => ?_) (fun c10 => ?_)
      · skip
        have hgec10 : nC ≤ i2 := z_ge (by omega) (by omega) c10
        refine lv_aload_n hx hb dX11_busyShare_39 rfl (lv_at hl 0 rfl) ?_
        refine lv_aload_n hx hb dX11_busyShare_40 rfl (lv_at hl 0 rfl) ?_
        refine z_get (k := 13) (j := 0) hM hI hk0 rfl rfl hinX11 rfl (by decide) (by decide +kernel) (fun _ h9 => h9) dX11_busyShare_41 (fun v11 hv12 => ?_)
        obtain ⟨hg14, i13, rfl, hr15⟩ := hv12
        obtain rfl : lc = i13 := Value.ref.inj (hMo.gc.symm.trans hg14.symm)
        refine va_csFi (va_runF (As := []) (rest := [.ref p0]) (hK.1 1 _ rfl).2 ⟨hx, hb, hml, hown, hts⟩ (c_Jx4a65c_isEmpty_aae02 l D tc z0 _ κ g _ lc 1 eC 25 11 nC mC cf rfl hMo.LC) (va_cwF 0 hts gX11_busyShare_Jx4a65c_isEmpty_aae02_f295Jx4a65c rfl rfl rfl (hE.2.2.1 (RJx4a65c, ⟨"java/util/List", "isEmpty", "()Z"⟩, yJx4a65c_isEmpty_aae02) (by decide +kernel)) (by decide +kernel) ⟨Nat.le_of_ble_eq_true rfl, Nat.le_of_ble_eq_true rfl⟩) (z_preV (Xc := []) hK hE hI [] rfl rfl (z_recv hK hI hMo.LC.1 rfl rfl)) rfl rfl hl.1 rfl (lv_room (Nat.le_of_ble_eq_true rfl)) dX11_busyShare_44 ⟨(show (0 + 1 * i2) + 0 ≤ 7 from by omega), (show (0 + 4 * i2) + 0 ≤ 28 from by omega)⟩) (fun v16 hw17 => ?_)
        rcases hw17 with ⟨rfl, hw17⟩ | ⟨rfl, hw17⟩
        · skip
          refine lv_if_eq (tgt := 56) hx hb dX11_busyShare_49 (by decide) (fun h9 => by first | exact absurd h9 (by decide) | exact absurd (by decide) h9) (fun _ => ?_)
          refine lv_iconst (v := 1) hx hb dX11_busyShare_52 (by decide) ?_
          refine lv_goto (tgt := 57) hx hb dX11_busyShare_53 (by decide) ?_
          refine z_ciX (Xc := []) (wr := []) (rx := []) [] [] rfl rfl rfl rfl (by decide) hI (va_runV (As := [.int 1]) (rest := []) ⟨hx, hb, hml, hown, hts⟩ (c_X11_fails l D tc z0 _ κ g _ p0 hk0 1) (cwV 1 hts gX11_busyShare_X11_fails rfl rfl rfl (by decide +kernel) ⟨Nat.le_of_ble_eq_true rfl, Nat.le_of_ble_eq_true rfl⟩) (z_preV (Xc := []) hK hE hI [] rfl rfl (z_recv hK hI hk0 rfl rfl)) rfl rfl hl.1 rfl (lv_room (Nat.le_of_ble_eq_true rfl)) dX11_busyShare_57 ⟨(show (0 + 1 * i2) + 0 ≤ 7 from by omega), (show (0 + 4 * i2) + 0 ≤ 28 from by omega)⟩) (fun v18 u H locs hw19 hI => ?_)
          obtain ⟨hw19, rfl⟩ := hw19
          have hI : zI D tc _ s.heap [] L κ (zup g p0 12 (.int 1)) _ _ := hI
          have hMo := hMo.upP (j := 12) (v := .int 1) (by decide)
          refine W.widen (k := (0 + 1 * i2)) (n := (0 + 4 * i2)) (by omega) (by omega) ?_
          obtain rfl : v18 = 1 := hw19.trans (by decide)
          refine lv_if_eq (tgt := 67) hx hb dX11_busyShare_60 (by decide) (fun h9 => by first | exact absurd h9 (by decide) | exact absurd (by decide) h9) (fun _ => ?_)
          refine lv_fconst0 hx hb dX11_busyShare_63 ?_
          refine lv_topf (fun v20 e21 => ?_)
          refine lv_goto (tgt := 80) hx hb dX11_busyShare_64 (by decide) ?_
          refine W.base ?_
          refine W.endD hd0 ?_
          refine W.widen (k := 7) (n := 28) (by omega) (by omega) ?_
          exact W.fret (v := v20) hx hb hr (fun t ht hW => ⟨⟨_, (L, κ, (zup g p0 12 (.int 1))), rfl, ⟨_, rfl⟩, z_end hK hI ht hW⟩, z_F hI ht⟩) (z_locs hI) dX11_busyShare_80
        · skip
          refine lv_if_eq (tgt := 56) hx hb dX11_busyShare_49 (by decide) (fun _ => ?_) (fun h9 => by first | exact absurd h9 (by decide) | exact absurd (by decide) h9)
          refine lv_iconst (v := 0) hx hb dX11_busyShare_56 (by decide) ?_
          refine z_ciX (Xc := []) (wr := []) (rx := []) [] [] rfl rfl rfl rfl (by decide) hI (va_runV (As := [.int 0]) (rest := []) ⟨hx, hb, hml, hown, hts⟩ (c_X11_fails l D tc z0 _ κ g _ p0 hk0 0) (cwV 1 hts gX11_busyShare_X11_fails rfl rfl rfl (by decide +kernel) ⟨Nat.le_of_ble_eq_true rfl, Nat.le_of_ble_eq_true rfl⟩) (z_preV (Xc := []) hK hE hI [] rfl rfl (z_recv hK hI hk0 rfl rfl)) rfl rfl hl.1 rfl (lv_room (Nat.le_of_ble_eq_true rfl)) dX11_busyShare_57 ⟨(show (0 + 1 * i2) + 0 ≤ 7 from by omega), (show (0 + 4 * i2) + 0 ≤ 28 from by omega)⟩) (fun v22 u H locs hw23 hI => ?_)
          obtain ⟨hw23, rfl⟩ := hw23
          have hI : zI D tc _ s.heap [] L κ (zup g p0 12 (.int 0)) _ _ := hI
          have hMo := hMo.upP (j := 12) (v := .int 0) (by decide)
          refine W.widen (k := (0 + 1 * i2)) (n := (0 + 4 * i2)) (by omega) (by omega) ?_
          obtain rfl : v22 = 0 := hw23.trans (by decide)
          refine lv_if_eq (tgt := 67) hx hb dX11_busyShare_60 (by decide) (fun _ => ?_) (fun h9 => by first | exact absurd h9 (by decide) | exact absurd (by decide) h9)
          refine lv_iload_n hx hb dX11_busyShare_67 rfl (lv_at hl 1 rfl) ?_
          refine lv_i2f hx hb dX11_busyShare_68 ?_
          refine lv_topf (fun v24 e25 => ?_)
          refine lv_aload_n hx hb dX11_busyShare_69 rfl (lv_at hl 0 rfl) ?_
          refine z_get (k := 13) (j := 0) hM hI hk0 rfl rfl hinX11 rfl (by decide) (by decide +kernel) (fun _ h9 => h9) dX11_busyShare_70 (fun v26 hv27 => ?_)
          obtain ⟨hg29, i28, rfl, hr30⟩ := hv27
          obtain rfl : lc = i28 := Value.ref.inj (hMo.gc.symm.trans hg29.symm)
          refine va_csFi (va_runF (As := []) (rest := [.float v24]) (hK.1 1 _ rfl).2 ⟨hx, hb, hml, hown, hts⟩ (c_Jx4a65c_size_8abf5 l D tc z0 _ κ (zup g p0 12 (.int 0)) _ lc 1 eC 25 11 nC mC cf rfl hMo.LC) (va_cwF 0 hts gX11_busyShare_Jx4a65c_size_8abf5_f46Jx4a65c rfl rfl rfl (hE.2.2.1 (RJx4a65c, ⟨"java/util/List", "size", "()I"⟩, yJx4a65c_size_8abf5) (by decide +kernel)) (by decide +kernel) ⟨Nat.le_of_ble_eq_true rfl, Nat.le_of_ble_eq_true rfl⟩) (z_preV (Xc := []) hK hE hI [] rfl rfl (z_recv hK hI hMo.LC.1 rfl rfl)) rfl rfl hl.1 rfl (lv_room (Nat.le_of_ble_eq_true rfl)) dX11_busyShare_73 ⟨(show (0 + 1 * i2) + 0 ≤ 7 from by omega), (show (0 + 4 * i2) + 0 ≤ 28 from by omega)⟩) (fun v31 hw32 => ?_)
          obtain rfl := hw32
          refine lv_i2f hx hb dX11_busyShare_78 ?_
          refine lv_topf (fun v33 e34 => ?_)
          refine W.base ?_
          refine lv_fdiv_any hd0 lw_bits hx hb dX11_busyShare_79 (fun r35 d36 _ hd37 => ?_)
          have hts := dr_words hts0 d36
          have hK : va_K D vwCl (zTy tc) (s.setDrawn d36) := hK
          have hE : zE z0 (zA [] L s.heap.size) (s.setDrawn d36) := hE0.next (locs := []) (State.WarmedH.refl s) va_S.rf (fun _ h => h)
          have hown : (s.setDrawn d36).vm.findClass RX11 = some m.cls := hown
          have hM : zM p (s.setDrawn d36) m c cX11_busyShare _ wsX11_busyShare RX11 D tc := ⟨hx, hb, hts, hown, hK⟩
          have hI : zI D tc (zA [] L s.heap.size) (s.setDrawn d36).heap [] L κ (zup g p0 12 (.int 0)) _ _ := hI
          refine W.endD hd37 ?_
          refine W.widen (k := 7) (n := 28) (by omega) (by omega) ?_
          exact W.fret (v := r35) hx hb hr (fun t ht hW => ⟨⟨_, (L, κ, (zup g p0 12 (.int 0))), rfl, ⟨_, rfl⟩, z_end hK hI ht hW⟩, z_F hI ht⟩) (z_locs hI) dX11_busyShare_80
      · skip
        have hltc10 : i2 < nC := z_lt (by omega) c10
        refine lv_iload_n hx hb dX11_busyShare_17 rfl (lv_at hl 1 rfl) ?_
        refine lv_aload_n hx hb dX11_busyShare_18 rfl (lv_at hl 0 rfl) ?_
        refine lv_iload_n hx hb dX11_busyShare_19 rfl (lv_at hl 2 rfl) ?_
        refine z_cqX (sel := fun u : zS => u) (rxf := fun _ => []) (Xc := []) (wr := []) [] [] rfl rfl rfl rfl (by decide) hI (va_runV (As := [.int ((nI i2))]) (rest := [.int x1]) ⟨hx, hb, hml, hown, hts⟩ (c_X11_running l D tc z0 _ κ g _ p0 hk0 ((nI i2)) lc eC nC mC cf lt eT nT mT tf hMo) (cwV 1 hts gX11_busyShare_X11_running rfl rfl rfl (by decide +kernel) ⟨Nat.le_of_ble_eq_true rfl, Nat.le_of_ble_eq_true rfl⟩) (z_preV (Xc := []) hK hE hI [] rfl rfl (z_recv hK hI hk0 rfl rfl)) rfl rfl hl.1 rfl (lv_room (Nat.le_of_ble_eq_true rfl)) dX11_busyShare_20 ⟨(show (0 + 1 * i2) + 1 ≤ 7 from by omega), (show (0 + 4 * i2) + 4 ≤ 28 from by omega)⟩) (fun v38 u H locs hw39 hI => ?_)
        obtain ⟨hw39, rfl⟩ := hw39
        have hI : zI D tc _ s.heap [] L κ g _ _ := hI
        refine W.widen (k := (1 + 1 * i2)) (n := (4 + 4 * i2)) (by omega) (by omega) ?_
        have hL31 : ∀ (H : Heap) (locs : List Loc) (y42 : Int32)   (hI : zI D tc (zA [] L s.heap.size) s.heap [] L κ g H locs) (ls : Array Slot) (hl : lv_has ls 3 [(0, .ref p0), (2, .int ((nI i2)))]), W p l e9 (headSpec wsX11_busyShare ({ frames := 4, cells := 7, slots := 28, locals := 84 })).room s m ([.ref p0] : List Value).toArray below meth c H locs (1 + 1 * i2) (4 + 4 * i2) (MQD lw_cs below (va_Qf (fun (r : UInt32) (u : zS) => ∃ v : Int32, u = (L, κ, zup g p0 12 (.int v))) (fun (u : zS) (t : State) => zB D tc (zA [] L s.heap.size) [] u t) (zA [] L s.heap.size)) ([.ref p0] : List Value).toArray s 7 28 (zA [] L s.heap.size)) (F0 m 31 ls [.int y42, .int x1]) := by
          intro H locs y42 hI ls hl
          refine lv_iadd hx hb dX11_busyShare_31 ?_
          refine lv_topi (fun v43 e44 => ?_)
          refine lv_istore_n (lv' := [(1, .int v43), (0, .ref p0), (2, .int ((nI i2)))]) hx hb dX11_busyShare_32 rfl hl (by decide) rfl (fun ls hl => ?_)
          refine lv_iinc (v := nI (i2 + 1)) (lv' := [(2, .int ((nI (i2 + 1)))), (1, .int v43), (0, .ref p0)]) hx hb dX11_busyShare_33 hl (k := 2) rfl (z_inc i2) (by decide) rfl (fun ls hl => ?_)
          refine lv_goto (tgt := 4) hx hb dX11_busyShare_36 (by decide) ?_
          refine W.widen (k := (0 + 1 * ((i2 + 1)))) (n := (0 + 4 * ((i2 + 1)))) (by omega) (by omega) ?_
          exact ih4 _ _ v43 ((i2 + 1)) (by first | omega | (simp only [] at *; omega)) (by first | omega | (simp only [] at *; omega)) hI ls (lv_sub hl [2, 1, 0] rfl)
        rcases v38 with _ | r40
        · show W p l e9 (headSpec wsX11_busyShare ({ frames := 4, cells := 7, slots := 28, locals := 84 })).room s m ([.ref p0] : List Value).toArray below meth c _ _ _ _ (MQD lw_cs below (va_Qf (fun (r : UInt32) (u : zS) => ∃ v : Int32, u = (L, κ, zup g p0 12 (.int v))) (fun (u : zS) (t : State) => zB D tc (zA [] L s.heap.size) [] u t) (zA [] L s.heap.size)) ([.ref p0] : List Value).toArray s 7 28 (zA [] L s.heap.size)) (F0 m 23 ls (.null :: [.int x1]))
          refine W.widen (k := (1 + 1 * i2)) (n := (4 + 4 * i2)) (Nat.le_refl _) (Nat.le_refl _) ?_
          refine lv_ifnullN (tgt := 30) hx hb dX11_busyShare_23 (by decide) ?_
          refine lv_iconst (v := 0) hx hb dX11_busyShare_30 (by decide) ?_
          exact hL31 _ _ 0 hI ls (lv_sub hl [0, 2] rfl)
        · show W p l e9 (headSpec wsX11_busyShare ({ frames := 4, cells := 7, slots := 28, locals := 84 })).room s m ([.ref p0] : List Value).toArray below meth c _ _ _ _ (MQD lw_cs below (va_Qf (fun (r : UInt32) (u : zS) => ∃ v : Int32, u = (L, κ, zup g p0 12 (.int v))) (fun (u : zS) (t : State) => zB D tc (zA [] L s.heap.size) [] u t) (zA [] L s.heap.size)) ([.ref p0] : List Value).toArray s 7 28 (zA [] L s.heap.size)) (F0 m 23 ls (.ref r40 :: [.int x1]))
          refine W.widen (k := (1 + 1 * i2)) (n := (4 + 4 * i2)) (Nat.le_refl _) (Nat.le_refl _) ?_
          have hr41 : κ r40 = 12 := hw39 _ rfl
          refine lv_ifnull hx hb dX11_busyShare_23 ?_
          refine lv_iconst (v := 1) hx hb dX11_busyShare_26 (by decide) ?_
          refine lv_goto (tgt := 31) hx hb dX11_busyShare_27 (by decide) ?_
          exact hL31 _ _ 1 hI ls (lv_sub hl [0, 2] rfl)
  refine W.widen (k := (0 + 1 * 0)) (n := (0 + 4 * 0)) (by omega) (by omega) ?_
  exact hL4 (nC + 1) _ _ 0 0 (by first | omega | (simp only [] at *; omega)) (by first | omega | (simp only [] at *; omega)) hI ls (lv_sub hl [2, 1, 0] rfl)

set_option maxHeartbeats 4000000 in
set_option maxRecDepth 100000 in
theorem c_X11_meanDegrees (l : Launch) (D : va_G) (tc : Nat → ClassId) (z0 : Nat) (L : List Nat) (κ : Nat → Nat) (g : Nat → Nat → Value) (sz : Nat) (p0 : Nat) (hk0 : κ p0 = 13) (lc eC nC : Nat) (mC : Int32) (cf : Nat → Nat) (lt eT nT : Nat) (mT : Int32) (tf : Nat → Nat) (hMo : zMo κ g z0 p0 lc eC nC mC cf lt eT nT mT tf) : MetD lw_cs l yX11_meanDegrees wsX11_meanDegrees ({ frames := 3, cells := 1, slots := 4, locals := 61 }) (zPc D tc z0 [.ref p0] [] (L, κ, g) sz) (va_Qd (fun (r : UInt64) (u : zS) => ∃ v : Int32, u = (L, κ, zup g p0 12 (.int v))) (fun (u : zS) (t : State) => zB D tc (zA [] L sz) [] u t) (zA [] L sz)) 1 4 (zA [] L sz) := by
  refine MetD.ofW (cc := cX11_meanDegrees) (maxL := 4) (ret := (some .double)) (by decide) rfl ?_
  intro p e9 s m args below meth c s₁ B hml hv hd0
  obtain ⟨rfl, rfl, hK, hE, hI⟩ := hv.opn
  show W p l e9 _ s m _ below meth c s.heap [] 0 0 _ _
  have hx := B.exec
  have hb := B.bytes
  have hr := B.returns
  have hts := atoms_spec (ws := wsX11_meanDegrees) B.pre
  have hts0 := hts
  have hE0 := hE
  have hown : s.vm.findClass RX11 = some m.cls := findClass_of_methodNamed B.named
  have hlocks := B.notSynchronized
  have hM : zM p s m c cX11_meanDegrees _ wsX11_meanDegrees RX11 D tc := ⟨hx, hb, hts, hown, hK⟩
  have hinX11 : ∀ w ∈ wsX110, w ∈ wsX11_meanDegrees := by decide +kernel
  have hnC := hMo.bC
  have hnT := hMo.bT
  have hl := lv_entry ([.ref p0]) (n := 4) (Nat.le_of_ble_eq_true rfl)
  rw [lg_entry_eq]
  generalize (lg_sl ([.ref p0]) ++ List.replicate (4 - (lg_sl ([.ref p0])).length) Slot.unset).toArray = ls at hl ⊢
  have hl : lv_has ls 4 [(0, .ref p0)] := hl
  refine lv_iconst (v := 0) hx hb dX11_meanDegrees_0 (by decide) ?_
  refine lv_istore_n (lv' := [(1, .int 0), (0, .ref p0)]) hx hb dX11_meanDegrees_1 rfl hl (by decide) rfl (fun ls hl => ?_)
  refine lv_aload_n hx hb dX11_meanDegrees_2 rfl (lv_at hl 1 rfl) ?_
  refine z_get (k := 13) (j := 0) hM hI hk0 rfl rfl hinX11 rfl (by decide) (by decide +kernel) (fun _ h9 => h9) dX11_meanDegrees_3 (fun v1 hv2 => ?_)
  obtain ⟨hg4, i3, rfl, hr5⟩ := hv2
  obtain rfl : lc = i3 := Value.ref.inj (hMo.gc.symm.trans hg4.symm)
  refine z_qFX (sel := fun u : Nat × zS => u.2) (rxf := fun u : Nat × zS => [(u.1, .inr (0, [.int (nI 0), .int (-1), .int mC, .ref lc]))]) (Xc := []) (wr := []) [] [] rfl rfl rfl rfl (by decide) hI (va_runF (As := []) (rest := []) (hK.1 1 _ rfl).2 ⟨hx, hb, hml, hown, hts⟩ (c_Jx4a65c_iterator_32c93 l D tc z0 _ κ g _ lc 1 eC 25 11 nC mC cf rfl hMo.LC) (va_cwF 0 hts gX11_meanDegrees_Jx4a65c_iterator_32c93_f56Jx4a65c rfl rfl rfl (hE.2.2.1 (RJx4a65c, ⟨"java/util/List", "iterator", "()Ljava/util/Iterator;"⟩, yJx4a65c_iterator_32c93) (by decide +kernel)) (by decide +kernel) ⟨Nat.le_of_ble_eq_true rfl, Nat.le_of_ble_eq_true rfl⟩) (z_preV (Xc := []) hK hE hI [] rfl rfl (z_recv hK hI hMo.LC.1 rfl rfl)) rfl rfl hl.1 rfl (lv_room (Nat.le_of_ble_eq_true rfl)) dX11_meanDegrees_6 ⟨(Nat.le_of_ble_eq_true rfl), (Nat.le_of_ble_eq_true rfl)⟩) (fun _ u H locs hw7 hI => ?_)
  obtain ⟨q6, u⟩ := u
  obtain ⟨rfl, hw7⟩ := hw7
  dsimp only at hw7 hI
  subst hw7
  have hI : zI D tc _ s.heap [(q6, .inr (0, [.int (nI 0), .int (-1), .int mC, .ref lc]))] L κ g _ _ := hI
  show W p l e9 (headSpec wsX11_meanDegrees ({ frames := 3, cells := 1, slots := 4, locals := 61 })).room s m ([.ref p0] : List Value).toArray below meth c _ _ 1 4 (MQD lw_cs below (va_Qd (fun (r : UInt64) (u : zS) => ∃ v : Int32, u = (L, κ, zup g p0 12 (.int v))) (fun (u : zS) (t : State) => zB D tc (zA [] L s.heap.size) [] u t) (zA [] L s.heap.size)) ([.ref p0] : List Value).toArray s 1 4 (zA [] L s.heap.size)) (F0 m 11 ls (.ref q6 :: []))
  refine lv_astore_n (lv' := [(2, .ref q6), (1, .int 0), (0, .ref p0)]) hx hb dX11_meanDegrees_11 rfl hl (by decide) rfl (fun ls hl => ?_)
  have hL12 : ∀ (n : Nat) (H : Heap) (locs : List Loc) (x8 : Int32)  (i9 : Nat) (hi : i9 ≤ nC) (hn : nC - i9 < n) (lr10 : Int32)  (hI : zI D tc (zA [] L s.heap.size) s.heap [(q6, .inr (0, [.int (nI i9), .int lr10, .int mC, .ref lc]))] L κ g H locs) (ls : Array Slot) (hl : lv_has ls 4 [(0, .ref p0), (1, .int x8), (2, .ref q6)]), W p l e9 (headSpec wsX11_meanDegrees ({ frames := 3, cells := 1, slots := 4, locals := 61 })).room s m ([.ref p0] : List Value).toArray below meth c H locs 1 4 (MQD lw_cs below (va_Qd (fun (r : UInt64) (u : zS) => ∃ v : Int32, u = (L, κ, zup g p0 12 (.int v))) (fun (u : zS) (t : State) => zB D tc (zA [] L s.heap.size) [] u t) (zA [] L s.heap.size)) ([.ref p0] : List Value).toArray s 1 4 (zA [] L s.heap.size)) (F0 m 12 ls []) := by
    intro n
    induction n with
    | zero => intro H locs x8 i9 hi hn lr10 hI ls hl; exact absurd hn (Nat.not_lt_zero _)
    | succ n ih12 =>
      intro H locs x8 i9 hi hn lr10 hI ls hl
      refine lv_aload_n hx hb dX11_meanDegrees_12 rfl (lv_at hl 2 rfl) ?_
      refine va_csFi (va_runF (As := []) (rest := []) (hK.1 0 _ rfl).2 ⟨hx, hb, hml, hown, hts⟩ (c_Jx35411_hasNext_aae02 l D tc z0 _ κ g _ lc 1 eC 25 11 nC mC cf rfl hMo.LC q6 i9 lr10 (by omega)) (va_cwF 0 hts gX11_meanDegrees_Jx35411_hasNext_aae02_f60Jx35411 rfl rfl rfl (hE.2.2.1 (RJx35411, ⟨"java/util/Iterator", "hasNext", "()Z"⟩, yJx35411_hasNext_aae02) (by decide +kernel)) (by decide +kernel) ⟨Nat.le_of_ble_eq_true rfl, Nat.le_of_ble_eq_true rfl⟩) (z_preV (Xc := [(q6, .inr (0, [.int (nI i9), .int lr10, .int mC, .ref lc]))]) hK hE hI [0] rfl rfl (z_recvX hK hI (i := 0) rfl rfl)) rfl rfl hl.1 rfl (lv_room (Nat.le_of_ble_eq_true rfl)) dX11_meanDegrees_13 ⟨(Nat.le_of_ble_eq_true rfl), (Nat.le_of_ble_eq_true rfl)⟩) (fun v12 hw11 => ?_)
      rcases hw11 with ⟨rfl, hlt13⟩ | ⟨rfl, hlt13⟩
      · skip
        refine lv_if_eq (tgt := 41) hx hb dX11_meanDegrees_18 (by decide) (fun h9 => by first | exact absurd h9 (by decide) | exact absurd (by decide) h9) (fun _ => ?_)
        refine lv_aload_n hx hb dX11_meanDegrees_21 rfl (lv_at hl 2 rfl) ?_
        refine z_qFX (sel := fun u : zS => u) (rxf := fun _ => [(q6, .inr (0, [.int (nI ((i9 + 1))), .int ((nI i9)), .int mC, .ref lc]))]) (Xc := [(q6, .inr (0, [.int (nI i9), .int lr10, .int mC, .ref lc]))]) (wr := []) [0] [] rfl rfl rfl rfl (by decide) hI (va_runF (As := []) (rest := []) (hK.1 0 _ rfl).2 ⟨hx, hb, hml, hown, hts⟩ (c_Jx35411_next_0502b l D tc z0 _ κ g _ lc 1 eC 25 11 nC mC cf rfl hMo.LC rfl rfl q6 i9 lr10 (by omega)) (va_cwF 0 hts gX11_meanDegrees_Jx35411_next_0502b_f66Jx35411 rfl rfl rfl (hE.2.2.1 (RJx35411, ⟨"java/util/Iterator", "next", "()Ljava/lang/Object;"⟩, yJx35411_next_0502b) (by decide +kernel)) (by decide +kernel) ⟨Nat.le_of_ble_eq_true rfl, Nat.le_of_ble_eq_true rfl⟩) (z_preV (Xc := [(q6, .inr (0, [.int (nI i9), .int lr10, .int mC, .ref lc]))]) hK hE hI [0] rfl rfl (z_recvX hK hI (i := 0) rfl rfl)) rfl rfl hl.1 rfl (lv_room (Nat.le_of_ble_eq_true rfl)) dX11_meanDegrees_22 ⟨(Nat.le_of_ble_eq_true rfl), (Nat.le_of_ble_eq_true rfl)⟩) (fun v15 u H locs hw14 hI => ?_)
        obtain ⟨rfl, rfl⟩ := hw14
        have hI : zI D tc _ s.heap [(q6, .inr (0, [.int (nI ((i9 + 1))), .int ((nI i9)), .int mC, .ref lc]))] L κ g _ _ := hI
        have hr16 : κ (cf i9) = 11 := hMo.LC.el (i := i9) (by omega)
        show W p l e9 (headSpec wsX11_meanDegrees ({ frames := 3, cells := 1, slots := 4, locals := 61 })).room s m ([.ref p0] : List Value).toArray below meth c _ _ _ _ (MQD lw_cs below (va_Qd (fun (r : UInt64) (u : zS) => ∃ v : Int32, u = (L, κ, zup g p0 12 (.int v))) (fun (u : zS) (t : State) => zB D tc (zA [] L s.heap.size) [] u t) (zA [] L s.heap.size)) ([.ref p0] : List Value).toArray s 1 4 (zA [] L s.heap.size)) (F0 m 27 ls (.ref (cf i9) :: []))
        refine W.widen (k := 1) (n := 4) (Nat.le_refl _) (Nat.le_refl _) ?_
        refine z_castS (k := 11) hM hI hr16 rfl rfl (by decide +kernel) dX11_meanDegrees_27 ?_
        refine lv_astore_n (lv' := [(3, .ref ((cf i9))), (0, .ref p0), (1, .int x8), (2, .ref q6)]) hx hb dX11_meanDegrees_30 rfl hl (by decide) rfl (fun ls hl => ?_)
        refine lv_iload_n hx hb dX11_meanDegrees_31 rfl (lv_at hl 2 rfl) ?_
        refine lv_aload_n hx hb dX11_meanDegrees_32 rfl (lv_at hl 0 rfl) ?_
        refine vp_callSi (va_Run.run (va_runVN (As := []) (rest := [.int x8]) ⟨hx, hb, hml, hown, hts⟩ (c_X9_degrees l D tc z0 _ κ g _ ((cf i9)) hr16) ⟨va_cnB 0 hts gX11_meanDegrees_X9_degrees_n133 rfl rfl rfl (hE.1 (.methodLinkNest RX11 133 yX9_degrees "WattgovernModel") (by decide +kernel) rfl) (hts (.initialized yX9_degrees.cls) (by decide +kernel)) (by decide +kernel) ⟨Nat.le_of_ble_eq_true rfl, Nat.le_of_ble_eq_true rfl⟩, hts (.instanceMethod yX9_degrees) (by decide +kernel), hts (.selects RX9 yX9_degrees yX9_degrees) (by decide +kernel)⟩ (z_preV (Xc := []) hK hE hI [] rfl rfl (z_recv hK hI hr16 rfl rfl)) rfl rfl hl.1 rfl (lv_room (Nat.le_of_ble_eq_true rfl)) dX11_meanDegrees_33 ⟨(Nat.le_of_ble_eq_true rfl), (Nat.le_of_ble_eq_true rfl)⟩)) (fun v17 hw18 => ?_)
        refine lv_iadd hx hb dX11_meanDegrees_36 ?_
        refine lv_topi (fun v19 e20 => ?_)
        refine lv_istore_n (lv' := [(1, .int v19), (3, .ref ((cf i9))), (0, .ref p0), (2, .ref q6)]) hx hb dX11_meanDegrees_37 rfl hl (by decide) rfl (fun ls hl => ?_)
        refine lv_goto (tgt := 12) hx hb dX11_meanDegrees_38 (by decide) ?_
        exact ih12 _ _ v19 ((i9 + 1)) (by first | omega | (simp only [] at *; omega)) (by first | omega | (simp only [] at *; omega)) ((nI i9)) hI ls (lv_sub hl [2, 0, 3] rfl)
      · skip
        have hI := z_part (X' := []) [] rfl rfl hI
        refine lv_if_eq (tgt := 41) hx hb dX11_meanDegrees_18 (by decide) (fun _ => ?_) (fun h9 => by first | exact absurd h9 (by decide) | exact absurd (by decide) h9)
        refine lv_aload_n hx hb dX11_meanDegrees_41 rfl (lv_at hl 0 rfl) ?_
        refine lv_aload_n hx hb dX11_meanDegrees_42 rfl (lv_at hl 0 rfl) ?_
        refine z_get (k := 13) (j := 0) hM hI hk0 rfl rfl hinX11 rfl (by decide) (by decide +kernel) (fun _ h9 => h9) dX11_meanDegrees_43 (fun v21 hv22 => ?_)
        obtain ⟨hg24, i23, rfl, hr25⟩ := hv22
        obtain rfl : lc = i23 := Value.ref.inj (hMo.gc.symm.trans hg24.symm)
        refine va_csFi (va_runF (As := []) (rest := [.ref p0]) (hK.1 1 _ rfl).2 ⟨hx, hb, hml, hown, hts⟩ (c_Jx4a65c_isEmpty_aae02 l D tc z0 _ κ g _ lc 1 eC 25 11 nC mC cf rfl hMo.LC) (va_cwF 0 hts gX11_meanDegrees_Jx4a65c_isEmpty_aae02_f295Jx4a65c rfl rfl rfl (hE.2.2.1 (RJx4a65c, ⟨"java/util/List", "isEmpty", "()Z"⟩, yJx4a65c_isEmpty_aae02) (by decide +kernel)) (by decide +kernel) ⟨Nat.le_of_ble_eq_true rfl, Nat.le_of_ble_eq_true rfl⟩) (z_preV (Xc := []) hK hE hI [] rfl rfl (z_recv hK hI hMo.LC.1 rfl rfl)) rfl rfl hl.1 rfl (lv_room (Nat.le_of_ble_eq_true rfl)) dX11_meanDegrees_46 ⟨(Nat.le_of_ble_eq_true rfl), (Nat.le_of_ble_eq_true rfl)⟩) (fun v26 hw27 => ?_)
        rcases hw27 with ⟨rfl, hw27⟩ | ⟨rfl, hw27⟩
        · skip
          refine lv_if_eq (tgt := 58) hx hb dX11_meanDegrees_51 (by decide) (fun h9 => by first | exact absurd h9 (by decide) | exact absurd (by decide) h9) (fun _ => ?_)
          refine lv_iconst (v := 1) hx hb dX11_meanDegrees_54 (by decide) ?_
          refine lv_goto (tgt := 59) hx hb dX11_meanDegrees_55 (by decide) ?_
          refine z_ciX (Xc := []) (wr := []) (rx := []) [] [] rfl rfl rfl rfl (by decide) hI (va_runV (As := [.int 1]) (rest := []) ⟨hx, hb, hml, hown, hts⟩ (c_X11_fails l D tc z0 _ κ g _ p0 hk0 1) (cwV 1 hts gX11_meanDegrees_X11_fails rfl rfl rfl (by decide +kernel) ⟨Nat.le_of_ble_eq_true rfl, Nat.le_of_ble_eq_true rfl⟩) (z_preV (Xc := []) hK hE hI [] rfl rfl (z_recv hK hI hk0 rfl rfl)) rfl rfl hl.1 rfl (lv_room (Nat.le_of_ble_eq_true rfl)) dX11_meanDegrees_59 ⟨(Nat.le_of_ble_eq_true rfl), (Nat.le_of_ble_eq_true rfl)⟩) (fun v28 u H locs hw29 hI => ?_)
          obtain ⟨hw29, rfl⟩ := hw29
          have hI : zI D tc _ s.heap [] L κ (zup g p0 12 (.int 1)) _ _ := hI
          have hMo := hMo.upP (j := 12) (v := .int 1) (by decide)
          obtain rfl : v28 = 1 := hw29.trans (by decide)
          refine lv_if_eq (tgt := 69) hx hb dX11_meanDegrees_62 (by decide) (fun h9 => by first | exact absurd h9 (by decide) | exact absurd (by decide) h9) (fun _ => ?_)
          refine lv_dconst0 hx hb dX11_meanDegrees_65 ?_
          refine lv_topd (fun v30 e31 => ?_)
          refine lv_goto (tgt := 82) hx hb dX11_meanDegrees_66 (by decide) ?_
          refine W.base ?_
          refine W.endD hd0 ?_
          refine W.widen (k := 1) (n := 4) (Nat.le_of_ble_eq_true rfl) (Nat.le_of_ble_eq_true rfl) ?_
          exact W.dret (v := v30) hx hb hr (fun t ht hW => ⟨⟨_, (L, κ, (zup g p0 12 (.int 1))), rfl, ⟨_, rfl⟩, z_end hK hI ht hW⟩, z_F hI ht⟩) (z_locs hI) dX11_meanDegrees_82
        · skip
          refine lv_if_eq (tgt := 58) hx hb dX11_meanDegrees_51 (by decide) (fun _ => ?_) (fun h9 => by first | exact absurd h9 (by decide) | exact absurd (by decide) h9)
          refine lv_iconst (v := 0) hx hb dX11_meanDegrees_58 (by decide) ?_
          refine z_ciX (Xc := []) (wr := []) (rx := []) [] [] rfl rfl rfl rfl (by decide) hI (va_runV (As := [.int 0]) (rest := []) ⟨hx, hb, hml, hown, hts⟩ (c_X11_fails l D tc z0 _ κ g _ p0 hk0 0) (cwV 1 hts gX11_meanDegrees_X11_fails rfl rfl rfl (by decide +kernel) ⟨Nat.le_of_ble_eq_true rfl, Nat.le_of_ble_eq_true rfl⟩) (z_preV (Xc := []) hK hE hI [] rfl rfl (z_recv hK hI hk0 rfl rfl)) rfl rfl hl.1 rfl (lv_room (Nat.le_of_ble_eq_true rfl)) dX11_meanDegrees_59 ⟨(Nat.le_of_ble_eq_true rfl), (Nat.le_of_ble_eq_true rfl)⟩) (fun v32 u H locs hw33 hI => ?_)
          obtain ⟨hw33, rfl⟩ := hw33
          have hI : zI D tc _ s.heap [] L κ (zup g p0 12 (.int 0)) _ _ := hI
          have hMo := hMo.upP (j := 12) (v := .int 0) (by decide)
          obtain rfl : v32 = 0 := hw33.trans (by decide)
          refine lv_if_eq (tgt := 69) hx hb dX11_meanDegrees_62 (by decide) (fun _ => ?_) (fun h9 => by first | exact absurd h9 (by decide) | exact absurd (by decide) h9)
          refine lv_iload_n hx hb dX11_meanDegrees_69 rfl (lv_at hl 1 rfl) ?_
          refine lv_i2d hx hb dX11_meanDegrees_70 ?_
          refine lv_topd (fun v34 e35 => ?_)
          refine lv_aload_n hx hb dX11_meanDegrees_71 rfl (lv_at hl 0 rfl) ?_
          refine z_get (k := 13) (j := 0) hM hI hk0 rfl rfl hinX11 rfl (by decide) (by decide +kernel) (fun _ h9 => h9) dX11_meanDegrees_72 (fun v36 hv37 => ?_)
          obtain ⟨hg39, i38, rfl, hr40⟩ := hv37
          obtain rfl : lc = i38 := Value.ref.inj (hMo.gc.symm.trans hg39.symm)
          refine va_csFi (va_runF (As := []) (rest := [.double v34]) (hK.1 1 _ rfl).2 ⟨hx, hb, hml, hown, hts⟩ (c_Jx4a65c_size_8abf5 l D tc z0 _ κ (zup g p0 12 (.int 0)) _ lc 1 eC 25 11 nC mC cf rfl hMo.LC) (va_cwF 0 hts gX11_meanDegrees_Jx4a65c_size_8abf5_f46Jx4a65c rfl rfl rfl (hE.2.2.1 (RJx4a65c, ⟨"java/util/List", "size", "()I"⟩, yJx4a65c_size_8abf5) (by decide +kernel)) (by decide +kernel) ⟨Nat.le_of_ble_eq_true rfl, Nat.le_of_ble_eq_true rfl⟩) (z_preV (Xc := []) hK hE hI [] rfl rfl (z_recv hK hI hMo.LC.1 rfl rfl)) rfl rfl hl.1 rfl (lv_room (Nat.le_of_ble_eq_true rfl)) dX11_meanDegrees_75 ⟨(Nat.le_of_ble_eq_true rfl), (Nat.le_of_ble_eq_true rfl)⟩) (fun v41 hw42 => ?_)
          obtain rfl := hw42
          refine lv_i2d hx hb dX11_meanDegrees_80 ?_
          refine lv_topd (fun v43 e44 => ?_)
          refine W.base ?_
          refine lv_ddiv_any hd0 lw_bits hx hb dX11_meanDegrees_81 (fun r45 d46 _ hd47 => ?_)
          have hts := dr_words hts0 d46
          have hK : va_K D vwCl (zTy tc) (s.setDrawn d46) := hK
          have hE : zE z0 (zA [] L s.heap.size) (s.setDrawn d46) := hE0.next (locs := []) (State.WarmedH.refl s) va_S.rf (fun _ h => h)
          have hown : (s.setDrawn d46).vm.findClass RX11 = some m.cls := hown
          have hM : zM p (s.setDrawn d46) m c cX11_meanDegrees _ wsX11_meanDegrees RX11 D tc := ⟨hx, hb, hts, hown, hK⟩
          have hI : zI D tc (zA [] L s.heap.size) (s.setDrawn d46).heap [] L κ (zup g p0 12 (.int 0)) _ _ := hI
          refine W.endD hd47 ?_
          refine W.widen (k := 1) (n := 4) (Nat.le_of_ble_eq_true rfl) (Nat.le_of_ble_eq_true rfl) ?_
          exact W.dret (v := r45) hx hb hr (fun t ht hW => ⟨⟨_, (L, κ, (zup g p0 12 (.int 0))), rfl, ⟨_, rfl⟩, z_end hK hI ht hW⟩, z_F hI ht⟩) (z_locs hI) dX11_meanDegrees_82
  exact hL12 (nC + 1) _ _ 0 0 (by first | omega | (simp only [] at *; omega)) (by first | omega | (simp only [] at *; omega)) (-1) hI ls (lv_sub hl [2, 1, 0] rfl)

