set_option maxHeartbeats 4000000 in
set_option maxRecDepth 100000 in
theorem a_X8_isSound (l : Launch) (D : va_G) (tc : Nat → ClassId) (z0 : Nat) (L : List Nat) (κ : Nat → Nat) (g : Nat → Nat → Value) (sz : Nat) (P cf b a q : Nat → Nat) (n t9 k9 : Nat) (hJ : zSd42 κ g P cf b a q n t9 k9) : Met l yX8_isSound wsX8_isSound ({ frames := 1, cells := 0, slots := 0, locals := 48 }) (zPc D tc z0 ([.ref (P 0)] : List Value) [] (L, κ, g) sz) (va_Qi (fun (r : Int32) (u : zS) => r = 1 ∧ u = (L, κ, g)) (fun (u : zS) (t : State) => zB D tc (zA [] L sz) [] u t) (zA [] L sz)) 0 0 (zA [] L sz) := by
  refine Met.ofW (cc := cX8_isSound) (maxL := 9) (ret := (some .boolean)) (by decide) rfl ?_
  intro p e9 s m args below meth c s₁ B hml hv
  obtain ⟨rfl, rfl, hK, hE, hI⟩ := hv.opn
  have hx := B.exec
  have hb := B.bytes
  have hr := B.returns
  have hts := atoms_spec (ws := wsX8_isSound) B.pre
  have hown : s.vm.findClass RX8 = some m.cls := findClass_of_methodNamed B.named
  have hlocks := B.notSynchronized
  have hM : zM p s m c cX8_isSound _ wsX8_isSound RX8 D tc := ⟨hx, hb, hts, hown, hK⟩
  have hinX8 : ∀ w ∈ wsX80, w ∈ wsX8_isSound := by decide +kernel
  have hl := lv_entry ([.ref (P 0)] : List Value) (n := 9) (Nat.le_of_ble_eq_true rfl)
  rw [lg_entry_eq]
  generalize (lg_sl ([.ref (P 0)] : List Value) ++ List.replicate (9 - (lg_sl ([.ref (P 0)] : List Value)).length) Slot.unset).toArray = ls at hl ⊢
  have hl : lv_has ls 9 [(0, .ref (P 0))] := hl
  have hinX1 : ∀ w ∈ wsX10, w ∈ wsX8_isSound := by decide +kernel
  have hinX2 : ∀ w ∈ wsX20, w ∈ wsX8_isSound := by decide +kernel
  have hinX3 : ∀ w ∈ wsX30, w ∈ wsX8_isSound := by decide +kernel
  have hinX6 : ∀ w ∈ wsX60, w ∈ wsX8_isSound := by decide +kernel
  have hinX0 : ∀ w ∈ wsX00, w ∈ wsX8_isSound := by decide +kernel
  obtain ⟨hS, -, -, -, -, -, ⟨A, O, W9, B9, E9, T9, bt, ⟨lA, lO, lW, lB, lE, lT, lb, hbt, hsum⟩, hcons⟩, -⟩ := hJ
  obtain ⟨⟨k0, k1, -, k3, k4, -, k6⟩, ⟨l1, -, l3, l4, -⟩, ⟨m0, -, mb1, -⟩, hn6, -, hz6, -⟩ := id hS
  have hAk := hS.af
  refine lv_aload_n hx hb dX8_isSound_0 rfl (lv_at hl 0 rfl) ?_
  refine z_get (k := 10) (j := 3) hM hI k0 rfl rfl hinX8 rfl (by decide) (by decide +kernel) (fun _ h9 => h9) dX8_isSound_1 (fun v9 hv9 => ?_)
  obtain ⟨hg9, r9, rfl, -⟩ := hv9
  obtain rfl : (P 3) = r9 := Value.ref.inj ((l3).symm.trans hg9.symm)
  clear hg9
  refine z_get (k := 4) (j := 0) hM hI k3 rfl rfl hinX2 rfl (by decide) (by decide +kernel) (fun _ h9 => h9) dX8_isSound_4 (fun v9 hv9 => ?_)
  obtain ⟨hg9, r9, rfl, -⟩ := hv9
  obtain rfl : (P 6) = r9 := Value.ref.inj ((m0).symm.trans hg9.symm)
  clear hg9
  refine z_get (k := 31) (j := 1) hM hI k6 rfl rfl hinX1 rfl (by decide) (by decide +kernel) (fun _ h9 => h9) dX8_isSound_7 (fun v9 hv9 => ?_)
  obtain ⟨hg9, r9, rfl, -⟩ := hv9
  obtain rfl : (a 0) = r9 := Value.ref.inj ((mb1).symm.trans hg9.symm)
  clear hg9
  obtain ⟨hkk1, hqk1, uk1, hnk1⟩ := hAk.1 0 (by omega)
  refine vp_callSl (W.runV (As := []) (rest := []) ⟨hx, hb, hml, hown, hts⟩ (a_X0_lowBits l _ _ _ _ _ _ _ (a 0) (q 0) uk1 _ _  (kx_ok 0) hkk1 hqk1 hnk1.toZN0 ) (cwV 0 hts gX8_isSound_X0_lowBits rfl rfl rfl (by decide +kernel) ⟨Nat.le_of_ble_eq_true rfl, Nat.le_of_ble_eq_true rfl⟩) (z_preV hK hE hI [] rfl rfl (z_recv hK hI hkk1 (kx_ok 0).1 rfl)) rfl rfl hl.1 rfl (lv_room (Nat.le_of_ble_eq_true rfl)) dX8_isSound_10 ⟨Nat.le_of_ble_eq_true rfl, Nat.le_of_ble_eq_true rfl⟩) (fun v8 hw => ?_)
  obtain rfl := hw
  refine lv_lstore_n (lv' := [(1, .long (Int64.ofInt (zV g (q 0)))), (0, .ref (P 0))]) hx hb dX8_isSound_13 rfl hl (by decide) rfl (fun ls hl => ?_)
  refine lv_ldc2 (v := 4000) hx hb hown (hts (.constantLong RX8 301 (4000)) (by decide +kernel)) dX8_isSound_14 ?_
  refine lv_lstore_n (lv' := [(3, .long 4000), (1, .long (Int64.ofInt (zV g (q 0)))), (0, .ref (P 0))]) hx hb dX8_isSound_17 rfl hl (by decide) rfl (fun ls hl => ?_)
  refine lv_aload_n hx hb dX8_isSound_18 rfl (lv_at hl 2 rfl) ?_
  refine z_get (k := 10) (j := 1) hM hI k0 rfl rfl hinX8 rfl (by decide) (by decide +kernel) (fun _ h9 => h9) dX8_isSound_19 (fun v9 hv9 => ?_)
  obtain ⟨hg9, r9, rfl, -⟩ := hv9
  obtain rfl : (P 1) = r9 := Value.ref.inj ((l1).symm.trans hg9.symm)
  clear hg9
  refine lv_astore (lv' := [(5, .ref (P 1)), (3, .long 4000), (1, .long (Int64.ofInt (zV g (q 0)))), (0, .ref (P 0))]) hx hb dX8_isSound_22 hl (by decide) rfl (fun ls hl => ?_)
  refine lv_aload hx hb dX8_isSound_24 (lv_at hl 0 rfl) ?_
  refine z_alen (v := 6) hM hI k1 rfl rfl rfl (by decide) dX8_isSound_26 ?_
  refine lv_istore (lv' := [(6, .int 6), (5, .ref (P 1)), (3, .long 4000), (1, .long (Int64.ofInt (zV g (q 0)))), (0, .ref (P 0))]) hx hb dX8_isSound_27 hl (by decide) rfl (fun ls hl => ?_)
  refine lv_iconst (v := 0) hx hb dX8_isSound_29 (by decide) ?_
  refine lv_istore (lv' := [(7, .int 0), (6, .int 6), (5, .ref (P 1)), (3, .long 4000), (1, .long (Int64.ofInt (zV g (q 0)))), (0, .ref (P 0))]) hx hb dX8_isSound_30 hl (by decide) rfl (fun ls hl => ?_)
  have hL : ∀ (n9 : Nat) (H : Heap) (locs : List Loc) (x1 x3 : Int64) (i : Nat) (hn : 6 - i < n9) (hi : i ≤ 6) (e1 : x1 = Int64.ofInt (zV g (q 0) + zHs g q (min i n))) (e3 : x3 = Int64.ofInt (4000 + 400 * ((min i n : Nat) : Int))) (hI : zI D tc (zA [] L s.heap.size) s.heap [] L κ g H locs) (ls : Array Slot) (hl : lv_has ls 9 [(7, .int (nI i)), (6, .int 6), (5, .ref (P 1)), (3, .long x3), (1, .long x1), (0, .ref (P 0))]), W p l e9 (headSpec wsX8_isSound ({ frames := 1, cells := 0, slots := 0, locals := 48 })).room s m ([.ref (P 0)] : List Value).toArray below meth c H locs 0 0 (MQ below (va_Qi (fun (r : Int32) (u : zS) => r = 1 ∧ u = (L, κ, g)) (fun (u : zS) (t : State) => zB D tc (zA [] L s.heap.size) [] u t) (zA [] L s.heap.size)) ([.ref (P 0)] : List Value).toArray s 0 0 (zA [] L s.heap.size)) (F0 m 32 ls []) := by
    intro n9
    induction n9 with
    | zero => intro H locs x1 x3 i hn; exact absurd hn (Nat.not_lt_zero _)
    | succ n9 ih =>
      intro H locs x1 x3 i hn hi e1 e3 hI ls hl
      refine lv_iload hx hb dX8_isSound_32 (lv_at hl 0 rfl) ?_
      refine lv_iload hx hb dX8_isSound_34 (lv_at hl 1 rfl) ?_
      refine lv_icmp_ge (tgt := 77) hx hb dX8_isSound_36 (by decide) (fun c1 => ?_) (fun c1 => ?_)
      · have hi2 : i = 6 := Nat.le_antisymm hi (z_ge (a := i) (b := 6) (by omega) (by omega) c1)
        rw [hi2, show min 6 n = n by omega] at e1 e3
        refine lv_lload_n hx hb dX8_isSound_77 rfl (lv_at hl 4 rfl) ?_
        refine lv_aload_n hx hb dX8_isSound_78 rfl (lv_at hl 5 rfl) ?_
        refine z_get (k := 10) (j := 3) hM hI k0 rfl rfl hinX8 rfl (by decide) (by decide +kernel) (fun _ h9 => h9) dX8_isSound_79 (fun v9 hv9 => ?_)
        obtain ⟨hg9, r9, rfl, -⟩ := hv9
        obtain rfl : (P 3) = r9 := Value.ref.inj ((l3).symm.trans hg9.symm)
        clear hg9
        refine z_get (k := 4) (j := 2) hM hI k3 rfl rfl hinX2 rfl (by decide) (by decide +kernel) (fun _ h9 => h9) dX8_isSound_82 (fun v9 hv9 => ?_)
        obtain ⟨hg9, i9, rfl⟩ := hv9
        obtain rfl : Int64.ofInt A = i9 := Value.long.inj ((lA).symm.trans hg9.symm)
        clear hg9
        refine lv_ladd hx hb dX8_isSound_85 ?_
        refine lv_lload_n hx hb dX8_isSound_86 rfl (lv_at hl 3 rfl) ?_
        refine lv_aload_n hx hb dX8_isSound_87 rfl (lv_at hl 5 rfl) ?_
        refine z_get (k := 10) (j := 4) hM hI k0 rfl rfl hinX8 rfl (by decide) (by decide +kernel) (fun _ h9 => h9) dX8_isSound_88 (fun v9 hv9 => ?_)
        obtain ⟨hg9, r9, rfl, -⟩ := hv9
        obtain rfl : (P 4) = r9 := Value.ref.inj ((l4).symm.trans hg9.symm)
        clear hg9
        refine z_get (k := 8) (j := 9) hM hI k4 rfl rfl hinX6 rfl (by decide) (by decide +kernel) (fun _ h9 => h9) dX8_isSound_91 (fun v9 hv9 => ?_)
        obtain ⟨hg9, i9, rfl⟩ := hv9
        obtain rfl : Int64.ofInt T9 = i9 := Value.long.inj ((lT).symm.trans hg9.symm)
        clear hg9
        refine lv_ladd hx hb dX8_isSound_94 ?_
        refine lv_aload_n hx hb dX8_isSound_95 rfl (lv_at hl 5 rfl) ?_
        refine z_get (k := 10) (j := 9) hM hI k0 rfl rfl hinX8 rfl (by decide) (by decide +kernel) (fun _ h9 => h9) dX8_isSound_96 (fun v9 hv9 => ?_)
        obtain ⟨hg9, i9, rfl⟩ := hv9
        obtain rfl : Int64.ofInt O = i9 := Value.long.inj ((lO).symm.trans hg9.symm)
        clear hg9
        refine lv_ladd hx hb dX8_isSound_99 ?_
        have hq1 : x1 + Int64.ofInt A = x3 + Int64.ofInt T9 + Int64.ofInt O := by
          rw [e1, e3, wl_add, wl_add, wl_add]
          exact congrArg Int64.ofInt hcons
        refine W.lcmp hx hb dX8_isSound_100 ?_
        refine lv_if_ne (tgt := 108) hx hb dX8_isSound_101 (by decide) (fun h9 => absurd ((lg_cmp_eq _ _).mpr hq1) h9) (fun _ => ?_)
        refine lv_iconst (v := 1) hx hb dX8_isSound_104 (by decide) ?_
        refine lv_goto (tgt := 109) hx hb dX8_isSound_105 (by decide) ?_
        refine lv_istore (lv' := [(5, .int 1), (7, .int (nI i)), (6, .int 6), (3, .long x3), (1, .long x1), (0, .ref (P 0))]) hx hb dX8_isSound_109 hl (by decide) rfl (fun ls hl => ?_)
        refine lv_aload_n hx hb dX8_isSound_111 rfl (lv_at hl 5 rfl) ?_
        refine z_get (k := 10) (j := 4) hM hI k0 rfl rfl hinX8 rfl (by decide) (by decide +kernel) (fun _ h9 => h9) dX8_isSound_112 (fun v9 hv9 => ?_)
        obtain ⟨hg9, r9, rfl, -⟩ := hv9
        obtain rfl : (P 4) = r9 := Value.ref.inj ((l4).symm.trans hg9.symm)
        clear hg9
        refine z_get (k := 8) (j := 9) hM hI k4 rfl rfl hinX6 rfl (by decide) (by decide +kernel) (fun _ h9 => h9) dX8_isSound_115 (fun v9 hv9 => ?_)
        obtain ⟨hg9, i9, rfl⟩ := hv9
        obtain rfl : Int64.ofInt T9 = i9 := Value.long.inj ((lT).symm.trans hg9.symm)
        clear hg9
        refine lv_aload_n hx hb dX8_isSound_118 rfl (lv_at hl 5 rfl) ?_
        refine z_get (k := 10) (j := 4) hM hI k0 rfl rfl hinX8 rfl (by decide) (by decide +kernel) (fun _ h9 => h9) dX8_isSound_119 (fun v9 hv9 => ?_)
        obtain ⟨hg9, r9, rfl, -⟩ := hv9
        obtain rfl : (P 4) = r9 := Value.ref.inj ((l4).symm.trans hg9.symm)
        clear hg9
        refine z_get (k := 8) (j := 6) hM hI k4 rfl rfl hinX6 rfl (by decide) (by decide +kernel) (fun _ h9 => h9) dX8_isSound_122 (fun v9 hv9 => ?_)
        obtain ⟨hg9, i9, rfl⟩ := hv9
        obtain rfl : Int64.ofInt W9 = i9 := Value.long.inj ((lW).symm.trans hg9.symm)
        clear hg9
        refine lv_aload_n hx hb dX8_isSound_125 rfl (lv_at hl 5 rfl) ?_
        refine z_get (k := 10) (j := 4) hM hI k0 rfl rfl hinX8 rfl (by decide) (by decide +kernel) (fun _ h9 => h9) dX8_isSound_126 (fun v9 hv9 => ?_)
        obtain ⟨hg9, r9, rfl, -⟩ := hv9
        obtain rfl : (P 4) = r9 := Value.ref.inj ((l4).symm.trans hg9.symm)
        clear hg9
        refine z_get (k := 8) (j := 7) hM hI k4 rfl rfl hinX6 rfl (by decide) (by decide +kernel) (fun _ h9 => h9) dX8_isSound_129 (fun v9 hv9 => ?_)
        obtain ⟨hg9, i9, rfl⟩ := hv9
        obtain rfl : Int64.ofInt B9 = i9 := Value.long.inj ((lB).symm.trans hg9.symm)
        clear hg9
        refine lv_ladd hx hb dX8_isSound_132 ?_
        refine lv_aload_n hx hb dX8_isSound_133 rfl (lv_at hl 5 rfl) ?_
        refine z_get (k := 10) (j := 4) hM hI k0 rfl rfl hinX8 rfl (by decide) (by decide +kernel) (fun _ h9 => h9) dX8_isSound_134 (fun v9 hv9 => ?_)
        obtain ⟨hg9, r9, rfl, -⟩ := hv9
        obtain rfl : (P 4) = r9 := Value.ref.inj ((l4).symm.trans hg9.symm)
        clear hg9
        refine z_get (k := 8) (j := 8) hM hI k4 rfl rfl hinX6 rfl (by decide) (by decide +kernel) (fun _ h9 => h9) dX8_isSound_137 (fun v9 hv9 => ?_)
        obtain ⟨hg9, i9, rfl⟩ := hv9
        obtain rfl : Int64.ofInt E9 = i9 := Value.long.inj ((lE).symm.trans hg9.symm)
        clear hg9
        refine lv_ladd hx hb dX8_isSound_140 ?_
        have hq2 : Int64.ofInt T9 = Int64.ofInt W9 + Int64.ofInt B9 + Int64.ofInt E9 := by rw [wl_add, wl_add, hsum]
        refine W.lcmp hx hb dX8_isSound_141 ?_
        refine lv_if_ne (tgt := 149) hx hb dX8_isSound_142 (by decide) (fun h9 => absurd ((lg_cmp_eq _ _).mpr hq2) h9) (fun _ => ?_)
        refine lv_iconst (v := 1) hx hb dX8_isSound_145 (by decide) ?_
        refine lv_goto (tgt := 150) hx hb dX8_isSound_146 (by decide) ?_
        refine lv_istore (lv' := [(6, .int 1), (5, .int 1), (7, .int (nI i)), (3, .long x3), (1, .long x1), (0, .ref (P 0))]) hx hb dX8_isSound_150 hl (by decide) rfl (fun ls hl => ?_)
        refine lv_iload hx hb dX8_isSound_152 (lv_at hl 1 rfl) ?_
        refine lv_if_eq (tgt := 189) hx hb dX8_isSound_154 (by decide) (fun h9 => absurd h9 (by decide)) (fun _ => ?_)
        refine lv_iload hx hb dX8_isSound_157 (lv_at hl 0 rfl) ?_
        refine lv_if_eq (tgt := 189) hx hb dX8_isSound_159 (by decide) (fun h9 => absurd h9 (by decide)) (fun _ => ?_)
        refine lv_aload_n hx hb dX8_isSound_162 rfl (lv_at hl 5 rfl) ?_
        refine z_get (k := 10) (j := 4) hM hI k0 rfl rfl hinX8 rfl (by decide) (by decide +kernel) (fun _ h9 => h9) dX8_isSound_163 (fun v9 hv9 => ?_)
        obtain ⟨hg9, r9, rfl, -⟩ := hv9
        obtain rfl : (P 4) = r9 := Value.ref.inj ((l4).symm.trans hg9.symm)
        clear hg9
        refine z_get (k := 8) (j := 1) hM hI k4 rfl rfl hinX6 rfl (by decide) (by decide +kernel) (fun _ h9 => h9) dX8_isSound_166 (fun v9 hv9 => ?_)
        obtain ⟨hg9, i9, rfl⟩ := hv9
        obtain rfl : nI bt = i9 := Value.int.inj ((lb).symm.trans hg9.symm)
        clear hg9
        refine lv_if_lt (tgt := 189) hx hb dX8_isSound_169 (by decide) (fun h9 => absurd h9 (nI_pos (by omega))) (fun _ => ?_)
        refine lv_aload_n hx hb dX8_isSound_172 rfl (lv_at hl 5 rfl) ?_
        refine z_get (k := 10) (j := 4) hM hI k0 rfl rfl hinX8 rfl (by decide) (by decide +kernel) (fun _ h9 => h9) dX8_isSound_173 (fun v9 hv9 => ?_)
        obtain ⟨hg9, r9, rfl, -⟩ := hv9
        obtain rfl : (P 4) = r9 := Value.ref.inj ((l4).symm.trans hg9.symm)
        clear hg9
        refine z_get (k := 8) (j := 1) hM hI k4 rfl rfl hinX6 rfl (by decide) (by decide +kernel) (fun _ h9 => h9) dX8_isSound_176 (fun v9 hv9 => ?_)
        obtain ⟨hg9, i9, rfl⟩ := hv9
        obtain rfl : nI bt = i9 := Value.int.inj ((lb).symm.trans hg9.symm)
        clear hg9
        refine lv_sipush (v := 5000) hx hb dX8_isSound_179 (by decide) ?_
        refine lv_icmp_gt (tgt := 189) hx hb dX8_isSound_182 (by decide) (fun h9 => absurd h9 (nI_nlt (a := 5000) (b := bt) hbt (by decide))) (fun _ => ?_)
        refine lv_iconst (v := 1) hx hb dX8_isSound_185 (by decide) ?_
        refine lv_goto (tgt := 190) hx hb dX8_isSound_186 (by decide) ?_
        exact W.zret (v := 1) hx hb hr (by decide) (fun t ht hW => ⟨⟨_, (L, κ, g), rfl, ⟨rfl, rfl⟩, z_end hK hI ht hW⟩, z_F hI ht⟩) (z_locs hI) dX8_isSound_190
      · have hi2 : i < 6 := z_lt (b := 6) (by omega) c1
        refine lv_aload hx hb dX8_isSound_39 (lv_at hl 2 rfl) ?_
        refine lv_iload hx hb dX8_isSound_41 (lv_at hl 0 rfl) ?_
        refine z_aald hM hI k1 rfl rfl rfl (vp_in_nI (show i < 6 by omega) (by omega)) dX8_isSound_43 (fun x hx9 => ?_)
        obtain ⟨hx9, -⟩ := hx9
        rw [nI_clamp (by omega)] at hx9
        by_cases hin : i < n
        · obtain ⟨kc, kb, h3, h15, hb1, hb2⟩ := hS.co hin
          rw [hx9.trans h3]
          refine lv_astore (lv' := [(8, .ref (cf i)), (7, .int (nI i)), (6, .int 6), (5, .ref (P 1)), (3, .long x3), (1, .long x1), (0, .ref (P 0))]) hx hb dX8_isSound_44 hl (by decide) rfl (fun ls hl => ?_)
          refine lv_aload hx hb dX8_isSound_46 (lv_at hl 0 rfl) ?_
          refine lv_ifnull hx hb dX8_isSound_48 ?_
          refine lv_lload_n hx hb dX8_isSound_51 rfl (lv_at hl 5 rfl) ?_
          refine lv_aload hx hb dX8_isSound_52 (lv_at hl 0 rfl) ?_
          refine z_get (k := 5) (j := 15) hM hI kc rfl rfl hinX3 rfl (by decide) (by decide +kernel) (fun _ h9 => h9) dX8_isSound_54 (fun v9 hv9 => ?_)
          obtain ⟨hg9, r9, rfl, -⟩ := hv9
          obtain rfl : (b i) = r9 := Value.ref.inj ((h15).symm.trans hg9.symm)
          clear hg9
          refine z_get (k := 3) (j := 1) hM hI kb rfl rfl hinX1 rfl (by decide) (by decide +kernel) (fun _ h9 => h9) dX8_isSound_57 (fun v9 hv9 => ?_)
          obtain ⟨hg9, r9, rfl, -⟩ := hv9
          obtain rfl : (a (5 + 2 * i)) = r9 := Value.ref.inj ((hb1).symm.trans hg9.symm)
          clear hg9
          obtain ⟨hkk2, hqk2, uk2, hnk2⟩ := hAk.1 (5 + 2 * i) (by omega)
          refine vp_callSl (W.runV (As := []) (rest := [.long x1]) ⟨hx, hb, hml, hown, hts⟩ (a_X0_lowBits l _ _ _ _ _ _ _ (a (5 + 2 * i)) (q (5 + 2 * i)) uk2 _ _  (kx_ok (5 + 2 * i)) hkk2 hqk2 hnk2.toZN0 ) (cwV 0 hts gX8_isSound_X0_lowBits rfl rfl rfl (by decide +kernel) ⟨Nat.le_of_ble_eq_true rfl, Nat.le_of_ble_eq_true rfl⟩) (z_preV hK hE hI [] rfl rfl (z_recv hK hI hkk2 (kx_ok (5 + 2 * i)).1 rfl)) rfl rfl hl.1 rfl (lv_room (Nat.le_of_ble_eq_true rfl)) dX8_isSound_60 ⟨Nat.le_of_ble_eq_true rfl, Nat.le_of_ble_eq_true rfl⟩) (fun v8 hw => ?_)
          obtain rfl := hw
          refine lv_ladd hx hb dX8_isSound_63 ?_
          refine lv_topl (fun y1 ey1 => ?_)
          refine lv_lstore_n (lv' := [(1, .long y1), (8, .ref (cf i)), (7, .int (nI i)), (6, .int 6), (5, .ref (P 1)), (3, .long x3), (0, .ref (P 0))]) hx hb dX8_isSound_64 rfl hl (by decide) rfl (fun ls hl => ?_)
          refine lv_lload_n hx hb dX8_isSound_65 rfl (lv_at hl 5 rfl) ?_
          refine lv_ldc2 (v := 400) hx hb hown (hts (.constantLong RX8 303 (400)) (by decide +kernel)) dX8_isSound_66 ?_
          refine lv_ladd hx hb dX8_isSound_69 ?_
          refine lv_topl (fun y3 ey3 => ?_)
          refine lv_lstore_n (lv' := [(3, .long y3), (1, .long y1), (8, .ref (cf i)), (7, .int (nI i)), (6, .int 6), (5, .ref (P 1)), (0, .ref (P 0))]) hx hb dX8_isSound_70 rfl hl (by decide) rfl (fun ls hl => ?_)
          refine lv_iinc (v := nI (i + 1)) (lv' := [(7, .int (nI (i + 1))), (3, .long y3), (1, .long y1), (8, .ref (cf i)), (6, .int 6), (5, .ref (P 1)), (0, .ref (P 0))]) hx hb dX8_isSound_71 hl (k := 3) rfl (z_inc i) (by decide) rfl (fun ls hl => ?_)
          refine lv_goto (tgt := 32) hx hb dX8_isSound_74 (by decide) ?_
          rw [show min i n = i by omega] at e1 e3
          exact ih _ _ y1 y3 (i + 1) (by omega) (by omega) (by rw [ey1, e1, wl_add, show min (i + 1) n = i + 1 by omega, Int.add_assoc]; rfl) (by rw [ey3, e3, show (400 : Int64) = Int64.ofInt 400 from rfl, wl_add, show min (i + 1) n = i + 1 by omega]; exact congrArg Int64.ofInt (by omega)) hI _ (lv_sub hl [0, 4, 5, 1, 2, 6] rfl)
        · rw [hx9.trans (hz6 i (by omega) (by omega))]
          refine lv_astoreN (lv' := [(8, .null), (7, .int (nI i)), (6, .int 6), (5, .ref (P 1)), (3, .long x3), (1, .long x1), (0, .ref (P 0))]) hx hb dX8_isSound_44 hl (by decide) rfl (fun ls hl => ?_)
          refine lv_aloadN hx hb dX8_isSound_46 (lv_at hl 0 rfl) ?_
          refine lv_ifnullN (tgt := 71) hx hb dX8_isSound_48 (by decide) ?_
          refine lv_iinc (v := nI (i + 1)) (lv' := [(7, .int (nI (i + 1))), (8, .null), (6, .int 6), (5, .ref (P 1)), (3, .long x3), (1, .long x1), (0, .ref (P 0))]) hx hb dX8_isSound_71 hl (k := 1) rfl (z_inc i) (by decide) rfl (fun ls hl => ?_)
          refine lv_goto (tgt := 32) hx hb dX8_isSound_74 (by decide) ?_
          exact ih _ _ x1 x3 (i + 1) (by omega) (by omega) (by rw [e1, show min (i + 1) n = min i n by omega]) (by rw [e3, show min (i + 1) n = min i n by omega]) hI _ (lv_sub hl [0, 2, 3, 4, 5, 6] rfl)
  exact hL 7 _ _ _ _ 0 (by omega) (by omega) (by rw [show min 0 n = 0 by omega]; exact congrArg Int64.ofInt (Int.add_zero _).symm) (by rw [show min 0 n = 0 by omega]; rfl) hI _ (lv_sub hl [0, 1, 2, 3, 4, 5] rfl)
