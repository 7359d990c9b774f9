theorem z_apart {κ : Nat → Nat} {a b k k2 : Nat} (h1 : κ a = k) (h2 : κ b = k2) (h : k ≠ k2) : a ≠ b := fun e => h (by rw [← h1, e]; exact h2)

set_option maxHeartbeats 4000000 in
set_option maxRecDepth 100000 in
theorem a_X8_beginCores (l : Launch) (D : va_G) (tc : Nat → ClassId) (z0 : Nat) (L : List Nat) (κ : Nat → Nat) (g : Nat → Nat → Value) (sz : Nat) (P cf b a q : Nat → Nat) (n : Nat) (hS : zShp κ g P cf b a q n) (Bw : Nat) (hB : Bw < 20000) (hW0 : zWc g cf n Bw) : Met l yX8_beginCores wsX8_beginCores ({ frames := 3, cells := 0, slots := 0, locals := 90 }) (zPc D tc z0 ([.ref (P 0)] : List Value) [] (L, κ, g) sz) (va_Qv (fun (u : zS) => ∃ g2 : Nat → Nat → Value, u = (L, κ, g2) ∧ zWc g2 cf n (Bw + 1) ∧ ∀ b j, ¬ (κ b = 5 ∧ j = 19) → g2 b j = g b j) (fun (u : zS) (t : State) => zB D tc (zA [] L sz) [] u t) (zA [] L sz)) 0 0 (zA [] L sz) := by
  refine Met.ofW (cc := cX8_beginCores) (maxL := 6) (ret := none) (by decide) rfl ?_
  intro p e9 s m args below meth c s₁ B hml hv
  obtain ⟨rfl, rfl, hK, hE, hI⟩ := hv.opn
  have hx := B.exec
  have hb := B.bytes
  have hr := B.returns
  have hts := atoms_spec (ws := wsX8_beginCores) B.pre
  have hown : s.vm.findClass RX8 = some m.cls := findClass_of_methodNamed B.named
  have hlocks := B.notSynchronized
  have hM : zM p s m c cX8_beginCores _ wsX8_beginCores RX8 D tc := ⟨hx, hb, hts, hown, hK⟩
  have hinX8 : ∀ w ∈ wsX80, w ∈ wsX8_beginCores := by decide +kernel
  have hl := lv_entry ([.ref (P 0)] : List Value) (n := 6) (Nat.le_of_ble_eq_true rfl)
  rw [lg_entry_eq]
  generalize (lg_sl ([.ref (P 0)] : List Value) ++ List.replicate (6 - (lg_sl ([.ref (P 0)] : List Value)).length) Slot.unset).toArray = ls at hl ⊢
  have hl : lv_has ls 6 [(0, .ref (P 0))] := hl
  have hinX3 : ∀ w ∈ wsX30, w ∈ wsX8_beginCores := by decide +kernel
  have hn6 := hS.n6
  obtain ⟨⟨k0, k1, -⟩, ⟨l1, -⟩, -⟩ := id hS
  have hL : ∀ (n9 : Nat) (H : Heap) (locs : List Loc) (x1 : Int32) (gk : Nat → Nat → Value) (i : Nat) (hn : 6 - i < n9) (hi : i ≤ 6) (hSk : zShp κ gk P cf b a q n) (hWk : zWi gk cf n Bw i) (hok : ∀ b j, ¬ (κ b = 5 ∧ j = 19) → gk b j = g b j) (hI : zI D tc (zA [] L s.heap.size) s.heap [] L κ gk H locs) (ls : Array Slot) (hl : lv_has ls 6 [(4, .int (nI i)), (3, .int 6), (2, .ref (P 1)), (1, .int x1), (0, .ref (P 0))]), W p l e9 (headSpec wsX8_beginCores ({ frames := 3, cells := 0, slots := 0, locals := 90 })).room s m ([.ref (P 0)] : List Value).toArray below meth c H locs 0 0 (MQ below (va_Qv (fun (u : zS) => ∃ g2 : Nat → Nat → Value, u = (L, κ, g2) ∧ zWc g2 cf n (Bw + 1) ∧ ∀ b j, ¬ (κ b = 5 ∧ j = 19) → g2 b j = g b j) (fun (u : zS) (t : State) => zB D tc (zA [] L s.heap.size) [] u t) (zA [] L s.heap.size)) ([.ref (P 0)] : List Value).toArray s 0 0 (zA [] L s.heap.size)) (F0 m 26 ls []) := by
    intro n9
    induction n9 with
    | zero => intro H locs x1 gk i hn; exact absurd hn (Nat.not_lt_zero _)
    | succ n9 ih =>
      intro H locs x1 gk i hn hi hSk hWk hok hI ls hl
      refine lv_iload hx hb dX8_beginCores_26 (lv_at hl 0 rfl) ?_
      refine lv_iload_n hx hb dX8_beginCores_28 rfl (lv_at hl 1 rfl) ?_
      refine lv_icmp_ge (tgt := 85) hx hb dX8_beginCores_29 (by decide) (fun c1 => ?_) (fun c1 => ?_)
      · have hi2 : 6 ≤ i := z_ge (a := i) (b := 6) (by omega) (by omega) c1
        exact W.vret hx hb hr (fun t ht hW => ⟨⟨(L, κ, gk), rfl, ⟨gk, rfl, fun x hx => by have h9 := hWk x hx; rw [if_pos (by omega)] at h9; exact h9, hok⟩, z_end hK hI ht hW⟩, z_F hI ht⟩) (z_locs hI) dX8_beginCores_85
      · have hi2 : i < 6 := z_lt (b := 6) (by omega) c1
        refine lv_aload_n hx hb dX8_beginCores_32 rfl (lv_at hl 2 rfl) ?_
        refine lv_iload hx hb dX8_beginCores_33 (lv_at hl 0 rfl) ?_
        refine z_aald hM hI k1 rfl rfl rfl (vp_in_nI (show i < 6 by omega) (by omega)) dX8_beginCores_35 (fun x hx9 => ?_)
        obtain ⟨hx9, -⟩ := hx9
        rw [nI_clamp (by omega)] at hx9
        by_cases hin : i < n
        · obtain ⟨kc, kb, h3, h15, hb1, hb2⟩ := hSk.co hin
          rw [hx9.trans h3]
          refine lv_astore (lv' := [(5, .ref (cf i)), (4, .int (nI i)), (3, .int 6), (2, .ref (P 1)), (1, .int x1), (0, .ref (P 0))]) hx hb dX8_beginCores_36 hl (by decide) rfl (fun ls hl => ?_)
          refine lv_aload hx hb dX8_beginCores_38 (lv_at hl 0 rfl) ?_
          refine lv_ifnull hx hb dX8_beginCores_40 ?_
          have hL65 : ∀ (H : Heap) (locs : List Loc) (hI : zI D tc (zA [] L s.heap.size) s.heap [] L κ gk H locs), W p l e9 (headSpec wsX8_beginCores ({ frames := 3, cells := 0, slots := 0, locals := 90 })).room s m ([.ref (P 0)] : List Value).toArray below meth c H locs 0 0 (MQ below (va_Qv (fun (u : zS) => ∃ g2 : Nat → Nat → Value, u = (L, κ, g2) ∧ zWc g2 cf n (Bw + 1) ∧ ∀ b j, ¬ (κ b = 5 ∧ j = 19) → g2 b j = g b j) (fun (u : zS) (t : State) => zB D tc (zA [] L s.heap.size) [] u t) (zA [] L s.heap.size)) ([.ref (P 0)] : List Value).toArray s 0 0 (zA [] L s.heap.size)) (F0 m 65 ls []) := by
            intro H locs hI
            have hL74 : ∀ (H : Heap) (locs : List Loc) (hI : zI D tc (zA [] L s.heap.size) s.heap [] L κ gk H locs), W p l e9 (headSpec wsX8_beginCores ({ frames := 3, cells := 0, slots := 0, locals := 90 })).room s m ([.ref (P 0)] : List Value).toArray below meth c H locs 0 0 (MQ below (va_Qv (fun (u : zS) => ∃ g2 : Nat → Nat → Value, u = (L, κ, g2) ∧ zWc g2 cf n (Bw + 1) ∧ ∀ b j, ¬ (κ b = 5 ∧ j = 19) → g2 b j = g b j) (fun (u : zS) (t : State) => zB D tc (zA [] L s.heap.size) [] u t) (zA [] L s.heap.size)) ([.ref (P 0)] : List Value).toArray s 0 0 (zA [] L s.heap.size)) (F0 m 74 ls []) := by
              intro H locs hI
              refine lv_aload hx hb dX8_beginCores_74 (lv_at hl 0 rfl) ?_
              refine z_cv hI (va_runV (As := []) (rest := []) ⟨hx, hb, hml, hown, hts⟩ (a_X3_tripAndWear l _ _ _ _ _ _ _ (cf i) kc) (cwV 0 hts gX8_beginCores_X3_tripAndWear rfl rfl rfl (by decide +kernel) ⟨Nat.le_of_ble_eq_true rfl, Nat.le_of_ble_eq_true rfl⟩) (z_preV hK hE hI [] rfl rfl (z_recv hK hI kc rfl rfl)) rfl rfl hl.1 rfl (lv_room (Nat.le_of_ble_eq_true rfl)) dX8_beginCores_76 ⟨Nat.le_of_ble_eq_true rfl, Nat.le_of_ble_eq_true rfl⟩) (fun u H locs hw hI => ?_)
              obtain ⟨g2, rfl, ho2, hs2⟩ := hw
              obtain ⟨hS2, -⟩ := hSk.put (x9 := cf i) (j9 := 19) kc (by unfold zSlot; omega) ho2
              refine lv_iinc (v := nI (i + 1)) (lv' := [(4, .int (nI (i + 1))), (5, .ref (cf i)), (3, .int 6), (2, .ref (P 1)), (1, .int x1), (0, .ref (P 0))]) hx hb dX8_beginCores_79 hl (k := 1) rfl (z_inc i) (by decide) rfl (fun ls hl => ?_)
              refine lv_goto (tgt := 26) hx hb dX8_beginCores_82 (by decide) ?_
              exact ih _ _ x1 g2 (i + 1) (by omega) (by omega) hS2 (hWk.step hin hSk.2.2.2.2.2.2.1 ho2 hs2) (fun b j h => (ho2 b j (by by_cases hb : b = cf i; exact Or.inr (fun e => h ⟨by rw [hb]; exact kc, e⟩); exact Or.inl hb)).trans (hok b j h)) hI _ (lv_sub hl [0, 2, 3, 4, 5] rfl)
            refine lv_iload_n hx hb dX8_beginCores_65 rfl (lv_at hl 4 rfl) ?_
            refine lv_if_eq (tgt := 74) hx hb dX8_beginCores_66 (by decide) (fun _ => ?_) (fun _ => ?_)
            · exact hL74 _ _ hI
            · skip
              refine lv_aload hx hb dX8_beginCores_69 (lv_at hl 0 rfl) ?_
              refine z_cv hI (va_runV (As := []) (rest := []) ⟨hx, hb, hml, hown, hts⟩ (c_X3_readSensor l _ _ _ _ _ _ _ (cf i) kc) (cwV 0 hts gX8_beginCores_X3_readSensor rfl rfl rfl (by decide +kernel) ⟨Nat.le_of_ble_eq_true rfl, Nat.le_of_ble_eq_true rfl⟩) (z_preV hK hE hI [] rfl rfl (z_recv hK hI kc rfl rfl)) rfl rfl hl.1 rfl (lv_room (Nat.le_of_ble_eq_true rfl)) dX8_beginCores_71 ⟨Nat.le_of_ble_eq_true rfl, Nat.le_of_ble_eq_true rfl⟩) (fun u H locs hw hI => ?_)
              obtain rfl := hw
              exact hL74 _ _ hI
          refine lv_aload hx hb dX8_beginCores_43 (lv_at hl 0 rfl) ?_
          refine lv_aload_n hx hb dX8_beginCores_45 rfl (lv_at hl 5 rfl) ?_
          refine lv_aload hx hb dX8_beginCores_46 (lv_at hl 0 rfl) ?_
          refine z_get (k := 5) (j := 0) hM hI kc rfl rfl hinX3 rfl (by decide) (by decide +kernel) (fun _ h9 => h9) dX8_beginCores_48 (fun v9 hv9 => ?_)
          obtain ⟨i9, rfl⟩ := hv9
          refine va_csq (W.runV (As := [.int i9]) (rest := [.ref (cf i)]) ⟨hx, hb, hml, hown, hts⟩ (c_X8_runningOn l _ _ _ _ _ _ _ (P 0) k0 i9) (cwV 1 hts gX8_beginCores_X8_runningOn rfl rfl rfl (by decide +kernel) ⟨Nat.le_of_ble_eq_true rfl, Nat.le_of_ble_eq_true rfl⟩) (z_preV hK hE hI [] rfl rfl (z_recv hK hI k0 rfl rfl)) rfl rfl hl.1 rfl (lv_room (Nat.le_of_ble_eq_true rfl)) dX8_beginCores_51 ⟨Nat.le_of_ble_eq_true rfl, Nat.le_of_ble_eq_true rfl⟩) (fun x hw => ?_)
          rcases x with _ | r9
          · show W p l e9 (headSpec wsX8_beginCores ({ frames := 3, cells := 0, slots := 0, locals := 90 })).room s m ([.ref (P 0)] : List Value).toArray below meth c _ _ 0 0 (MQ below (va_Qv (fun (u : zS) => ∃ g2 : Nat → Nat → Value, u = (L, κ, g2) ∧ zWc g2 cf n (Bw + 1) ∧ ∀ b j, ¬ (κ b = 5 ∧ j = 19) → g2 b j = g b j) (fun (u : zS) (t : State) => zB D tc (zA [] L s.heap.size) [] u t) (zA [] L s.heap.size)) ([.ref (P 0)] : List Value).toArray s 0 0 (zA [] L s.heap.size)) (F0 m 54 ls (.null :: [.ref (cf i)]))
            refine lv_ifnullN (tgt := 61) hx hb dX8_beginCores_54 (by decide) ?_
            refine lv_iconst (v := 0) hx hb dX8_beginCores_61 (by decide) ?_
            refine z_cv hI (va_runV (As := [.int 0]) (rest := []) ⟨hx, hb, hml, hown, hts⟩ (c_X3_noteBusy l _ _ _ _ _ _ _ (cf i) kc 0 (Or.inl rfl)) (cwV 1 hts gX8_beginCores_X3_noteBusy rfl rfl rfl (by decide +kernel) ⟨Nat.le_of_ble_eq_true rfl, Nat.le_of_ble_eq_true rfl⟩) (z_preV hK hE hI [] rfl rfl (z_recv hK hI kc rfl rfl)) rfl rfl hl.1 rfl (lv_room (Nat.le_of_ble_eq_true rfl)) dX8_beginCores_62 ⟨Nat.le_of_ble_eq_true rfl, Nat.le_of_ble_eq_true rfl⟩) (fun u H locs hw hI => ?_)
            obtain rfl := hw
            exact hL65 _ _ hI
          · show W p l e9 (headSpec wsX8_beginCores ({ frames := 3, cells := 0, slots := 0, locals := 90 })).room s m ([.ref (P 0)] : List Value).toArray below meth c _ _ 0 0 (MQ below (va_Qv (fun (u : zS) => ∃ g2 : Nat → Nat → Value, u = (L, κ, g2) ∧ zWc g2 cf n (Bw + 1) ∧ ∀ b j, ¬ (κ b = 5 ∧ j = 19) → g2 b j = g b j) (fun (u : zS) (t : State) => zB D tc (zA [] L s.heap.size) [] u t) (zA [] L s.heap.size)) ([.ref (P 0)] : List Value).toArray s 0 0 (zA [] L s.heap.size)) (F0 m 54 ls (.ref r9 :: [.ref (cf i)]))
            refine lv_ifnull hx hb dX8_beginCores_54 ?_
            refine lv_iconst (v := 1) hx hb dX8_beginCores_57 (by decide) ?_
            refine lv_goto (tgt := 62) hx hb dX8_beginCores_58 (by decide) ?_
            refine z_cv hI (va_runV (As := [.int 1]) (rest := []) ⟨hx, hb, hml, hown, hts⟩ (c_X3_noteBusy l _ _ _ _ _ _ _ (cf i) kc 1 (Or.inr rfl)) (cwV 1 hts gX8_beginCores_X3_noteBusy rfl rfl rfl (by decide +kernel) ⟨Nat.le_of_ble_eq_true rfl, Nat.le_of_ble_eq_true rfl⟩) (z_preV hK hE hI [] rfl rfl (z_recv hK hI kc rfl rfl)) rfl rfl hl.1 rfl (lv_room (Nat.le_of_ble_eq_true rfl)) dX8_beginCores_62 ⟨Nat.le_of_ble_eq_true rfl, Nat.le_of_ble_eq_true rfl⟩) (fun u H locs hw hI => ?_)
            obtain rfl := hw
            exact hL65 _ _ hI
        · rw [hx9.trans (hSk.2.2.2.2.2.1 i (by omega) (by omega))]
          refine lv_astoreN (lv' := [(5, .null), (4, .int (nI i)), (3, .int 6), (2, .ref (P 1)), (1, .int x1), (0, .ref (P 0))]) hx hb dX8_beginCores_36 hl (by decide) rfl (fun ls hl => ?_)
          refine lv_aloadN hx hb dX8_beginCores_38 (lv_at hl 0 rfl) ?_
          refine lv_ifnullN (tgt := 79) hx hb dX8_beginCores_40 (by decide) ?_
          refine lv_iinc (v := nI (i + 1)) (lv' := [(4, .int (nI (i + 1))), (5, .null), (3, .int 6), (2, .ref (P 1)), (1, .int x1), (0, .ref (P 0))]) hx hb dX8_beginCores_79 hl (k := 1) rfl (z_inc i) (by decide) rfl (fun ls hl => ?_)
          refine lv_goto (tgt := 26) hx hb dX8_beginCores_82 (by decide) ?_
          exact ih _ _ x1 gk (i + 1) (by omega) (by omega) hSk (hWk.skip (by omega)) hok hI _ (lv_sub hl [0, 2, 3, 4, 5] rfl)
  have hW1 : zWi g cf n Bw 0 := fun x hx => by rw [if_neg (Nat.not_lt_zero x)]; exact hW0 x hx
  refine lv_aload_n hx hb dX8_beginCores_0 rfl (lv_at hl 0 rfl) ?_
  refine z_get (k := 10) (j := 8) hM hI k0 rfl rfl hinX8 rfl (by decide) (by decide +kernel) (fun _ h9 => h9) dX8_beginCores_1 (fun v9 hv9 => ?_)
  obtain ⟨-, i9, rfl⟩ := hv9
  refine lv_iconst (v := 4) hx hb dX8_beginCores_4 (by decide) ?_
  refine lv_irem hx hb dX8_beginCores_5 (by decide) ?_
  refine lv_topi (fun v9 _ => ?_)
  refine lv_if_ne (tgt := 13) hx hb dX8_beginCores_6 (by decide) (fun _ => ?_) (fun _ => ?_)
  · skip
    refine lv_iconst (v := 0) hx hb dX8_beginCores_13 (by decide) ?_
    refine lv_istore_n (lv' := [(1, .int 0), (0, .ref (P 0))]) hx hb dX8_beginCores_14 rfl hl (by decide) rfl (fun ls hl => ?_)
    refine lv_aload_n hx hb dX8_beginCores_15 rfl (lv_at hl 1 rfl) ?_
    refine z_get (k := 10) (j := 1) hM hI k0 rfl rfl hinX8 rfl (by decide) (by decide +kernel) (fun _ h9 => h9) dX8_beginCores_16 (fun v9 hv9 => ?_)
    obtain ⟨hg9, r9, rfl, -⟩ := hv9
    obtain rfl : (P 1) = r9 := Value.ref.inj ((l1).symm.trans hg9.symm)
    clear hg9
    refine lv_astore_n (lv' := [(2, .ref (P 1)), (1, .int 0), (0, .ref (P 0))]) hx hb dX8_beginCores_19 rfl hl (by decide) rfl (fun ls hl => ?_)
    refine lv_aload_n hx hb dX8_beginCores_20 rfl (lv_at hl 0 rfl) ?_
    refine z_alen (v := 6) hM hI k1 rfl rfl rfl (by decide) dX8_beginCores_21 ?_
    refine lv_istore_n (lv' := [(3, .int 6), (2, .ref (P 1)), (1, .int 0), (0, .ref (P 0))]) hx hb dX8_beginCores_22 rfl hl (by decide) rfl (fun ls hl => ?_)
    refine lv_iconst (v := 0) hx hb dX8_beginCores_23 (by decide) ?_
    refine lv_istore (lv' := [(4, .int 0), (3, .int 6), (2, .ref (P 1)), (1, .int 0), (0, .ref (P 0))]) hx hb dX8_beginCores_24 hl (by decide) rfl (fun ls hl => ?_)
    exact hL 7 _ _ 0 g 0 (by omega) (by omega) hS hW1 (fun _ _ _ => rfl) hI _ (lv_sub hl [0, 1, 2, 3, 4] rfl)
  · skip
    refine lv_iconst (v := 1) hx hb dX8_beginCores_9 (by decide) ?_
    refine lv_goto (tgt := 14) hx hb dX8_beginCores_10 (by decide) ?_
    refine lv_istore_n (lv' := [(1, .int 1), (0, .ref (P 0))]) hx hb dX8_beginCores_14 rfl hl (by decide) rfl (fun ls hl => ?_)
    refine lv_aload_n hx hb dX8_beginCores_15 rfl (lv_at hl 1 rfl) ?_
    refine z_get (k := 10) (j := 1) hM hI k0 rfl rfl hinX8 rfl (by decide) (by decide +kernel) (fun _ h9 => h9) dX8_beginCores_16 (fun v9 hv9 => ?_)
    obtain ⟨hg9, r9, rfl, -⟩ := hv9
    obtain rfl : (P 1) = r9 := Value.ref.inj ((l1).symm.trans hg9.symm)
    clear hg9
    refine lv_astore_n (lv' := [(2, .ref (P 1)), (1, .int 1), (0, .ref (P 0))]) hx hb dX8_beginCores_19 rfl hl (by decide) rfl (fun ls hl => ?_)
    refine lv_aload_n hx hb dX8_beginCores_20 rfl (lv_at hl 0 rfl) ?_
    refine z_alen (v := 6) hM hI k1 rfl rfl rfl (by decide) dX8_beginCores_21 ?_
    refine lv_istore_n (lv' := [(3, .int 6), (2, .ref (P 1)), (1, .int 1), (0, .ref (P 0))]) hx hb dX8_beginCores_22 rfl hl (by decide) rfl (fun ls hl => ?_)
    refine lv_iconst (v := 0) hx hb dX8_beginCores_23 (by decide) ?_
    refine lv_istore (lv' := [(4, .int 0), (3, .int 6), (2, .ref (P 1)), (1, .int 1), (0, .ref (P 0))]) hx hb dX8_beginCores_24 hl (by decide) rfl (fun ls hl => ?_)
    exact hL 7 _ _ 1 g 0 (by omega) (by omega) hS hW1 (fun _ _ _ => rfl) hI _ (lv_sub hl [0, 1, 2, 3, 4] rfl)

set_option maxHeartbeats 4000000 in
set_option maxRecDepth 100000 in
theorem a_X8_oneTick (l : Launch) (D : va_G) (tc : Nat → ClassId) (z0 : Nat) (L : List Nat) (κ : Nat → Nat) (g : Nat → Nat → Value) (sz : Nat) (P cf b a q : Nat → Nat) (n t9 k9 : Nat) (hJ : zSd42 κ g P cf b a q n t9 k9) (hk9 : k9 ≤ 512) (ht9 : t9 + 1 ≤ 9999) : Met l yX8_oneTick wsX8_oneTick ({ frames := 7, cells := 0, slots := 0, locals := 160 }) (zPc D tc z0 ([.ref (P 0)] : List Value) [] (L, κ, g) sz) (va_Qv (fun (u : zS) => ∃ g2 : Nat → Nat → Value, u = (L, κ, g2) ∧ zSd42 κ g2 P cf b a q n (t9 + 1) k9 ∧ (∀ b j, (κ b < 3 ∨ (8 < κ b ∧ κ b < 32 ∧ κ b ≠ 10 ∧ κ b ≠ 31) ∨ 58 < κ b) → g2 b j = g b j) ∧ ∀ j, j < 8 → g2 (P 0) j = g (P 0) j) (fun (u : zS) (t : State) => zB D tc (zA [] L sz) [] u t) (zA [] L sz)) 0 0 (zA [] L sz) := by
  refine Met.ofW (cc := cX8_oneTick) (maxL := 1) (ret := none) (by decide) rfl ?_
  intro p e9 s m args below meth c s₁ B hml hv
  obtain ⟨rfl, rfl, hK, hE, hI⟩ := hv.opn
  have hx := B.exec
  have hb := B.bytes
  have hr := B.returns
  have hts := atoms_spec (ws := wsX8_oneTick) B.pre
  have hown : s.vm.findClass RX8 = some m.cls := findClass_of_methodNamed B.named
  have hlocks := B.notSynchronized
  have hM : zM p s m c cX8_oneTick _ wsX8_oneTick RX8 D tc := ⟨hx, hb, hts, hown, hK⟩
  have hinX8 : ∀ w ∈ wsX80, w ∈ wsX8_oneTick := by decide +kernel
  have hl := lv_entry ([.ref (P 0)] : List Value) (n := 1) (Nat.le_of_ble_eq_true rfl)
  rw [lg_entry_eq]
  generalize (lg_sl ([.ref (P 0)] : List Value) ++ List.replicate (1 - (lg_sl ([.ref (P 0)] : List Value)).length) Slot.unset).toArray = ls at hl ⊢
  have hl : lv_has ls 1 [(0, .ref (P 0))] := hl
  have hinX2 : ∀ w ∈ wsX20, w ∈ wsX8_oneTick := by decide +kernel
  have hbd : zV g (q 0) + zHs g q n < 4294967296 ^ 15 * 1048576 := hJ.bnd hk9
  obtain ⟨hS, hH, h20, hti, -, hWn, ⟨A, O, W9, B9, E9, T9, bt, ⟨lA, lO, lW, lB, lE, lT, lb, hbt, hsum⟩, hcons⟩, hgrow⟩ := hJ
  obtain ⟨⟨k0, k1, k2, k3, k4, k5, k6⟩, -⟩ := id hS
  have hnn := zTt.nn hS
  have hn6 := hS.n6
  refine lv_aload_n hx hb dX8_oneTick_0 rfl (lv_at hl 0 rfl) ?_
  refine lv_dup hx hb dX8_oneTick_1 rfl ?_
  refine z_get (k := 10) (j := 8) hM hI k0 rfl rfl hinX8 rfl (by decide) (by decide +kernel) (fun _ h9 => h9) dX8_oneTick_2 (fun v9 hv9 => ?_)
  obtain ⟨hg9, i9, rfl⟩ := hv9
  obtain rfl : nI t9 = i9 := Value.int.inj ((hti).symm.trans hg9.symm)
  clear hg9
  refine lv_iconst (v := 1) hx hb dX8_oneTick_5 (by decide) ?_
  refine lv_iadd hx hb dX8_oneTick_6 ?_
  rw [nI_1]
  obtain ⟨g1, hG9⟩ : ∃ g9, g9 = zup g (P 0) 8 (.int (nI (t9 + 1))) := ⟨_, rfl⟩
  have hsg1 : g1 (P 0) 8 = .int (nI (t9 + 1)) := by rw [hG9]; exact zup_self _ _ _ _
  have hog1 : ∀ b j, (b ≠ (P 0) ∨ j ≠ 8) → g1 b j = g b j := fun b j h => by rw [hG9]; exact zup_ne h
  clear hG9
  refine z_put (g' := g1) (k := 10) (j := 8) hM hI k0 rfl rfl hinX8 tyX8 tyX8_ok nmX8 rfl (by decide) (by decide +kernel) (fun _ h9 => h9) rfl rfl rfl rfl ⟨hsg1.symm, _, rfl⟩ hog1 dX8_oneTick_7 (fun H locs hI => ?_)
  obtain ⟨hSg1, hv1⟩ := hS.put (x9 := P 0) (j9 := 8) k0 (by unfold zSlot; omega) hog1
  obtain ⟨-, ⟨-, -, l3g1, l4g1, l5g1, l6g1, l7g1⟩, -⟩ := id hSg1
  have hW1 : zWc g1 cf n (9999 + t9) := fun x hx => (hWn x hx).eq (hog1 (cf x) 19 (Or.inr (by decide)))
  refine lv_aload_n hx hb dX8_oneTick_10 rfl (lv_at hl 0 rfl) ?_
  refine z_get (k := 10) (j := 5) hM hI k0 rfl rfl hinX8 rfl (by decide) (by decide +kernel) (fun _ h9 => h9) dX8_oneTick_11 (fun v9 hv9 => ?_)
  obtain ⟨hg9, r9, rfl, -⟩ := hv9
  obtain rfl : (P 5) = r9 := Value.ref.inj ((l5g1).symm.trans hg9.symm)
  clear hg9
  refine z_cv hI (va_runV (As := []) (rest := []) ⟨hx, hb, hml, hown, hts⟩ (c_X5_beginToHold l _ _ _ _ _ _ _ (P 5) k5) (cwV 0 hts gX8_oneTick_X5_beginToHold rfl rfl rfl (by decide +kernel) ⟨Nat.le_of_ble_eq_true rfl, Nat.le_of_ble_eq_true rfl⟩) (z_preV hK hE hI [] rfl rfl (z_recv hK hI k5 rfl rfl)) rfl rfl hl.1 rfl (lv_room (Nat.le_of_ble_eq_true rfl)) dX8_oneTick_14 ⟨Nat.le_of_ble_eq_true rfl, Nat.le_of_ble_eq_true rfl⟩) (fun u H locs hw hI => ?_)
  obtain rfl := hw
  refine lv_aload_n hx hb dX8_oneTick_17 rfl (lv_at hl 0 rfl) ?_
  refine z_cv hI (va_runV (As := []) (rest := []) ⟨hx, hb, hml, hown, hts⟩ (a_X8_beginCores l _ _ _ _ _ _ _ P cf b a q n hSg1 (9999 + t9) (by omega) hW1) (cwV 0 hts gX8_oneTick_X8_beginCores rfl rfl rfl (by decide +kernel) ⟨Nat.le_of_ble_eq_true rfl, Nat.le_of_ble_eq_true rfl⟩) (z_preV hK hE hI [] rfl rfl (z_recv hK hI k0 rfl rfl)) rfl rfl hl.1 rfl (lv_room (Nat.le_of_ble_eq_true rfl)) dX8_oneTick_18 ⟨Nat.le_of_ble_eq_true rfl, Nat.le_of_ble_eq_true rfl⟩) (fun u H locs hw hI => ?_)
  obtain ⟨g2, rfl, hW2, ho2⟩ := hw
  have hslot : ∀ x j, zSlot (κ x) j → g2 x j = g1 x j := fun x j h => ho2 x j (fun e => by unfold zSlot at h; omega)
  obtain ⟨hSg2, hv2⟩ := hSg1.fr hslot
  have hW3 : zWa g2 (P 1) 19998 := hSg2.wa (hW2.mono (by omega))
  refine lv_aload_n hx hb dX8_oneTick_21 rfl (lv_at hl 0 rfl) ?_
  refine z_cv hI (va_runV (As := []) (rest := []) ⟨hx, hb, hml, hown, hts⟩ (c_X8_sleepAndWake l _ _ _ _ _ _ _ (P 0) k0) (cwV 0 hts gX8_oneTick_X8_sleepAndWake rfl rfl rfl (by decide +kernel) ⟨Nat.le_of_ble_eq_true rfl, Nat.le_of_ble_eq_true rfl⟩) (z_preV hK hE hI [] rfl rfl (z_recv hK hI k0 rfl rfl)) rfl rfl hl.1 rfl (lv_room (Nat.le_of_ble_eq_true rfl)) dX8_oneTick_22 ⟨Nat.le_of_ble_eq_true rfl, Nat.le_of_ble_eq_true rfl⟩) (fun u H locs hw hI => ?_)
  obtain rfl := hw
  refine lv_aload_n hx hb dX8_oneTick_25 rfl (lv_at hl 0 rfl) ?_
  refine z_cv hI (va_runV (As := []) (rest := []) ⟨hx, hb, hml, hown, hts⟩ (c_X8_wishAndClamp l _ _ _ _ _ _ _ (P 0) k0 (P 1) hSg2.2.1.1 hW3) (cwV 0 hts gX8_oneTick_X8_wishAndClamp rfl rfl rfl (by decide +kernel) ⟨Nat.le_of_ble_eq_true rfl, Nat.le_of_ble_eq_true rfl⟩) (z_preV hK hE hI [] rfl rfl (z_recv hK hI k0 rfl rfl)) rfl rfl hl.1 rfl (lv_room (Nat.le_of_ble_eq_true rfl)) dX8_oneTick_26 ⟨Nat.le_of_ble_eq_true rfl, Nat.le_of_ble_eq_true rfl⟩) (fun u H locs hw hI => ?_)
  obtain rfl := hw
  refine lv_aload_n hx hb dX8_oneTick_29 rfl (lv_at hl 0 rfl) ?_
  refine z_cv hI (va_runV (As := []) (rest := []) ⟨hx, hb, hml, hown, hts⟩ (c_X8_driveRails l _ _ _ _ _ _ _ (P 0) k0 (P 1) hSg2.2.1.1 hW3) (cwV 0 hts gX8_oneTick_X8_driveRails rfl rfl rfl (by decide +kernel) ⟨Nat.le_of_ble_eq_true rfl, Nat.le_of_ble_eq_true rfl⟩) (z_preV hK hE hI [] rfl rfl (z_recv hK hI k0 rfl rfl)) rfl rfl hl.1 rfl (lv_room (Nat.le_of_ble_eq_true rfl)) dX8_oneTick_30 ⟨Nat.le_of_ble_eq_true rfl, Nat.le_of_ble_eq_true rfl⟩) (fun u H locs hw hI => ?_)
  obtain rfl := hw
  refine lv_aload_n hx hb dX8_oneTick_33 rfl (lv_at hl 0 rfl) ?_
  refine z_cv hI (va_runV (As := []) (rest := []) ⟨hx, hb, hml, hown, hts⟩ (c_X8_letCoresRun l _ _ _ _ _ _ _ (P 0) k0 (P 1) hSg2.2.1.1 hW3) (cwV 0 hts gX8_oneTick_X8_letCoresRun rfl rfl rfl (by decide +kernel) ⟨Nat.le_of_ble_eq_true rfl, Nat.le_of_ble_eq_true rfl⟩) (z_preV hK hE hI [] rfl rfl (z_recv hK hI k0 rfl rfl)) rfl rfl hl.1 rfl (lv_room (Nat.le_of_ble_eq_true rfl)) dX8_oneTick_34 ⟨Nat.le_of_ble_eq_true rfl, Nat.le_of_ble_eq_true rfl⟩) (fun u H locs hw hI => ?_)
  obtain rfl := hw
  have hv : ∀ y, y < 5 + 2 * n → zV g2 (q y) = zV g (q y) := fun y hy => (hv2 y hy).trans (hv1 y hy)
  have hH2 : zHt g2 q n := hH.same (fun y hy _ _ => hv y hy)
  have hs2 : zHs g2 q n = zHs g q n := zHs_same (fun y hy _ _ => hv y hy)
  have e0 := hv 0 (by omega)
  have e2 := hv 2 (by omega)
  refine lv_aload_n hx hb dX8_oneTick_37 rfl (lv_at hl 0 rfl) ?_
  refine z_cv hI (va_runV (As := []) (rest := []) ⟨hx, hb, hml, hown, hts⟩ (a_X8_heatCores l _ _ _ _ _ _ _ P cf b a q n hSg2 (by rw [e0, hs2]; exact hbd) hH2) (cwV 0 hts gX8_oneTick_X8_heatCores rfl rfl rfl (by decide +kernel) ⟨Nat.le_of_ble_eq_true rfl, Nat.le_of_ble_eq_true rfl⟩) (z_preV hK hE hI [] rfl rfl (z_recv hK hI k0 rfl rfl)) rfl rfl hl.1 rfl (lv_room (Nat.le_of_ble_eq_true rfl)) dX8_oneTick_38 ⟨Nat.le_of_ble_eq_true rfl, Nat.le_of_ble_eq_true rfl⟩) (fun u H locs hw hI => ?_)
  obtain ⟨g3, rfl, c1, c2, c3, -, c5, c6, c7⟩ := hw
  have hSg3 := hSg2.q c2 c1
  have f0 := c3 0 (by omega)
  have f2 := c3 2 (by omega)
  have h3nn : 0 ≤ zV g3 (q 3) := c1.nn (by omega)
  have hH3 : zHt g3 q n := ⟨by rw [c3 1 (by omega), f0]; exact hH2.1, fun j hj => ⟨(c5 j hj (by omega)).1, Int.le_trans (hH2.2 j hj).2 (c5 j hj (by omega)).2⟩⟩
  rw [show min 6 n = n by omega] at c7
  refine lv_aload_n hx hb dX8_oneTick_41 rfl (lv_at hl 0 rfl) ?_
  refine z_cv hI (va_runV (As := []) (rest := []) ⟨hx, hb, hml, hown, hts⟩ (a_X8_flowToCase l _ _ _ _ _ _ _ P cf b a q n hSg3 (by omega) hH3) (cwV 0 hts gX8_oneTick_X8_flowToCase rfl rfl rfl (by decide +kernel) ⟨Nat.le_of_ble_eq_true rfl, Nat.le_of_ble_eq_true rfl⟩) (z_preV hK hE hI [] rfl rfl (z_recv hK hI k0 rfl rfl)) rfl rfl hl.1 rfl (lv_room (Nat.le_of_ble_eq_true rfl)) dX8_oneTick_42 ⟨Nat.le_of_ble_eq_true rfl, Nat.le_of_ble_eq_true rfl⟩) (fun u H locs hw hI => ?_)
  obtain ⟨g4, rfl, hSg4, hQ4, hH4, d1, d2, d3⟩ := hw
  obtain ⟨-, ⟨-, -, l3g4, l4g4, l5g4, l6g4, l7g4⟩, -⟩ := id hSg4
  have hQ34 : zQ κ g2 g4 := c2.tr hQ4
  have o12 : ∀ b j, ¬ (κ b = 5 ∧ j = 19) → (b ≠ P 0 ∨ j ≠ 8) → g2 b j = g b j := fun b j h1 h2 => (ho2 b j h1).trans (hog1 b j h2)
  have o14 : ∀ b j k, κ b = k → (k < 32 ∨ (38 < k ∧ k < 52) ∨ 58 < k) → ¬ (k = 5 ∧ j = 19) → (b ≠ P 0 ∨ j ≠ 8) → g4 b j = g b j := fun b j k e h1 h2 h3 => (hQ34.at j e h1).trans (o12 b j (fun h => h2 ⟨by rw [← e]; exact h.1, h.2⟩) h3)
  have lA4 : g4 (P 3) 2 = .long (Int64.ofInt A) := (o14 _ _ _ k3 (by decide) (by decide) (Or.inr (by decide))).trans lA
  refine lv_aload_n hx hb dX8_oneTick_45 rfl (lv_at hl 0 rfl) ?_
  refine z_get (k := 10) (j := 3) hM hI k0 rfl rfl hinX8 rfl (by decide) (by decide +kernel) (fun _ h9 => h9) dX8_oneTick_46 (fun v9 hv9 => ?_)
  obtain ⟨hg9, r9, rfl, -⟩ := hv9
  obtain rfl : (P 3) = r9 := Value.ref.inj ((l3g4).symm.trans hg9.symm)
  clear hg9
  refine lv_aload_n hx hb dX8_oneTick_49 rfl (lv_at hl 0 rfl) ?_
  refine z_get (k := 10) (j := 7) hM hI k0 rfl rfl hinX8 rfl (by decide) (by decide +kernel) (fun _ h9 => h9) dX8_oneTick_50 (fun v9 hv9 => ?_)
  obtain ⟨hg9, r9, rfl, -⟩ := hv9
  obtain rfl : (a 4) = r9 := Value.ref.inj ((l7g4).symm.trans hg9.symm)
  clear hg9
  refine z_cv hI (va_runV (As := [.ref (a 4)]) (rest := []) ⟨hx, hb, hml, hown, hts⟩ (a_X2_giveToAir l _ _ _ _ _ _ _ P cf b a q n hSg4 (by omega) hH4 (by omega) A lA4) (cwV 1 hts gX8_oneTick_X2_giveToAir rfl rfl rfl (by decide +kernel) ⟨Nat.le_of_ble_eq_true rfl, Nat.le_of_ble_eq_true rfl⟩) (z_preV hK hE hI [] rfl rfl (z_recv hK hI k3 rfl rfl)) rfl rfl hl.1 rfl (lv_room (Nat.le_of_ble_eq_true rfl)) dX8_oneTick_53 ⟨Nat.le_of_ble_eq_true rfl, Nat.le_of_ble_eq_true rfl⟩) (fun u H locs hw hI => ?_)
  obtain ⟨g5, G, hG0, rfl, hSg5, hH5, a0, as, a2, a3, lA5, hQ5⟩ := hw
  obtain ⟨-, ⟨-, -, l3g5, l4g5, l5g5, l6g5, l7g5⟩, -⟩ := id hSg5
  refine lv_aload_n hx hb dX8_oneTick_56 rfl (lv_at hl 0 rfl) ?_
  refine z_get (k := 10) (j := 3) hM hI k0 rfl rfl hinX8 rfl (by decide) (by decide +kernel) (fun _ h9 => h9) dX8_oneTick_57 (fun v9 hv9 => ?_)
  obtain ⟨hg9, r9, rfl, -⟩ := hv9
  obtain rfl : (P 3) = r9 := Value.ref.inj ((l3g5).symm.trans hg9.symm)
  clear hg9
  refine z_cv hI (va_runV (As := []) (rest := []) ⟨hx, hb, hml, hown, hts⟩ (c_X2_stepFan l _ _ _ _ _ _ _ (P 3) k3) (cwV 0 hts gX8_oneTick_X2_stepFan rfl rfl rfl (by decide +kernel) ⟨Nat.le_of_ble_eq_true rfl, Nat.le_of_ble_eq_true rfl⟩) (z_preV hK hE hI [] rfl rfl (z_recv hK hI k3 rfl rfl)) rfl rfl hl.1 rfl (lv_room (Nat.le_of_ble_eq_true rfl)) dX8_oneTick_60 ⟨Nat.le_of_ble_eq_true rfl, Nat.le_of_ble_eq_true rfl⟩) (fun u H locs hw hI => ?_)
  obtain rfl := hw
  refine lv_aload_n hx hb dX8_oneTick_63 rfl (lv_at hl 0 rfl) ?_
  refine z_get (k := 10) (j := 7) hM hI k0 rfl rfl hinX8 rfl (by decide) (by decide +kernel) (fun _ h9 => h9) dX8_oneTick_64 (fun v9 hv9 => ?_)
  obtain ⟨hg9, r9, rfl, -⟩ := hv9
  obtain rfl : (a 4) = r9 := Value.ref.inj ((l7g5).symm.trans hg9.symm)
  clear hg9
  refine lv_aload_n hx hb dX8_oneTick_67 rfl (lv_at hl 0 rfl) ?_
  refine z_get (k := 10) (j := 3) hM hI k0 rfl rfl hinX8 rfl (by decide) (by decide +kernel) (fun _ h9 => h9) dX8_oneTick_68 (fun v9 hv9 => ?_)
  obtain ⟨hg9, r9, rfl, -⟩ := hv9
  obtain rfl : (P 3) = r9 := Value.ref.inj ((l3g5).symm.trans hg9.symm)
  clear hg9
  refine z_ci hI (va_runV (As := []) (rest := [.ref (a 4)]) ⟨hx, hb, hml, hown, hts⟩ (a_X2_runFan l _ _ _ _ _ _ _ (P 3) k3 (A + G) lA5) (cwV 0 hts gX8_oneTick_X2_runFan rfl rfl rfl (by decide +kernel) ⟨Nat.le_of_ble_eq_true rfl, Nat.le_of_ble_eq_true rfl⟩) (z_preV hK hE hI [] rfl rfl (z_recv hK hI k3 rfl rfl)) rfl rfl hl.1 rfl (lv_room (Nat.le_of_ble_eq_true rfl)) dX8_oneTick_71 ⟨Nat.le_of_ble_eq_true rfl, Nat.le_of_ble_eq_true rfl⟩) (fun fp u H locs hw hI => ?_)
  obtain ⟨g6, rfl, hfp, lA6, ho6⟩ := hw
  obtain ⟨hSg6, hv6⟩ := hSg5.put (x9 := P 3) (j9 := 2) k3 (by unfold zSlot; omega) ho6
  obtain ⟨hkk1, hqk1, uk1, hnk1⟩ := hSg6.af.1 4 (by omega)
  refine z_cv hI (va_runV (As := [.int fp]) (rest := []) ⟨hx, hb, hml, hown, hts⟩ (a_X0_become l _ _ _ _ _ _ _ (a 4) (q 4) uk1 _ _ fp (kx_ok 4) hkk1 hqk1 hnk1.toZN0 hfp.1) (cwV 1 hts gX8_oneTick_X0_become rfl rfl rfl (by decide +kernel) ⟨Nat.le_of_ble_eq_true rfl, Nat.le_of_ble_eq_true rfl⟩) (z_preV hK hE hI [] rfl rfl (z_recv hK hI hkk1 (kx_ok 4).1 rfl)) rfl rfl hl.1 rfl (lv_room (Nat.le_of_ble_eq_true rfl)) dX8_oneTick_74 ⟨Nat.le_of_ble_eq_true rfl, Nat.le_of_ble_eq_true rfl⟩) (fun u H locs hw hI => ?_)
  obtain ⟨g7, rfl, AFg7, hvg7, hog7, hQg7⟩ := hSg6.af.am (by omega) hw
  have hSg7 := hSg6.q hQg7 AFg7
  obtain ⟨-, ⟨-, -, l3g7, l4g7, l5g7, l6g7, l7g7⟩, -⟩ := id hSg7
  have x3 := hog7 3 (by omega) (by omega)
  have y3 := hv6 3 (by omega)
  refine lv_aload_n hx hb dX8_oneTick_77 rfl (lv_at hl 0 rfl) ?_
  refine z_get (k := 10) (j := 6) hM hI k0 rfl rfl hinX8 rfl (by decide) (by decide +kernel) (fun _ h9 => h9) dX8_oneTick_78 (fun v9 hv9 => ?_)
  obtain ⟨hg9, r9, rfl, -⟩ := hv9
  obtain rfl : (a 3) = r9 := Value.ref.inj ((l6g7).symm.trans hg9.symm)
  clear hg9
  refine lv_aload_n hx hb dX8_oneTick_81 rfl (lv_at hl 0 rfl) ?_
  refine z_get (k := 10) (j := 7) hM hI k0 rfl rfl hinX8 rfl (by decide) (by decide +kernel) (fun _ h9 => h9) dX8_oneTick_82 (fun v9 hv9 => ?_)
  obtain ⟨hg9, r9, rfl, -⟩ := hv9
  obtain rfl : (a 4) = r9 := Value.ref.inj ((l7g7).symm.trans hg9.symm)
  clear hg9
  obtain ⟨hkk2, hqk2, uk2, hnk2⟩ := AFg7.1 3 (by omega)
  obtain ⟨hkk3, hqk3, uk3, hnk3⟩ := AFg7.1 4 (by omega)
  refine z_cv hI (va_runV (As := [.ref (a 4)]) (rest := []) ⟨hx, hb, hml, hown, hts⟩ (a_X0_add l _ _ _ _ _ _ _ (a 3) (q 3) uk2 _ _ (a 4) (q 4) uk3 _ _  (kx_ok 3) hkk2 hqk2 hnk2.toZN0 (kx_ok 4) hkk3 hqk3 hnk3.toZN0 (AFg7.2 4 3 (by omega) (by omega) (by omega)).1 (AFg7.2 4 3 (by omega) (by omega) (by omega)).2 (by omega)) (cwV 1 hts gX8_oneTick_X0_add rfl rfl rfl (by decide +kernel) ⟨Nat.le_of_ble_eq_true rfl, Nat.le_of_ble_eq_true rfl⟩) (z_preV hK hE hI [] rfl rfl (z_recv hK hI hkk2 (kx_ok 3).1 rfl)) rfl rfl hl.1 rfl (lv_room (Nat.le_of_ble_eq_true rfl)) dX8_oneTick_85 ⟨Nat.le_of_ble_eq_true rfl, Nat.le_of_ble_eq_true rfl⟩) (fun u H locs hw hI => ?_)
  obtain ⟨g8, rfl, AFg8, hvg8, hog8, hQg8⟩ := AFg7.am (by omega) hw
  have hSg8 := hSg7.q hQg8 AFg8
  obtain ⟨-, ⟨-, -, l3g8, l4g8, l5g8, l6g8, l7g8⟩, -⟩ := id hSg8
  have hQ78 : zQ κ g6 g8 := hQg7.tr hQg8
  have o48 : ∀ b j k, κ b = k → (k < 32 ∨ (38 < k ∧ k < 52) ∨ 58 < k) → (b ≠ P 3 ∨ j ≠ 2) → g8 b j = g4 b j := fun b j k e h1 h2 => (hQ78.at j e h1).trans ((ho6 b j h2).trans (hQ5 b j (by omega) (by omega) (fun h => h2.elim (fun h3 => h3 h.1) (fun h3 => h3 h.2))))
  have o18 : ∀ b j k, κ b = k → (k < 32 ∨ (38 < k ∧ k < 52) ∨ 58 < k) → ¬ (k = 5 ∧ j = 19) → (b ≠ P 0 ∨ j ≠ 8) → (b ≠ P 3 ∨ j ≠ 2) → g8 b j = g b j := fun b j k e h1 h2 h3 h4 => (o48 b j k e h1 h4).trans (o14 b j k e h1 h2 h3)
  have n43 : P 4 ≠ P 3 := z_apart k4 k3 (by decide)
  have n40 : P 4 ≠ P 0 := z_apart k4 k0 (by decide)
  have n03 : P 0 ≠ P 3 := z_apart k0 k3 (by decide)
  have s8 : ∀ j, g8 (P 4) j = g (P 4) j := fun j => o18 _ j _ k4 (by decide) (fun h9 => absurd h9.1 (by decide)) (Or.inl n40) (Or.inl n43)
  obtain ⟨hk3, hq3, u3, hn3⟩ := hSg8.af.1 3 (by omega)
  have hkx3 : kx 3 = 37 := rfl
  refine lv_aload_n hx hb dX8_oneTick_88 rfl (lv_at hl 0 rfl) ?_
  refine z_get (k := 10) (j := 4) hM hI k0 rfl rfl hinX8 rfl (by decide) (by decide +kernel) (fun _ h9 => h9) dX8_oneTick_89 (fun v9 hv9 => ?_)
  obtain ⟨hg9, r9, rfl, -⟩ := hv9
  obtain rfl : (P 4) = r9 := Value.ref.inj ((l4g8).symm.trans hg9.symm)
  clear hg9
  refine lv_aload_n hx hb dX8_oneTick_92 rfl (lv_at hl 0 rfl) ?_
  refine z_get (k := 10) (j := 6) hM hI k0 rfl rfl hinX8 rfl (by decide) (by decide +kernel) (fun _ h9 => h9) dX8_oneTick_93 (fun v9 hv9 => ?_)
  obtain ⟨hg9, r9, rfl, -⟩ := hv9
  obtain rfl : (a 3) = r9 := Value.ref.inj ((l6g8).symm.trans hg9.symm)
  clear hg9
  refine z_cv hI (va_runV (As := [.ref (a 3)]) (rest := []) ⟨hx, hb, hml, hown, hts⟩ (a_X6_give l _ _ _ _ _ _ _ (P 4) k4 (a 3) (q 3) u3 _ _ (kx_ok 3) hk3 hq3 hn3 ⟨z_apart hk3 k4 (by decide), z_apart hq3 k4 (by decide)⟩ W9 B9 E9 T9 bt hbt ((s8 1).trans lb) ((s8 6).trans lW) ((s8 7).trans lB) ((s8 8).trans lE) ((s8 9).trans lT) hsum) (cwV 1 hts gX8_oneTick_X6_give rfl rfl rfl (by decide +kernel) ⟨Nat.le_of_ble_eq_true rfl, Nat.le_of_ble_eq_true rfl⟩) (z_preV hK hE hI [] rfl rfl (z_recv hK hI k4 rfl rfl)) rfl rfl hl.1 rfl (lv_room (Nat.le_of_ble_eq_true rfl)) dX8_oneTick_96 ⟨Nat.le_of_ble_eq_true rfl, Nat.le_of_ble_eq_true rfl⟩) (fun u H locs hw hI => ?_)
  obtain ⟨g9, W2, B2, E2, t2, rfl, ht2, r1, r6, r7, r8, r9, rsum, ho9⟩ := hw
  obtain ⟨hSg9, hv9⟩ := hSg8.fr (fun x j h => ho9 x j (fun e => by unfold zSlot at h; rw [e, k4] at h; omega))
  have v9 : ∀ y, y < 5 + 2 * n → y ≠ 4 → y ≠ 3 → zV g9 (q y) = zV g5 (q y) := fun y y0 y4 y3 => (hv9 y y0).trans ((hog8 y y0 y3).trans ((hog7 y y0 y4).trans (hv6 y y0)))
  have z0 := v9 0 (by omega) (by decide) (by decide)
  have z2 := v9 2 (by omega) (by decide) (by decide)
  have zs : zHs g9 q n = zHs g5 q n := zHs_same v9
  have o9 : ∀ b j k, κ b = k → (k < 32 ∨ (38 < k ∧ k < 52) ∨ 58 < k) → ¬ (k = 5 ∧ j = 19) → (b ≠ P 0 ∨ j ≠ 8) → (b ≠ P 3 ∨ j ≠ 2) → b ≠ P 4 → g9 b j = g b j := fun b j k e h1 h2 h3 h4 h5 => (ho9 b j h5).trans (o18 b j k e h1 h2 h3 h4)
  have hW9 : zWc g9 cf n (9999 + (t9 + 1)) := fun x hx => ((hW2 x hx).mono (by omega)).eq ((ho9 _ 19 (z_apart (hSg2.co hx).1 k4 (by decide))).trans ((o48 _ 19 5 (hSg2.co hx).1 (by decide) (Or.inr (by decide))).trans (hQ34.at 19 (hSg2.co hx).1 (by decide))))
  have hT9 : g9 (P 0) 8 = .int (nI (t9 + 1)) := (ho9 _ 8 (Ne.symm n40)).trans ((o48 _ 8 10 k0 (by decide) (Or.inr (by decide))).trans ((hQ34.at 8 k0 (by decide)).trans ((ho2 _ 8 (fun h => by omega)).trans hsg1)))
  have lA9 : g9 (P 3) 2 = .long (Int64.ofInt (A + G + fp.toInt)) := (ho9 _ 2 (Ne.symm n43)).trans ((hQ78.at 2 k3 (by decide)).trans lA6)
  have lO9 : g9 (P 0) 9 = .long (Int64.ofInt O) := (o9 _ 9 _ k0 (by decide) (by decide) (Or.inr (by decide)) (Or.inl n03) (Ne.symm n40)).trans lO
  have hg9 : (zTt g9 q n + 100000) * 100 ≤ 103 * (zTt g q n + 100000) := by
    show (zV g9 (q 0) + zHs g9 q n + 100000) * 100 ≤ 103 * (zV g (q 0) + zHs g q n + 100000)
    omega
  have hcn : zTt g9 q n + (A + G + fp.toInt) = 4000 + 400 * (n : Int) + (T9 + zV g8 (q 3)) + O := by
    show zV g9 (q 0) + zHs g9 q n + (A + G + fp.toInt) = _
    have hc9 : zV g (q 0) + zHs g q n + A = 4000 + 400 * (n : Int) + T9 + O := hcons
    omega
  exact W.vret hx hb hr (fun t ht hW => ⟨⟨(L, κ, g9), rfl, ⟨g9, rfl, ⟨hSg9, hH5.same v9, by omega, hT9, ht9, hW9, ⟨A + G + fp.toInt, O, W2, B2, E2, T9 + zV g8 (q 3), t2, ⟨lA9, lO9, r6, r7, r8, r9, r1, ht2, rsum⟩, hcn⟩, zGrow hgrow hg9⟩, fun b j h => o9 b j _ rfl (by omega) (by omega) (Or.inl (fun e => by rw [e, k0] at h; omega)) (Or.inl (fun e => by rw [e, k3] at h; omega)) (fun e => by rw [e, k4] at h; omega), fun j hj => o9 _ j _ k0 (by decide) (fun h9 => absurd h9.1 (by decide)) (Or.inr (by omega)) (Or.inl n03) (Ne.symm n40)⟩, z_end hK hI ht hW⟩, z_F hI ht⟩) (z_locs hI) dX8_oneTick_99
